theorem dX6_init_0 : decode cX6_init 0 = .ok (.aload_n 0, 1) := by decide +kernel
theorem dX6_init_1 : decode cX6_init 1 = .ok (.invokespecial 1, 3) := by decide +kernel
theorem dX6_init_4 : decode cX6_init 4 = .ok (.aload_n 0, 1) := by decide +kernel
theorem dX6_init_5 : decode cX6_init 5 = .ok (.sipush 3420, 3) := by decide +kernel
theorem dX6_init_8 : decode cX6_init 8 = .ok (.newarray .long, 2) := by decide +kernel
theorem dX6_init_10 : decode cX6_init 10 = .ok (.putfield 7, 3) := by decide +kernel
theorem dX6_init_13 : decode cX6_init 13 = .ok (.aload_n 0, 1) := by decide +kernel
theorem dX6_init_14 : decode cX6_init 14 = .ok (.iconst 2, 1) := by decide +kernel
theorem dX6_init_15 : decode cX6_init 15 = .ok (.newarray .int, 2) := by decide +kernel
theorem dX6_init_17 : decode cX6_init 17 = .ok (.putfield 13, 3) := by decide +kernel
theorem dX6_init_20 : decode cX6_init 20 = .ok (.aload_n 0, 1) := by decide +kernel
theorem dX6_init_21 : decode cX6_init 21 = .ok (.iconst 2, 1) := by decide +kernel
theorem dX6_init_22 : decode cX6_init 22 = .ok (.newarray .boolean, 2) := by decide +kernel
theorem dX6_init_24 : decode cX6_init 24 = .ok (.putfield 17, 3) := by decide +kernel
theorem dX6_init_27 : decode cX6_init 27 = .ok (.aload_n 0, 1) := by decide +kernel
theorem dX6_init_28 : decode cX6_init 28 = .ok (.bipush 20, 2) := by decide +kernel
theorem dX6_init_30 : decode cX6_init 30 = .ok (.newarray .int, 2) := by decide +kernel
theorem dX6_init_32 : decode cX6_init 32 = .ok (.putfield 21, 3) := by decide +kernel
theorem dX6_init_35 : decode cX6_init 35 = .ok (.aload_n 0, 1) := by decide +kernel
theorem dX6_init_36 : decode cX6_init 36 = .ok (.bipush 20, 2) := by decide +kernel
theorem dX6_init_38 : decode cX6_init 38 = .ok (.newarray .int, 2) := by decide +kernel
theorem dX6_init_40 : decode cX6_init 40 = .ok (.putfield 24, 3) := by decide +kernel
theorem dX6_init_43 : decode cX6_init 43 = .ok (.aload_n 0, 1) := by decide +kernel
theorem dX6_init_44 : decode cX6_init 44 = .ok (.bipush 12, 2) := by decide +kernel
theorem dX6_init_46 : decode cX6_init 46 = .ok (.newarray .int, 2) := by decide +kernel
theorem dX6_init_48 : decode cX6_init 48 = .ok (.putfield 27, 3) := by decide +kernel
theorem dX6_init_51 : decode cX6_init 51 = .ok (.aload_n 0, 1) := by decide +kernel
theorem dX6_init_52 : decode cX6_init 52 = .ok (.bipush 12, 2) := by decide +kernel
theorem dX6_init_54 : decode cX6_init 54 = .ok (.newarray .int, 2) := by decide +kernel
theorem dX6_init_56 : decode cX6_init 56 = .ok (.putfield 30, 3) := by decide +kernel
theorem dX6_init_59 : decode cX6_init 59 = .ok (.aload_n 0, 1) := by decide +kernel
theorem dX6_init_60 : decode cX6_init 60 = .ok (.bipush 12, 2) := by decide +kernel
theorem dX6_init_62 : decode cX6_init 62 = .ok (.newarray .long, 2) := by decide +kernel
theorem dX6_init_64 : decode cX6_init 64 = .ok (.putfield 33, 3) := by decide +kernel
theorem dX6_init_67 : decode cX6_init 67 = .ok (.aload_n 0, 1) := by decide +kernel
theorem dX6_init_68 : decode cX6_init 68 = .ok (.bipush 12, 2) := by decide +kernel
theorem dX6_init_70 : decode cX6_init 70 = .ok (.newarray .long, 2) := by decide +kernel
theorem dX6_init_72 : decode cX6_init 72 = .ok (.putfield 36, 3) := by decide +kernel
theorem dX6_init_75 : decode cX6_init 75 = .ok (.iconst 0, 1) := by decide +kernel
theorem dX6_init_76 : decode cX6_init 76 = .ok (.istore_n 1, 1) := by decide +kernel
theorem dX6_init_77 : decode cX6_init 77 = .ok (.iload_n 1, 1) := by decide +kernel
theorem dX6_init_78 : decode cX6_init 78 = .ok (.bipush 6, 2) := by decide +kernel
theorem dX6_init_80 : decode cX6_init 80 = .ok (.if_icmp .ge 20, 3) := by decide +kernel
theorem dX6_init_83 : decode cX6_init 83 = .ok (.aload_n 0, 1) := by decide +kernel
theorem dX6_init_84 : decode cX6_init 84 = .ok (.getfield 7, 3) := by decide +kernel
theorem dX6_init_87 : decode cX6_init 87 = .ok (.iconst 0, 1) := by decide +kernel
theorem dX6_init_88 : decode cX6_init 88 = .ok (.iload_n 1, 1) := by decide +kernel
theorem dX6_init_89 : decode cX6_init 89 = .ok (.iadd, 1) := by decide +kernel
theorem dX6_init_90 : decode cX6_init 90 = .ok (.ldc2_w 39, 3) := by decide +kernel
theorem dX6_init_93 : decode cX6_init 93 = .ok (.lastore, 1) := by decide +kernel
theorem dX6_init_94 : decode cX6_init 94 = .ok (.iinc 1 1, 3) := by decide +kernel
theorem dX6_init_97 : decode cX6_init 97 = .ok (.goto (-20), 3) := by decide +kernel
theorem dX6_init_100 : decode cX6_init 100 = .ok (.aload_n 0, 1) := by decide +kernel
theorem dX6_init_101 : decode cX6_init 101 = .ok (.getfield 7, 3) := by decide +kernel
theorem dX6_init_104 : decode cX6_init 104 = .ok (.sipush 170, 3) := by decide +kernel
theorem dX6_init_107 : decode cX6_init 107 = .ok (.ldc2_w 41, 3) := by decide +kernel
theorem dX6_init_110 : decode cX6_init 110 = .ok (.lastore, 1) := by decide +kernel
theorem dX6_init_111 : decode cX6_init 111 = .ok (.iconst 0, 1) := by decide +kernel
theorem dX6_init_112 : decode cX6_init 112 = .ok (.istore_n 1, 1) := by decide +kernel
theorem dX6_init_113 : decode cX6_init 113 = .ok (.iload_n 1, 1) := by decide +kernel
theorem dX6_init_114 : decode cX6_init 114 = .ok (.bipush 8, 2) := by decide +kernel
theorem dX6_init_116 : decode cX6_init 116 = .ok (.if_icmp .ge 23, 3) := by decide +kernel
theorem dX6_init_119 : decode cX6_init 119 = .ok (.aload_n 0, 1) := by decide +kernel
theorem dX6_init_120 : decode cX6_init 120 = .ok (.getfield 7, 3) := by decide +kernel
theorem dX6_init_123 : decode cX6_init 123 = .ok (.sipush 172, 3) := by decide +kernel
theorem dX6_init_126 : decode cX6_init 126 = .ok (.iload_n 1, 1) := by decide +kernel
theorem dX6_init_127 : decode cX6_init 127 = .ok (.iadd, 1) := by decide +kernel
theorem dX6_init_128 : decode cX6_init 128 = .ok (.iload_n 1, 1) := by decide +kernel
theorem dX6_init_129 : decode cX6_init 129 = .ok (.iconst 2, 1) := by decide +kernel
theorem dX6_init_130 : decode cX6_init 130 = .ok (.idiv, 1) := by decide +kernel
theorem dX6_init_131 : decode cX6_init 131 = .ok (.i2l, 1) := by decide +kernel
theorem dX6_init_132 : decode cX6_init 132 = .ok (.lastore, 1) := by decide +kernel
theorem dX6_init_133 : decode cX6_init 133 = .ok (.iinc 1 1, 3) := by decide +kernel
theorem dX6_init_136 : decode cX6_init 136 = .ok (.goto (-23), 3) := by decide +kernel
theorem dX6_init_139 : decode cX6_init 139 = .ok (.return_, 1) := by decide +kernel
theorem dX6_in_0 : decode cX6_in 0 = .ok (.lload_n 0, 1) := by decide +kernel
theorem dX6_in_1 : decode cX6_in 1 = .ok (.lload_n 2, 1) := by decide +kernel
theorem dX6_in_2 : decode cX6_in 2 = .ok (.lcmp, 1) := by decide +kernel
theorem dX6_in_3 : decode cX6_in 3 = .ok (.ifCond .lt 14, 3) := by decide +kernel
theorem dX6_in_6 : decode cX6_in 6 = .ok (.lload_n 0, 1) := by decide +kernel
theorem dX6_in_7 : decode cX6_in 7 = .ok (.lload 4, 2) := by decide +kernel
theorem dX6_in_9 : decode cX6_in 9 = .ok (.lcmp, 1) := by decide +kernel
theorem dX6_in_10 : decode cX6_in 10 = .ok (.ifCond .gt 7, 3) := by decide +kernel
theorem dX6_in_13 : decode cX6_in 13 = .ok (.iconst 1, 1) := by decide +kernel
theorem dX6_in_14 : decode cX6_in 14 = .ok (.goto 4, 3) := by decide +kernel
theorem dX6_in_17 : decode cX6_in 17 = .ok (.iconst 0, 1) := by decide +kernel
theorem dX6_in_18 : decode cX6_in 18 = .ok (.ireturn, 1) := by decide +kernel
theorem dX6_has_0 : decode cX6_has 0 = .ok (.iload_n 0, 1) := by decide +kernel
theorem dX6_has_1 : decode cX6_has 1 = .ok (.iload_n 1, 1) := by decide +kernel
theorem dX6_has_2 : decode cX6_has 2 = .ok (.ishr, 1) := by decide +kernel
theorem dX6_has_3 : decode cX6_has 3 = .ok (.iconst 1, 1) := by decide +kernel
theorem dX6_has_4 : decode cX6_has 4 = .ok (.iand, 1) := by decide +kernel
theorem dX6_has_5 : decode cX6_has 5 = .ok (.iconst 1, 1) := by decide +kernel
theorem dX6_has_6 : decode cX6_has 6 = .ok (.if_icmp .ne 7, 3) := by decide +kernel
theorem dX6_has_9 : decode cX6_has 9 = .ok (.iconst 1, 1) := by decide +kernel
theorem dX6_has_10 : decode cX6_has 10 = .ok (.goto 4, 3) := by decide +kernel
theorem dX6_has_13 : decode cX6_has 13 = .ok (.iconst 0, 1) := by decide +kernel
theorem dX6_has_14 : decode cX6_has 14 = .ok (.ireturn, 1) := by decide +kernel
theorem dX6_ones_0 : decode cX6_ones 0 = .ok (.iconst 0, 1) := by decide +kernel
theorem dX6_ones_1 : decode cX6_ones 1 = .ok (.istore_n 1, 1) := by decide +kernel
theorem dX6_ones_2 : decode cX6_ones 2 = .ok (.iconst 0, 1) := by decide +kernel
theorem dX6_ones_3 : decode cX6_ones 3 = .ok (.istore_n 2, 1) := by decide +kernel
theorem dX6_ones_4 : decode cX6_ones 4 = .ok (.iload_n 2, 1) := by decide +kernel
theorem dX6_ones_5 : decode cX6_ones 5 = .ok (.bipush 12, 2) := by decide +kernel
theorem dX6_ones_7 : decode cX6_ones 7 = .ok (.if_icmp .ge 17, 3) := by decide +kernel
theorem dX6_ones_10 : decode cX6_ones 10 = .ok (.iload_n 1, 1) := by decide +kernel
theorem dX6_ones_11 : decode cX6_ones 11 = .ok (.iload_n 0, 1) := by decide +kernel
theorem dX6_ones_12 : decode cX6_ones 12 = .ok (.iload_n 2, 1) := by decide +kernel
theorem dX6_ones_13 : decode cX6_ones 13 = .ok (.ishr, 1) := by decide +kernel
theorem dX6_ones_14 : decode cX6_ones 14 = .ok (.iconst 1, 1) := by decide +kernel
theorem dX6_ones_15 : decode cX6_ones 15 = .ok (.iand, 1) := by decide +kernel
theorem dX6_ones_16 : decode cX6_ones 16 = .ok (.iadd, 1) := by decide +kernel
theorem dX6_ones_17 : decode cX6_ones 17 = .ok (.istore_n 1, 1) := by decide +kernel
theorem dX6_ones_18 : decode cX6_ones 18 = .ok (.iinc 2 1, 3) := by decide +kernel
theorem dX6_ones_21 : decode cX6_ones 21 = .ok (.goto (-17), 3) := by decide +kernel
theorem dX6_ones_24 : decode cX6_ones 24 = .ok (.iload_n 1, 1) := by decide +kernel
theorem dX6_ones_25 : decode cX6_ones 25 = .ok (.ireturn, 1) := by decide +kernel
theorem dX6_copy_0 : decode cX6_copy 0 = .ok (.iconst 0, 1) := by decide +kernel
theorem dX6_copy_1 : decode cX6_copy 1 = .ok (.istore_n 3, 1) := by decide +kernel
theorem dX6_copy_2 : decode cX6_copy 2 = .ok (.iload_n 3, 1) := by decide +kernel
theorem dX6_copy_3 : decode cX6_copy 3 = .ok (.sipush 180, 3) := by decide +kernel
theorem dX6_copy_6 : decode cX6_copy 6 = .ok (.if_icmp .ge 25, 3) := by decide +kernel
theorem dX6_copy_9 : decode cX6_copy 9 = .ok (.aload_n 0, 1) := by decide +kernel
theorem dX6_copy_10 : decode cX6_copy 10 = .ok (.getfield 7, 3) := by decide +kernel
theorem dX6_copy_13 : decode cX6_copy 13 = .ok (.iload_n 2, 1) := by decide +kernel
theorem dX6_copy_14 : decode cX6_copy 14 = .ok (.iload_n 3, 1) := by decide +kernel
theorem dX6_copy_15 : decode cX6_copy 15 = .ok (.iadd, 1) := by decide +kernel
theorem dX6_copy_16 : decode cX6_copy 16 = .ok (.aload_n 0, 1) := by decide +kernel
theorem dX6_copy_17 : decode cX6_copy 17 = .ok (.getfield 7, 3) := by decide +kernel
theorem dX6_copy_20 : decode cX6_copy 20 = .ok (.iload_n 1, 1) := by decide +kernel
theorem dX6_copy_21 : decode cX6_copy 21 = .ok (.iload_n 3, 1) := by decide +kernel
theorem dX6_copy_22 : decode cX6_copy 22 = .ok (.iadd, 1) := by decide +kernel
theorem dX6_copy_23 : decode cX6_copy 23 = .ok (.laload, 1) := by decide +kernel
theorem dX6_copy_24 : decode cX6_copy 24 = .ok (.lastore, 1) := by decide +kernel
theorem dX6_copy_25 : decode cX6_copy 25 = .ok (.iinc 3 1, 3) := by decide +kernel
theorem dX6_copy_28 : decode cX6_copy 28 = .ok (.goto (-26), 3) := by decide +kernel
theorem dX6_copy_31 : decode cX6_copy 31 = .ok (.return_, 1) := by decide +kernel
set_option maxRecDepth 20000 in
theorem ggX6_minds_X6_copy : GoodIn wsX6_minds wsX6_copy := goodIn_r _ [7, 2, 8, 9, 10, 11, 12, 13, 14, 15, 16, 17, 18, 19] (by decide +kernel) (by decide +kernel)
set_option maxRecDepth 20000 in
theorem gX6_minds_X6_copy : GoodIn wsX6_minds (wsV RX6 47 RX6 yX6_copy wsX6_copy) := goodIn_app (goodIn_of _ (by decide +kernel)) ggX6_minds_X6_copy
theorem dX6_minds_0 : decode cX6_minds 0 = .ok (.aload_n 0, 1) := by decide +kernel
theorem dX6_minds_1 : decode cX6_minds 1 = .ok (.getfield 43, 3) := by decide +kernel
theorem dX6_minds_4 : decode cX6_minds 4 = .ok (.bipush 16, 2) := by decide +kernel
theorem dX6_minds_6 : decode cX6_minds 6 = .ok (.if_icmp .ne 48, 3) := by decide +kernel
theorem dX6_minds_9 : decode cX6_minds 9 = .ok (.iconst 0, 1) := by decide +kernel
theorem dX6_minds_10 : decode cX6_minds 10 = .ok (.istore_n 1, 1) := by decide +kernel
theorem dX6_minds_11 : decode cX6_minds 11 = .ok (.iload_n 1, 1) := by decide +kernel
theorem dX6_minds_12 : decode cX6_minds 12 = .ok (.sipush 2700, 3) := by decide +kernel
theorem dX6_minds_15 : decode cX6_minds 15 = .ok (.if_icmp .ge 29, 3) := by decide +kernel
theorem dX6_minds_18 : decode cX6_minds 18 = .ok (.aload_n 0, 1) := by decide +kernel
theorem dX6_minds_19 : decode cX6_minds 19 = .ok (.getfield 7, 3) := by decide +kernel
theorem dX6_minds_22 : decode cX6_minds 22 = .ok (.sipush 540, 3) := by decide +kernel
theorem dX6_minds_25 : decode cX6_minds 25 = .ok (.iload_n 1, 1) := by decide +kernel
theorem dX6_minds_26 : decode cX6_minds 26 = .ok (.iadd, 1) := by decide +kernel
theorem dX6_minds_27 : decode cX6_minds 27 = .ok (.aload_n 0, 1) := by decide +kernel
theorem dX6_minds_28 : decode cX6_minds 28 = .ok (.getfield 7, 3) := by decide +kernel
theorem dX6_minds_31 : decode cX6_minds 31 = .ok (.sipush 720, 3) := by decide +kernel
theorem dX6_minds_34 : decode cX6_minds 34 = .ok (.iload_n 1, 1) := by decide +kernel
theorem dX6_minds_35 : decode cX6_minds 35 = .ok (.iadd, 1) := by decide +kernel
theorem dX6_minds_36 : decode cX6_minds 36 = .ok (.laload, 1) := by decide +kernel
theorem dX6_minds_37 : decode cX6_minds 37 = .ok (.lastore, 1) := by decide +kernel
theorem dX6_minds_38 : decode cX6_minds 38 = .ok (.iinc 1 1, 3) := by decide +kernel
theorem dX6_minds_41 : decode cX6_minds 41 = .ok (.goto (-30), 3) := by decide +kernel
theorem dX6_minds_44 : decode cX6_minds 44 = .ok (.aload_n 0, 1) := by decide +kernel
theorem dX6_minds_45 : decode cX6_minds 45 = .ok (.dup, 1) := by decide +kernel
theorem dX6_minds_46 : decode cX6_minds 46 = .ok (.getfield 43, 3) := by decide +kernel
theorem dX6_minds_49 : decode cX6_minds 49 = .ok (.iconst 1, 1) := by decide +kernel
theorem dX6_minds_50 : decode cX6_minds 50 = .ok (.isub, 1) := by decide +kernel
theorem dX6_minds_51 : decode cX6_minds 51 = .ok (.putfield 43, 3) := by decide +kernel
theorem dX6_minds_54 : decode cX6_minds 54 = .ok (.aload_n 0, 1) := by decide +kernel
theorem dX6_minds_55 : decode cX6_minds 55 = .ok (.iconst 0, 1) := by decide +kernel
theorem dX6_minds_56 : decode cX6_minds 56 = .ok (.sipush 540, 3) := by decide +kernel
theorem dX6_minds_59 : decode cX6_minds 59 = .ok (.sipush 180, 3) := by decide +kernel
theorem dX6_minds_62 : decode cX6_minds 62 = .ok (.aload_n 0, 1) := by decide +kernel
theorem dX6_minds_63 : decode cX6_minds 63 = .ok (.getfield 43, 3) := by decide +kernel
theorem dX6_minds_66 : decode cX6_minds 66 = .ok (.imul, 1) := by decide +kernel
theorem dX6_minds_67 : decode cX6_minds 67 = .ok (.iadd, 1) := by decide +kernel
theorem dX6_minds_68 : decode cX6_minds 68 = .ok (.invokevirtual 47, 3) := by decide +kernel
theorem dX6_minds_71 : decode cX6_minds 71 = .ok (.aload_n 0, 1) := by decide +kernel
theorem dX6_minds_72 : decode cX6_minds 72 = .ok (.dup, 1) := by decide +kernel
theorem dX6_minds_73 : decode cX6_minds 73 = .ok (.getfield 43, 3) := by decide +kernel
theorem dX6_minds_76 : decode cX6_minds 76 = .ok (.iconst 1, 1) := by decide +kernel
theorem dX6_minds_77 : decode cX6_minds 77 = .ok (.iadd, 1) := by decide +kernel
theorem dX6_minds_78 : decode cX6_minds 78 = .ok (.putfield 43, 3) := by decide +kernel
theorem dX6_minds_81 : decode cX6_minds 81 = .ok (.return_, 1) := by decide +kernel
theorem dX6_nearest_0 : decode cX6_nearest 0 = .ok (.lload_n 0, 1) := by decide +kernel
theorem dX6_nearest_1 : decode cX6_nearest 1 = .ok (.lconst 0, 1) := by decide +kernel
theorem dX6_nearest_2 : decode cX6_nearest 2 = .ok (.lcmp, 1) := by decide +kernel
theorem dX6_nearest_3 : decode cX6_nearest 3 = .ok (.ifCond .ge 8, 3) := by decide +kernel
theorem dX6_nearest_6 : decode cX6_nearest 6 = .ok (.lload_n 0, 1) := by decide +kernel
theorem dX6_nearest_7 : decode cX6_nearest 7 = .ok (.lneg, 1) := by decide +kernel
theorem dX6_nearest_8 : decode cX6_nearest 8 = .ok (.goto 4, 3) := by decide +kernel
theorem dX6_nearest_11 : decode cX6_nearest 11 = .ok (.lload_n 0, 1) := by decide +kernel
theorem dX6_nearest_12 : decode cX6_nearest 12 = .ok (.lstore_n 3, 1) := by decide +kernel
theorem dX6_nearest_13 : decode cX6_nearest 13 = .ok (.iconst 0, 1) := by decide +kernel
theorem dX6_nearest_14 : decode cX6_nearest 14 = .ok (.istore 5, 2) := by decide +kernel
theorem dX6_nearest_16 : decode cX6_nearest 16 = .ok (.lload_n 3, 1) := by decide +kernel
theorem dX6_nearest_17 : decode cX6_nearest 17 = .ok (.iload 5, 2) := by decide +kernel
theorem dX6_nearest_19 : decode cX6_nearest 19 = .ok (.lshr, 1) := by decide +kernel
theorem dX6_nearest_20 : decode cX6_nearest 20 = .ok (.lconst 1, 1) := by decide +kernel
theorem dX6_nearest_21 : decode cX6_nearest 21 = .ok (.iload_n 2, 1) := by decide +kernel
theorem dX6_nearest_22 : decode cX6_nearest 22 = .ok (.lshl, 1) := by decide +kernel
theorem dX6_nearest_23 : decode cX6_nearest 23 = .ok (.lcmp, 1) := by decide +kernel
theorem dX6_nearest_24 : decode cX6_nearest 24 = .ok (.ifCond .lt 9, 3) := by decide +kernel
theorem dX6_nearest_27 : decode cX6_nearest 27 = .ok (.iinc 5 1, 3) := by decide +kernel
theorem dX6_nearest_30 : decode cX6_nearest 30 = .ok (.goto (-14), 3) := by decide +kernel
theorem dX6_nearest_33 : decode cX6_nearest 33 = .ok (.iload 5, 2) := by decide +kernel
theorem dX6_nearest_35 : decode cX6_nearest 35 = .ok (.ifCond .eq 9, 3) := by decide +kernel
theorem dX6_nearest_38 : decode cX6_nearest 38 = .ok (.lload_n 3, 1) := by decide +kernel
theorem dX6_nearest_39 : decode cX6_nearest 39 = .ok (.lconst 0, 1) := by decide +kernel
theorem dX6_nearest_40 : decode cX6_nearest 40 = .ok (.lcmp, 1) := by decide +kernel
theorem dX6_nearest_41 : decode cX6_nearest 41 = .ok (.ifCond .ge 5, 3) := by decide +kernel
theorem dX6_nearest_44 : decode cX6_nearest 44 = .ok (.lload_n 0, 1) := by decide +kernel
theorem dX6_nearest_45 : decode cX6_nearest 45 = .ok (.lreturn, 1) := by decide +kernel
theorem dX6_nearest_46 : decode cX6_nearest 46 = .ok (.lconst 1, 1) := by decide +kernel
theorem dX6_nearest_47 : decode cX6_nearest 47 = .ok (.iload 5, 2) := by decide +kernel
theorem dX6_nearest_49 : decode cX6_nearest 49 = .ok (.lshl, 1) := by decide +kernel
theorem dX6_nearest_50 : decode cX6_nearest 50 = .ok (.lstore 6, 2) := by decide +kernel
theorem dX6_nearest_52 : decode cX6_nearest 52 = .ok (.lload_n 3, 1) := by decide +kernel
theorem dX6_nearest_53 : decode cX6_nearest 53 = .ok (.iload 5, 2) := by decide +kernel
theorem dX6_nearest_55 : decode cX6_nearest 55 = .ok (.lshr, 1) := by decide +kernel
theorem dX6_nearest_56 : decode cX6_nearest 56 = .ok (.iload 5, 2) := by decide +kernel
theorem dX6_nearest_58 : decode cX6_nearest 58 = .ok (.lshl, 1) := by decide +kernel
theorem dX6_nearest_59 : decode cX6_nearest 59 = .ok (.lstore 8, 2) := by decide +kernel
theorem dX6_nearest_61 : decode cX6_nearest 61 = .ok (.lload_n 3, 1) := by decide +kernel
theorem dX6_nearest_62 : decode cX6_nearest 62 = .ok (.lload 8, 2) := by decide +kernel
theorem dX6_nearest_64 : decode cX6_nearest 64 = .ok (.lsub, 1) := by decide +kernel
theorem dX6_nearest_65 : decode cX6_nearest 65 = .ok (.lstore 10, 2) := by decide +kernel
theorem dX6_nearest_67 : decode cX6_nearest 67 = .ok (.lload 10, 2) := by decide +kernel
theorem dX6_nearest_69 : decode cX6_nearest 69 = .ok (.lload 6, 2) := by decide +kernel
theorem dX6_nearest_71 : decode cX6_nearest 71 = .ok (.ldc2_w 51, 3) := by decide +kernel
theorem dX6_nearest_74 : decode cX6_nearest 74 = .ok (.ldiv, 1) := by decide +kernel
theorem dX6_nearest_75 : decode cX6_nearest 75 = .ok (.lcmp, 1) := by decide +kernel
theorem dX6_nearest_76 : decode cX6_nearest 76 = .ok (.ifCond .gt 26, 3) := by decide +kernel
theorem dX6_nearest_79 : decode cX6_nearest 79 = .ok (.lload 10, 2) := by decide +kernel
theorem dX6_nearest_81 : decode cX6_nearest 81 = .ok (.lload 6, 2) := by decide +kernel
theorem dX6_nearest_83 : decode cX6_nearest 83 = .ok (.ldc2_w 51, 3) := by decide +kernel
theorem dX6_nearest_86 : decode cX6_nearest 86 = .ok (.ldiv, 1) := by decide +kernel
theorem dX6_nearest_87 : decode cX6_nearest 87 = .ok (.lcmp, 1) := by decide +kernel
theorem dX6_nearest_88 : decode cX6_nearest 88 = .ok (.ifCond .ne 18, 3) := by decide +kernel
theorem dX6_nearest_91 : decode cX6_nearest 91 = .ok (.lload_n 3, 1) := by decide +kernel
theorem dX6_nearest_92 : decode cX6_nearest 92 = .ok (.iload 5, 2) := by decide +kernel
theorem dX6_nearest_94 : decode cX6_nearest 94 = .ok (.lshr, 1) := by decide +kernel
theorem dX6_nearest_95 : decode cX6_nearest 95 = .ok (.lconst 1, 1) := by decide +kernel
theorem dX6_nearest_96 : decode cX6_nearest 96 = .ok (.land, 1) := by decide +kernel
theorem dX6_nearest_97 : decode cX6_nearest 97 = .ok (.lconst 1, 1) := by decide +kernel
theorem dX6_nearest_98 : decode cX6_nearest 98 = .ok (.lcmp, 1) := by decide +kernel
theorem dX6_nearest_99 : decode cX6_nearest 99 = .ok (.ifCond .ne 7, 3) := by decide +kernel
theorem dX6_nearest_102 : decode cX6_nearest 102 = .ok (.iconst 1, 1) := by decide +kernel
theorem dX6_nearest_103 : decode cX6_nearest 103 = .ok (.goto 4, 3) := by decide +kernel
theorem dX6_nearest_106 : decode cX6_nearest 106 = .ok (.iconst 0, 1) := by decide +kernel
theorem dX6_nearest_107 : decode cX6_nearest 107 = .ok (.istore 12, 2) := by decide +kernel
theorem dX6_nearest_109 : decode cX6_nearest 109 = .ok (.iload 12, 2) := by decide +kernel
theorem dX6_nearest_111 : decode cX6_nearest 111 = .ok (.ifCond .eq 11, 3) := by decide +kernel
theorem dX6_nearest_114 : decode cX6_nearest 114 = .ok (.lload 8, 2) := by decide +kernel
theorem dX6_nearest_116 : decode cX6_nearest 116 = .ok (.lload 6, 2) := by decide +kernel
theorem dX6_nearest_118 : decode cX6_nearest 118 = .ok (.ladd, 1) := by decide +kernel
theorem dX6_nearest_119 : decode cX6_nearest 119 = .ok (.goto 5, 3) := by decide +kernel
theorem dX6_nearest_122 : decode cX6_nearest 122 = .ok (.lload 8, 2) := by decide +kernel
theorem dX6_nearest_124 : decode cX6_nearest 124 = .ok (.lstore 13, 2) := by decide +kernel
theorem dX6_nearest_126 : decode cX6_nearest 126 = .ok (.lload 13, 2) := by decide +kernel
theorem dX6_nearest_128 : decode cX6_nearest 128 = .ok (.lconst 0, 1) := by decide +kernel
theorem dX6_nearest_129 : decode cX6_nearest 129 = .ok (.lcmp, 1) := by decide +kernel
theorem dX6_nearest_130 : decode cX6_nearest 130 = .ok (.ifCond .ge 19, 3) := by decide +kernel
theorem dX6_nearest_133 : decode cX6_nearest 133 = .ok (.lload_n 0, 1) := by decide +kernel
theorem dX6_nearest_134 : decode cX6_nearest 134 = .ok (.lconst 0, 1) := by decide +kernel
theorem dX6_nearest_135 : decode cX6_nearest 135 = .ok (.lcmp, 1) := by decide +kernel
theorem dX6_nearest_136 : decode cX6_nearest 136 = .ok (.ifCond .ge 8, 3) := by decide +kernel
theorem dX6_nearest_139 : decode cX6_nearest 139 = .ok (.lload 13, 2) := by decide +kernel
theorem dX6_nearest_141 : decode cX6_nearest 141 = .ok (.goto 7, 3) := by decide +kernel
theorem dX6_nearest_144 : decode cX6_nearest 144 = .ok (.lload 13, 2) := by decide +kernel
theorem dX6_nearest_146 : decode cX6_nearest 146 = .ok (.lconst 1, 1) := by decide +kernel
theorem dX6_nearest_147 : decode cX6_nearest 147 = .ok (.lsub, 1) := by decide +kernel
theorem dX6_nearest_148 : decode cX6_nearest 148 = .ok (.lreturn, 1) := by decide +kernel
theorem dX6_nearest_149 : decode cX6_nearest 149 = .ok (.lload_n 0, 1) := by decide +kernel
theorem dX6_nearest_150 : decode cX6_nearest 150 = .ok (.lconst 0, 1) := by decide +kernel
theorem dX6_nearest_151 : decode cX6_nearest 151 = .ok (.lcmp, 1) := by decide +kernel
theorem dX6_nearest_152 : decode cX6_nearest 152 = .ok (.ifCond .ge 9, 3) := by decide +kernel
theorem dX6_nearest_155 : decode cX6_nearest 155 = .ok (.lload 13, 2) := by decide +kernel
theorem dX6_nearest_157 : decode cX6_nearest 157 = .ok (.lneg, 1) := by decide +kernel
theorem dX6_nearest_158 : decode cX6_nearest 158 = .ok (.goto 5, 3) := by decide +kernel
theorem dX6_nearest_161 : decode cX6_nearest 161 = .ok (.lload 13, 2) := by decide +kernel
theorem dX6_nearest_163 : decode cX6_nearest 163 = .ok (.lreturn, 1) := by decide +kernel
set_option maxRecDepth 20000 in
theorem ggX6_madeOf_X6_nearest : GoodIn wsX6_madeOf wsX6_nearest := goodIn_r _ [5, 6] (by decide +kernel) (by decide +kernel)
set_option maxRecDepth 20000 in
theorem gX6_madeOf_X6_nearest : GoodIn wsX6_madeOf (va_wsS RX6 55 yX6_nearest wsX6_nearest) := goodIn_app (goodIn_of _ (by decide +kernel)) ggX6_madeOf_X6_nearest
theorem dX6_madeOf_0 : decode cX6_madeOf 0 = .ok (.iload_n 0, 1) := by decide +kernel
theorem dX6_madeOf_1 : decode cX6_madeOf 1 = .ok (.tableswitch 93 0 7 #[47, 59, 64, 70, 75, 93, 79, 86], 47) := by decide +kernel
theorem dX6_madeOf_48 : decode cX6_madeOf 48 = .ok (.lload_n 1, 1) := by decide +kernel
theorem dX6_madeOf_49 : decode cX6_madeOf 49 = .ok (.lconst 0, 1) := by decide +kernel
theorem dX6_madeOf_50 : decode cX6_madeOf 50 = .ok (.lcmp, 1) := by decide +kernel
theorem dX6_madeOf_51 : decode cX6_madeOf 51 = .ok (.ifCond .ne 7, 3) := by decide +kernel
theorem dX6_madeOf_54 : decode cX6_madeOf 54 = .ok (.lconst 0, 1) := by decide +kernel
theorem dX6_madeOf_55 : decode cX6_madeOf 55 = .ok (.goto 4, 3) := by decide +kernel
theorem dX6_madeOf_58 : decode cX6_madeOf 58 = .ok (.lconst 1, 1) := by decide +kernel
theorem dX6_madeOf_59 : decode cX6_madeOf 59 = .ok (.lreturn, 1) := by decide +kernel
theorem dX6_madeOf_60 : decode cX6_madeOf 60 = .ok (.lload_n 1, 1) := by decide +kernel
theorem dX6_madeOf_61 : decode cX6_madeOf 61 = .ok (.l2i, 1) := by decide +kernel
theorem dX6_madeOf_62 : decode cX6_madeOf 62 = .ok (.i2b, 1) := by decide +kernel
theorem dX6_madeOf_63 : decode cX6_madeOf 63 = .ok (.i2l, 1) := by decide +kernel
theorem dX6_madeOf_64 : decode cX6_madeOf 64 = .ok (.lreturn, 1) := by decide +kernel
theorem dX6_madeOf_65 : decode cX6_madeOf 65 = .ok (.lload_n 1, 1) := by decide +kernel
theorem dX6_madeOf_66 : decode cX6_madeOf 66 = .ok (.ldc2_w 53, 3) := by decide +kernel
theorem dX6_madeOf_69 : decode cX6_madeOf 69 = .ok (.land, 1) := by decide +kernel
theorem dX6_madeOf_70 : decode cX6_madeOf 70 = .ok (.lreturn, 1) := by decide +kernel
theorem dX6_madeOf_71 : decode cX6_madeOf 71 = .ok (.lload_n 1, 1) := by decide +kernel
theorem dX6_madeOf_72 : decode cX6_madeOf 72 = .ok (.l2i, 1) := by decide +kernel
theorem dX6_madeOf_73 : decode cX6_madeOf 73 = .ok (.i2s, 1) := by decide +kernel
theorem dX6_madeOf_74 : decode cX6_madeOf 74 = .ok (.i2l, 1) := by decide +kernel
theorem dX6_madeOf_75 : decode cX6_madeOf 75 = .ok (.lreturn, 1) := by decide +kernel
theorem dX6_madeOf_76 : decode cX6_madeOf 76 = .ok (.lload_n 1, 1) := by decide +kernel
theorem dX6_madeOf_77 : decode cX6_madeOf 77 = .ok (.l2i, 1) := by decide +kernel
theorem dX6_madeOf_78 : decode cX6_madeOf 78 = .ok (.i2l, 1) := by decide +kernel
theorem dX6_madeOf_79 : decode cX6_madeOf 79 = .ok (.lreturn, 1) := by decide +kernel
theorem dX6_madeOf_80 : decode cX6_madeOf 80 = .ok (.lload_n 1, 1) := by decide +kernel
theorem dX6_madeOf_81 : decode cX6_madeOf 81 = .ok (.bipush 24, 2) := by decide +kernel
theorem dX6_madeOf_83 : decode cX6_madeOf 83 = .ok (.invokestatic 55, 3) := by decide +kernel
theorem dX6_madeOf_86 : decode cX6_madeOf 86 = .ok (.lreturn, 1) := by decide +kernel
theorem dX6_madeOf_87 : decode cX6_madeOf 87 = .ok (.lload_n 1, 1) := by decide +kernel
theorem dX6_madeOf_88 : decode cX6_madeOf 88 = .ok (.bipush 53, 2) := by decide +kernel
theorem dX6_madeOf_90 : decode cX6_madeOf 90 = .ok (.invokestatic 55, 3) := by decide +kernel
theorem dX6_madeOf_93 : decode cX6_madeOf 93 = .ok (.lreturn, 1) := by decide +kernel
theorem dX6_madeOf_94 : decode cX6_madeOf 94 = .ok (.lload_n 1, 1) := by decide +kernel
theorem dX6_madeOf_95 : decode cX6_madeOf 95 = .ok (.lreturn, 1) := by decide +kernel
theorem dX6_goes_0 : decode cX6_goes 0 = .ok (.iload_n 0, 1) := by decide +kernel
theorem dX6_goes_1 : decode cX6_goes 1 = .ok (.iload_n 1, 1) := by decide +kernel
theorem dX6_goes_2 : decode cX6_goes 2 = .ok (.if_icmp .ne 5, 3) := by decide +kernel
theorem dX6_goes_5 : decode cX6_goes 5 = .ok (.iconst 1, 1) := by decide +kernel
theorem dX6_goes_6 : decode cX6_goes 6 = .ok (.ireturn, 1) := by decide +kernel
theorem dX6_goes_7 : decode cX6_goes 7 = .ok (.iload_n 0, 1) := by decide +kernel
theorem dX6_goes_8 : decode cX6_goes 8 = .ok (.ifCond .le 33, 3) := by decide +kernel
theorem dX6_goes_11 : decode cX6_goes 11 = .ok (.iload_n 1, 1) := by decide +kernel
theorem dX6_goes_12 : decode cX6_goes 12 = .ok (.bipush 7, 2) := by decide +kernel
theorem dX6_goes_14 : decode cX6_goes 14 = .ok (.if_icmp .gt 27, 3) := by decide +kernel
theorem dX6_goes_17 : decode cX6_goes 17 = .ok (.iload_n 1, 1) := by decide +kernel
theorem dX6_goes_18 : decode cX6_goes 18 = .ok (.iload_n 0, 1) := by decide +kernel
theorem dX6_goes_19 : decode cX6_goes 19 = .ok (.if_icmp .le 22, 3) := by decide +kernel
theorem dX6_goes_22 : decode cX6_goes 22 = .ok (.iload_n 1, 1) := by decide +kernel
theorem dX6_goes_23 : decode cX6_goes 23 = .ok (.iconst 3, 1) := by decide +kernel
theorem dX6_goes_24 : decode cX6_goes 24 = .ok (.if_icmp .gt 13, 3) := by decide +kernel
theorem dX6_goes_27 : decode cX6_goes 27 = .ok (.iload_n 0, 1) := by decide +kernel
theorem dX6_goes_28 : decode cX6_goes 28 = .ok (.iconst 1, 1) := by decide +kernel
theorem dX6_goes_29 : decode cX6_goes 29 = .ok (.if_icmp .ne 12, 3) := by decide +kernel
theorem dX6_goes_32 : decode cX6_goes 32 = .ok (.iload_n 1, 1) := by decide +kernel
theorem dX6_goes_33 : decode cX6_goes 33 = .ok (.iconst 3, 1) := by decide +kernel
theorem dX6_goes_34 : decode cX6_goes 34 = .ok (.if_icmp .ne 7, 3) := by decide +kernel
theorem dX6_goes_37 : decode cX6_goes 37 = .ok (.iconst 1, 1) := by decide +kernel
theorem dX6_goes_38 : decode cX6_goes 38 = .ok (.goto 4, 3) := by decide +kernel
theorem dX6_goes_41 : decode cX6_goes 41 = .ok (.iconst 0, 1) := by decide +kernel
theorem dX6_goes_42 : decode cX6_goes 42 = .ok (.ireturn, 1) := by decide +kernel
set_option maxRecDepth 20000 in
theorem ggX6_gone_X6_nearest : GoodIn wsX6_gone wsX6_nearest := goodIn_r _ [4, 5] (by decide +kernel) (by decide +kernel)
set_option maxRecDepth 20000 in
theorem gX6_gone_X6_nearest : GoodIn wsX6_gone (va_wsS RX6 55 yX6_nearest wsX6_nearest) := goodIn_app (goodIn_of _ (by decide +kernel)) ggX6_gone_X6_nearest
theorem dX6_gone_0 : decode cX6_gone 0 = .ok (.iload_n 2, 1) := by decide +kernel
theorem dX6_gone_1 : decode cX6_gone 1 = .ok (.bipush 6, 2) := by decide +kernel
theorem dX6_gone_3 : decode cX6_gone 3 = .ok (.if_icmp .ne 12, 3) := by decide +kernel
theorem dX6_gone_6 : decode cX6_gone 6 = .ok (.lload_n 0, 1) := by decide +kernel
theorem dX6_gone_7 : decode cX6_gone 7 = .ok (.bipush 24, 2) := by decide +kernel
theorem dX6_gone_9 : decode cX6_gone 9 = .ok (.invokestatic 55, 3) := by decide +kernel
theorem dX6_gone_12 : decode cX6_gone 12 = .ok (.goto 19, 3) := by decide +kernel
theorem dX6_gone_15 : decode cX6_gone 15 = .ok (.iload_n 2, 1) := by decide +kernel
theorem dX6_gone_16 : decode cX6_gone 16 = .ok (.bipush 7, 2) := by decide +kernel
theorem dX6_gone_18 : decode cX6_gone 18 = .ok (.if_icmp .ne 12, 3) := by decide +kernel
theorem dX6_gone_21 : decode cX6_gone 21 = .ok (.lload_n 0, 1) := by decide +kernel
theorem dX6_gone_22 : decode cX6_gone 22 = .ok (.bipush 53, 2) := by decide +kernel
theorem dX6_gone_24 : decode cX6_gone 24 = .ok (.invokestatic 55, 3) := by decide +kernel
theorem dX6_gone_27 : decode cX6_gone 27 = .ok (.goto 4, 3) := by decide +kernel
theorem dX6_gone_30 : decode cX6_gone 30 = .ok (.lload_n 0, 1) := by decide +kernel
theorem dX6_gone_31 : decode cX6_gone 31 = .ok (.lreturn, 1) := by decide +kernel
theorem dX6_kind_0 : decode cX6_kind 0 = .ok (.aload_n 0, 1) := by decide +kernel
theorem dX6_kind_1 : decode cX6_kind 1 = .ok (.getfield 7, 3) := by decide +kernel
theorem dX6_kind_4 : decode cX6_kind 4 = .ok (.iconst 0, 1) := by decide +kernel
theorem dX6_kind_5 : decode cX6_kind 5 = .ok (.iload_n 1, 1) := by decide +kernel
theorem dX6_kind_6 : decode cX6_kind 6 = .ok (.iadd, 1) := by decide +kernel
theorem dX6_kind_7 : decode cX6_kind 7 = .ok (.laload, 1) := by decide +kernel
theorem dX6_kind_8 : decode cX6_kind 8 = .ok (.l2i, 1) := by decide +kernel
theorem dX6_kind_9 : decode cX6_kind 9 = .ok (.ireturn, 1) := by decide +kernel
theorem dX6_many_0 : decode cX6_many 0 = .ok (.aload_n 0, 1) := by decide +kernel
theorem dX6_many_1 : decode cX6_many 1 = .ok (.getfield 7, 3) := by decide +kernel
theorem dX6_many_4 : decode cX6_many 4 = .ok (.bipush 6, 2) := by decide +kernel
theorem dX6_many_6 : decode cX6_many 6 = .ok (.iload_n 1, 1) := by decide +kernel
theorem dX6_many_7 : decode cX6_many 7 = .ok (.iadd, 1) := by decide +kernel
theorem dX6_many_8 : decode cX6_many 8 = .ok (.laload, 1) := by decide +kernel
theorem dX6_many_9 : decode cX6_many 9 = .ok (.l2i, 1) := by decide +kernel
theorem dX6_many_10 : decode cX6_many 10 = .ok (.ireturn, 1) := by decide +kernel
set_option maxRecDepth 20000 in
theorem ggX6_isRow_X6_kind : GoodIn wsX6_isRow wsX6_kind := goodIn_r _ [5, 6, 7, 8, 9, 10, 11, 12, 13, 14, 15, 16, 17, 18] (by decide +kernel) (by decide +kernel)
set_option maxRecDepth 20000 in
theorem gX6_isRow_X6_kind : GoodIn wsX6_isRow (wsV RX6 59 RX6 yX6_kind wsX6_kind) := goodIn_app (goodIn_of _ (by decide +kernel)) ggX6_isRow_X6_kind
theorem dX6_isRow_0 : decode cX6_isRow 0 = .ok (.aload_n 0, 1) := by decide +kernel
theorem dX6_isRow_1 : decode cX6_isRow 1 = .ok (.iload_n 1, 1) := by decide +kernel
theorem dX6_isRow_2 : decode cX6_isRow 2 = .ok (.invokevirtual 59, 3) := by decide +kernel
theorem dX6_isRow_5 : decode cX6_isRow 5 = .ok (.bipush 11, 2) := by decide +kernel
theorem dX6_isRow_7 : decode cX6_isRow 7 = .ok (.if_icmp .gt 7, 3) := by decide +kernel
theorem dX6_isRow_10 : decode cX6_isRow 10 = .ok (.iconst 1, 1) := by decide +kernel
theorem dX6_isRow_11 : decode cX6_isRow 11 = .ok (.goto 4, 3) := by decide +kernel
theorem dX6_isRow_14 : decode cX6_isRow 14 = .ok (.iconst 0, 1) := by decide +kernel
theorem dX6_isRow_15 : decode cX6_isRow 15 = .ok (.ireturn, 1) := by decide +kernel
theorem dX6_at_0 : decode cX6_at 0 = .ok (.bipush 12, 2) := by decide +kernel
theorem dX6_at_2 : decode cX6_at 2 = .ok (.iload_n 0, 1) := by decide +kernel
theorem dX6_at_3 : decode cX6_at 3 = .ok (.imul, 1) := by decide +kernel
theorem dX6_at_4 : decode cX6_at 4 = .ok (.iload_n 1, 1) := by decide +kernel
theorem dX6_at_5 : decode cX6_at 5 = .ok (.iadd, 1) := by decide +kernel
theorem dX6_at_6 : decode cX6_at 6 = .ok (.ireturn, 1) := by decide +kernel
set_option maxRecDepth 20000 in
theorem ggX6_sortAt_X6_at : GoodIn wsX6_sortAt wsX6_at := goodIn_r _ [5] (by decide +kernel) (by decide +kernel)
set_option maxRecDepth 20000 in
theorem gX6_sortAt_X6_at : GoodIn wsX6_sortAt (va_wsS RX6 63 yX6_at wsX6_at) := goodIn_app (goodIn_of _ (by decide +kernel)) ggX6_sortAt_X6_at
theorem dX6_sortAt_0 : decode cX6_sortAt 0 = .ok (.aload_n 0, 1) := by decide +kernel
theorem dX6_sortAt_1 : decode cX6_sortAt 1 = .ok (.getfield 7, 3) := by decide +kernel
theorem dX6_sortAt_4 : decode cX6_sortAt 4 = .ok (.bipush 12, 2) := by decide +kernel
theorem dX6_sortAt_6 : decode cX6_sortAt 6 = .ok (.iload_n 1, 1) := by decide +kernel
theorem dX6_sortAt_7 : decode cX6_sortAt 7 = .ok (.iload_n 2, 1) := by decide +kernel
theorem dX6_sortAt_8 : decode cX6_sortAt 8 = .ok (.invokestatic 63, 3) := by decide +kernel
theorem dX6_sortAt_11 : decode cX6_sortAt 11 = .ok (.iadd, 1) := by decide +kernel
theorem dX6_sortAt_12 : decode cX6_sortAt 12 = .ok (.laload, 1) := by decide +kernel
theorem dX6_sortAt_13 : decode cX6_sortAt 13 = .ok (.l2i, 1) := by decide +kernel
theorem dX6_sortAt_14 : decode cX6_sortAt 14 = .ok (.ireturn, 1) := by decide +kernel
set_option maxRecDepth 20000 in
theorem ggX6_lacks_X6_kind : GoodIn wsX6_lacks wsX6_kind := goodIn_r _ [5, 6, 18, 19, 20, 21, 22, 23, 24, 25, 26, 27, 28, 29] (by decide +kernel) (by decide +kernel)
set_option maxRecDepth 20000 in
theorem gX6_lacks_X6_kind : GoodIn wsX6_lacks (wsV RX6 59 RX6 yX6_kind wsX6_kind) := goodIn_app (goodIn_of _ (by decide +kernel)) ggX6_lacks_X6_kind
set_option maxRecDepth 20000 in
theorem ggX6_lacks_X6_isRow : GoodIn wsX6_lacks wsX6_isRow := goodIn_r _ [10, 1, 2, 3, 4, 5, 6, 18, 19, 20, 21, 22, 23, 24, 25, 26, 27, 28, 29] (by decide +kernel) (by decide +kernel)
set_option maxRecDepth 20000 in
theorem gX6_lacks_X6_isRow : GoodIn wsX6_lacks (wsV RX6 67 RX6 yX6_isRow wsX6_isRow) := goodIn_app (goodIn_of _ (by decide +kernel)) ggX6_lacks_X6_isRow
set_option maxRecDepth 20000 in
theorem ggX6_lacks_X6_many : GoodIn wsX6_lacks wsX6_many := goodIn_r _ [14, 6, 18, 19, 20, 21, 22, 23, 24, 25, 26, 27, 28, 29] (by decide +kernel) (by decide +kernel)
set_option maxRecDepth 20000 in
theorem gX6_lacks_X6_many : GoodIn wsX6_lacks (wsV RX6 71 RX6 yX6_many wsX6_many) := goodIn_app (goodIn_of _ (by decide +kernel)) ggX6_lacks_X6_many
set_option maxRecDepth 20000 in
theorem ggX6_lacks_X6_in : GoodIn wsX6_lacks wsX6_in := goodIn_r _ [17] (by decide +kernel) (by decide +kernel)
set_option maxRecDepth 20000 in
theorem gX6_lacks_X6_in : GoodIn wsX6_lacks (va_wsS RX6 74 yX6_in wsX6_in) := goodIn_app (goodIn_of _ (by decide +kernel)) ggX6_lacks_X6_in
theorem dX6_lacks_0 : decode cX6_lacks 0 = .ok (.aload_n 0, 1) := by decide +kernel
theorem dX6_lacks_1 : decode cX6_lacks 1 = .ok (.iload_n 1, 1) := by decide +kernel
theorem dX6_lacks_2 : decode cX6_lacks 2 = .ok (.invokevirtual 59, 3) := by decide +kernel
theorem dX6_lacks_5 : decode cX6_lacks 5 = .ok (.bipush 14, 2) := by decide +kernel
theorem dX6_lacks_7 : decode cX6_lacks 7 = .ok (.if_icmp .ne 7, 3) := by decide +kernel
theorem dX6_lacks_10 : decode cX6_lacks 10 = .ok (.iconst 1, 1) := by decide +kernel
theorem dX6_lacks_11 : decode cX6_lacks 11 = .ok (.goto 36, 3) := by decide +kernel
theorem dX6_lacks_14 : decode cX6_lacks 14 = .ok (.aload_n 0, 1) := by decide +kernel
theorem dX6_lacks_15 : decode cX6_lacks 15 = .ok (.iload_n 1, 1) := by decide +kernel
theorem dX6_lacks_16 : decode cX6_lacks 16 = .ok (.invokevirtual 67, 3) := by decide +kernel
theorem dX6_lacks_19 : decode cX6_lacks 19 = .ok (.ifCond .ne 7, 3) := by decide +kernel
theorem dX6_lacks_22 : decode cX6_lacks 22 = .ok (.iconst 2, 1) := by decide +kernel
theorem dX6_lacks_23 : decode cX6_lacks 23 = .ok (.goto 24, 3) := by decide +kernel
theorem dX6_lacks_26 : decode cX6_lacks 26 = .ok (.lload_n 2, 1) := by decide +kernel
theorem dX6_lacks_27 : decode cX6_lacks 27 = .ok (.lconst 0, 1) := by decide +kernel
theorem dX6_lacks_28 : decode cX6_lacks 28 = .ok (.aload_n 0, 1) := by decide +kernel
theorem dX6_lacks_29 : decode cX6_lacks 29 = .ok (.iload_n 1, 1) := by decide +kernel
theorem dX6_lacks_30 : decode cX6_lacks 30 = .ok (.invokevirtual 71, 3) := by decide +kernel
theorem dX6_lacks_33 : decode cX6_lacks 33 = .ok (.iconst 1, 1) := by decide +kernel
theorem dX6_lacks_34 : decode cX6_lacks 34 = .ok (.isub, 1) := by decide +kernel
theorem dX6_lacks_35 : decode cX6_lacks 35 = .ok (.i2l, 1) := by decide +kernel
theorem dX6_lacks_36 : decode cX6_lacks 36 = .ok (.invokestatic 74, 3) := by decide +kernel
theorem dX6_lacks_39 : decode cX6_lacks 39 = .ok (.ifCond .ne 7, 3) := by decide +kernel
theorem dX6_lacks_42 : decode cX6_lacks 42 = .ok (.iconst 3, 1) := by decide +kernel
theorem dX6_lacks_43 : decode cX6_lacks 43 = .ok (.goto 4, 3) := by decide +kernel
theorem dX6_lacks_46 : decode cX6_lacks 46 = .ok (.iconst 0, 1) := by decide +kernel
theorem dX6_lacks_47 : decode cX6_lacks 47 = .ok (.ireturn, 1) := by decide +kernel
set_option maxRecDepth 20000 in
theorem ggX6_reads_X6_kind : GoodIn wsX6_reads wsX6_kind := goodIn_r _ [5, 6, 10, 11, 12, 13, 14, 15, 16, 17, 18, 19, 20, 21] (by decide +kernel) (by decide +kernel)
set_option maxRecDepth 20000 in
theorem gX6_reads_X6_kind : GoodIn wsX6_reads (wsV RX6 59 RX6 yX6_kind wsX6_kind) := goodIn_app (goodIn_of _ (by decide +kernel)) ggX6_reads_X6_kind
set_option maxRecDepth 20000 in
theorem ggX6_reads_X6_goes : GoodIn wsX6_reads wsX6_goes := goodIn_r _ [9] (by decide +kernel) (by decide +kernel)
set_option maxRecDepth 20000 in
theorem gX6_reads_X6_goes : GoodIn wsX6_reads (va_wsS RX6 78 yX6_goes wsX6_goes) := goodIn_app (goodIn_of _ (by decide +kernel)) ggX6_reads_X6_goes
theorem dX6_reads_0 : decode cX6_reads 0 = .ok (.iload_n 2, 1) := by decide +kernel
theorem dX6_reads_1 : decode cX6_reads 1 = .ok (.bipush 8, 2) := by decide +kernel
theorem dX6_reads_3 : decode cX6_reads 3 = .ok (.if_icmp .eq 25, 3) := by decide +kernel
theorem dX6_reads_6 : decode cX6_reads 6 = .ok (.aload_n 0, 1) := by decide +kernel
theorem dX6_reads_7 : decode cX6_reads 7 = .ok (.iload_n 1, 1) := by decide +kernel
theorem dX6_reads_8 : decode cX6_reads 8 = .ok (.invokevirtual 59, 3) := by decide +kernel
theorem dX6_reads_11 : decode cX6_reads 11 = .ok (.bipush 7, 2) := by decide +kernel
theorem dX6_reads_13 : decode cX6_reads 13 = .ok (.if_icmp .gt 19, 3) := by decide +kernel
theorem dX6_reads_16 : decode cX6_reads 16 = .ok (.aload_n 0, 1) := by decide +kernel
theorem dX6_reads_17 : decode cX6_reads 17 = .ok (.iload_n 1, 1) := by decide +kernel
theorem dX6_reads_18 : decode cX6_reads 18 = .ok (.invokevirtual 59, 3) := by decide +kernel
theorem dX6_reads_21 : decode cX6_reads 21 = .ok (.iload_n 2, 1) := by decide +kernel
theorem dX6_reads_22 : decode cX6_reads 22 = .ok (.invokestatic 78, 3) := by decide +kernel
theorem dX6_reads_25 : decode cX6_reads 25 = .ok (.ifCond .eq 7, 3) := by decide +kernel
theorem dX6_reads_28 : decode cX6_reads 28 = .ok (.iconst 1, 1) := by decide +kernel
theorem dX6_reads_29 : decode cX6_reads 29 = .ok (.goto 4, 3) := by decide +kernel
theorem dX6_reads_32 : decode cX6_reads 32 = .ok (.iconst 0, 1) := by decide +kernel
theorem dX6_reads_33 : decode cX6_reads 33 = .ok (.ireturn, 1) := by decide +kernel
set_option maxRecDepth 20000 in
theorem ggX6_sortRead_X6_sortAt : GoodIn wsX6_sortRead wsX6_sortAt := goodIn_r _ [5, 6, 7, 8, 4, 9, 10, 11, 12, 13, 14, 15, 16, 17, 18, 19, 20, 21] (by decide +kernel) (by decide +kernel)
set_option maxRecDepth 20000 in
theorem gX6_sortRead_X6_sortAt : GoodIn wsX6_sortRead (wsV RX6 82 RX6 yX6_sortAt wsX6_sortAt) := goodIn_app (goodIn_of _ (by decide +kernel)) ggX6_sortRead_X6_sortAt
theorem dX6_sortRead_0 : decode cX6_sortRead 0 = .ok (.iload_n 3, 1) := by decide +kernel
theorem dX6_sortRead_1 : decode cX6_sortRead 1 = .ok (.bipush 8, 2) := by decide +kernel
theorem dX6_sortRead_3 : decode cX6_sortRead 3 = .ok (.if_icmp .ne 12, 3) := by decide +kernel
theorem dX6_sortRead_6 : decode cX6_sortRead 6 = .ok (.aload_n 0, 1) := by decide +kernel
theorem dX6_sortRead_7 : decode cX6_sortRead 7 = .ok (.iload_n 1, 1) := by decide +kernel
theorem dX6_sortRead_8 : decode cX6_sortRead 8 = .ok (.iload_n 2, 1) := by decide +kernel
theorem dX6_sortRead_9 : decode cX6_sortRead 9 = .ok (.invokevirtual 82, 3) := by decide +kernel
theorem dX6_sortRead_12 : decode cX6_sortRead 12 = .ok (.goto 4, 3) := by decide +kernel
theorem dX6_sortRead_15 : decode cX6_sortRead 15 = .ok (.iload_n 3, 1) := by decide +kernel
theorem dX6_sortRead_16 : decode cX6_sortRead 16 = .ok (.ireturn, 1) := by decide +kernel
set_option maxRecDepth 20000 in
theorem ggX6_numberRead_X6_at : GoodIn wsX6_numberRead wsX6_at := goodIn_r _ [5] (by decide +kernel) (by decide +kernel)
set_option maxRecDepth 20000 in
theorem gX6_numberRead_X6_at : GoodIn wsX6_numberRead (va_wsS RX6 63 yX6_at wsX6_at) := goodIn_app (goodIn_of _ (by decide +kernel)) ggX6_numberRead_X6_at
set_option maxRecDepth 20000 in
theorem ggX6_numberRead_X6_gone : GoodIn wsX6_numberRead wsX6_gone := goodIn_r _ [8, 9, 10, 4, 11, 12] (by decide +kernel) (by decide +kernel)
set_option maxRecDepth 20000 in
theorem gX6_numberRead_X6_gone : GoodIn wsX6_numberRead (va_wsS RX6 85 yX6_gone wsX6_gone) := goodIn_app (goodIn_of _ (by decide +kernel)) ggX6_numberRead_X6_gone
theorem dX6_numberRead_0 : decode cX6_numberRead 0 = .ok (.aload_n 0, 1) := by decide +kernel
theorem dX6_numberRead_1 : decode cX6_numberRead 1 = .ok (.getfield 7, 3) := by decide +kernel
theorem dX6_numberRead_4 : decode cX6_numberRead 4 = .ok (.bipush 84, 2) := by decide +kernel
theorem dX6_numberRead_6 : decode cX6_numberRead 6 = .ok (.iload_n 1, 1) := by decide +kernel
theorem dX6_numberRead_7 : decode cX6_numberRead 7 = .ok (.iload_n 2, 1) := by decide +kernel
theorem dX6_numberRead_8 : decode cX6_numberRead 8 = .ok (.invokestatic 63, 3) := by decide +kernel
theorem dX6_numberRead_11 : decode cX6_numberRead 11 = .ok (.iadd, 1) := by decide +kernel
theorem dX6_numberRead_12 : decode cX6_numberRead 12 = .ok (.laload, 1) := by decide +kernel
theorem dX6_numberRead_13 : decode cX6_numberRead 13 = .ok (.lstore 4, 2) := by decide +kernel
theorem dX6_numberRead_15 : decode cX6_numberRead 15 = .ok (.iload_n 3, 1) := by decide +kernel
theorem dX6_numberRead_16 : decode cX6_numberRead 16 = .ok (.bipush 8, 2) := by decide +kernel
theorem dX6_numberRead_18 : decode cX6_numberRead 18 = .ok (.if_icmp .ne 8, 3) := by decide +kernel
theorem dX6_numberRead_21 : decode cX6_numberRead 21 = .ok (.lload 4, 2) := by decide +kernel
theorem dX6_numberRead_23 : decode cX6_numberRead 23 = .ok (.goto 9, 3) := by decide +kernel
theorem dX6_numberRead_26 : decode cX6_numberRead 26 = .ok (.lload 4, 2) := by decide +kernel
theorem dX6_numberRead_28 : decode cX6_numberRead 28 = .ok (.iload_n 3, 1) := by decide +kernel
theorem dX6_numberRead_29 : decode cX6_numberRead 29 = .ok (.invokestatic 85, 3) := by decide +kernel
theorem dX6_numberRead_32 : decode cX6_numberRead 32 = .ok (.lreturn, 1) := by decide +kernel
set_option maxRecDepth 20000 in
theorem ggX6_takes_X6_kind : GoodIn wsX6_takes wsX6_kind := goodIn_r _ [6, 7, 11, 12, 13, 14, 15, 16, 17, 18, 19, 20, 21, 22] (by decide +kernel) (by decide +kernel)
set_option maxRecDepth 20000 in
theorem gX6_takes_X6_kind : GoodIn wsX6_takes (wsV RX6 59 RX6 yX6_kind wsX6_kind) := goodIn_app (goodIn_of _ (by decide +kernel)) ggX6_takes_X6_kind
set_option maxRecDepth 20000 in
theorem ggX6_takes_X6_goes : GoodIn wsX6_takes wsX6_goes := goodIn_r _ [10] (by decide +kernel) (by decide +kernel)
set_option maxRecDepth 20000 in
theorem gX6_takes_X6_goes : GoodIn wsX6_takes (va_wsS RX6 78 yX6_goes wsX6_goes) := goodIn_app (goodIn_of _ (by decide +kernel)) ggX6_takes_X6_goes
theorem dX6_takes_0 : decode cX6_takes 0 = .ok (.aload_n 0, 1) := by decide +kernel
theorem dX6_takes_1 : decode cX6_takes 1 = .ok (.iload_n 1, 1) := by decide +kernel
theorem dX6_takes_2 : decode cX6_takes 2 = .ok (.invokevirtual 59, 3) := by decide +kernel
theorem dX6_takes_5 : decode cX6_takes 5 = .ok (.istore 5, 2) := by decide +kernel
theorem dX6_takes_7 : decode cX6_takes 7 = .ok (.iload 5, 2) := by decide +kernel
theorem dX6_takes_9 : decode cX6_takes 9 = .ok (.bipush 7, 2) := by decide +kernel
theorem dX6_takes_11 : decode cX6_takes 11 = .ok (.if_icmp .gt 24, 3) := by decide +kernel
theorem dX6_takes_14 : decode cX6_takes 14 = .ok (.iload_n 2, 1) := by decide +kernel
theorem dX6_takes_15 : decode cX6_takes 15 = .ok (.bipush 7, 2) := by decide +kernel
theorem dX6_takes_17 : decode cX6_takes 17 = .ok (.if_icmp .gt 16, 3) := by decide +kernel
theorem dX6_takes_20 : decode cX6_takes 20 = .ok (.iload_n 2, 1) := by decide +kernel
theorem dX6_takes_21 : decode cX6_takes 21 = .ok (.iload 5, 2) := by decide +kernel
theorem dX6_takes_23 : decode cX6_takes 23 = .ok (.invokestatic 78, 3) := by decide +kernel
theorem dX6_takes_26 : decode cX6_takes 26 = .ok (.ifCond .eq 7, 3) := by decide +kernel
theorem dX6_takes_29 : decode cX6_takes 29 = .ok (.iconst 1, 1) := by decide +kernel
theorem dX6_takes_30 : decode cX6_takes 30 = .ok (.goto 4, 3) := by decide +kernel
theorem dX6_takes_33 : decode cX6_takes 33 = .ok (.iconst 0, 1) := by decide +kernel
theorem dX6_takes_34 : decode cX6_takes 34 = .ok (.ireturn, 1) := by decide +kernel
theorem dX6_takes_35 : decode cX6_takes 35 = .ok (.iload 5, 2) := by decide +kernel
theorem dX6_takes_37 : decode cX6_takes 37 = .ok (.bipush 9, 2) := by decide +kernel
theorem dX6_takes_39 : decode cX6_takes 39 = .ok (.if_icmp .eq 55, 3) := by decide +kernel
theorem dX6_takes_42 : decode cX6_takes 42 = .ok (.iload_n 2, 1) := by decide +kernel
theorem dX6_takes_43 : decode cX6_takes 43 = .ok (.bipush 9, 2) := by decide +kernel
theorem dX6_takes_45 : decode cX6_takes 45 = .ok (.if_icmp .eq 49, 3) := by decide +kernel
theorem dX6_takes_48 : decode cX6_takes 48 = .ok (.iload 5, 2) := by decide +kernel
theorem dX6_takes_50 : decode cX6_takes 50 = .ok (.bipush 8, 2) := by decide +kernel
theorem dX6_takes_52 : decode cX6_takes 52 = .ok (.if_icmp .ne 8, 3) := by decide +kernel
theorem dX6_takes_55 : decode cX6_takes 55 = .ok (.iload_n 2, 1) := by decide +kernel
theorem dX6_takes_56 : decode cX6_takes 56 = .ok (.iconst 4, 1) := by decide +kernel
theorem dX6_takes_57 : decode cX6_takes 57 = .ok (.if_icmp .eq 37, 3) := by decide +kernel
theorem dX6_takes_60 : decode cX6_takes 60 = .ok (.iload 5, 2) := by decide +kernel
theorem dX6_takes_62 : decode cX6_takes 62 = .ok (.bipush 10, 2) := by decide +kernel
theorem dX6_takes_64 : decode cX6_takes 64 = .ok (.if_icmp .ne 9, 3) := by decide +kernel
theorem dX6_takes_67 : decode cX6_takes 67 = .ok (.iload_n 2, 1) := by decide +kernel
theorem dX6_takes_68 : decode cX6_takes 68 = .ok (.bipush 8, 2) := by decide +kernel
theorem dX6_takes_70 : decode cX6_takes 70 = .ok (.if_icmp .eq 24, 3) := by decide +kernel
theorem dX6_takes_73 : decode cX6_takes 73 = .ok (.iload 5, 2) := by decide +kernel
theorem dX6_takes_75 : decode cX6_takes 75 = .ok (.bipush 11, 2) := by decide +kernel
theorem dX6_takes_77 : decode cX6_takes 77 = .ok (.if_icmp .ne 21, 3) := by decide +kernel
theorem dX6_takes_80 : decode cX6_takes 80 = .ok (.iload_n 2, 1) := by decide +kernel
theorem dX6_takes_81 : decode cX6_takes 81 = .ok (.bipush 8, 2) := by decide +kernel
theorem dX6_takes_83 : decode cX6_takes 83 = .ok (.if_icmp .ne 15, 3) := by decide +kernel
theorem dX6_takes_86 : decode cX6_takes 86 = .ok (.lload_n 3, 1) := by decide +kernel
theorem dX6_takes_87 : decode cX6_takes 87 = .ok (.ldc2_w 88, 3) := by decide +kernel
theorem dX6_takes_90 : decode cX6_takes 90 = .ok (.lcmp, 1) := by decide +kernel
theorem dX6_takes_91 : decode cX6_takes 91 = .ok (.ifCond .lt 7, 3) := by decide +kernel
theorem dX6_takes_94 : decode cX6_takes 94 = .ok (.iconst 1, 1) := by decide +kernel
theorem dX6_takes_95 : decode cX6_takes 95 = .ok (.goto 4, 3) := by decide +kernel
theorem dX6_takes_98 : decode cX6_takes 98 = .ok (.iconst 0, 1) := by decide +kernel
theorem dX6_takes_99 : decode cX6_takes 99 = .ok (.ireturn, 1) := by decide +kernel
set_option maxRecDepth 20000 in
theorem ggX6_sets_X6_kind : GoodIn wsX6_sets wsX6_kind := goodIn_r _ [6, 1, 17, 18, 19, 20, 21, 22, 23, 24, 25, 26, 27, 28] (by decide +kernel) (by decide +kernel)
set_option maxRecDepth 20000 in
theorem gX6_sets_X6_kind : GoodIn wsX6_sets (wsV RX6 59 RX6 yX6_kind wsX6_kind) := goodIn_app (goodIn_of _ (by decide +kernel)) ggX6_sets_X6_kind
set_option maxRecDepth 20000 in
theorem ggX6_sets_X6_at : GoodIn wsX6_sets wsX6_at := goodIn_r _ [9] (by decide +kernel) (by decide +kernel)
set_option maxRecDepth 20000 in
theorem gX6_sets_X6_at : GoodIn wsX6_sets (va_wsS RX6 63 yX6_at wsX6_at) := goodIn_app (goodIn_of _ (by decide +kernel)) ggX6_sets_X6_at
set_option maxRecDepth 20000 in
theorem ggX6_sets_X6_gone : GoodIn wsX6_sets wsX6_gone := goodIn_r _ [12, 13, 14, 5, 15, 16] (by decide +kernel) (by decide +kernel)
set_option maxRecDepth 20000 in
theorem gX6_sets_X6_gone : GoodIn wsX6_sets (va_wsS RX6 85 yX6_gone wsX6_gone) := goodIn_app (goodIn_of _ (by decide +kernel)) ggX6_sets_X6_gone
theorem dX6_sets_0 : decode cX6_sets 0 = .ok (.aload_n 0, 1) := by decide +kernel
theorem dX6_sets_1 : decode cX6_sets 1 = .ok (.iload_n 1, 1) := by decide +kernel
theorem dX6_sets_2 : decode cX6_sets 2 = .ok (.invokevirtual 59, 3) := by decide +kernel
theorem dX6_sets_5 : decode cX6_sets 5 = .ok (.bipush 7, 2) := by decide +kernel
theorem dX6_sets_7 : decode cX6_sets 7 = .ok (.if_icmp .gt 7, 3) := by decide +kernel
theorem dX6_sets_10 : decode cX6_sets 10 = .ok (.iconst 1, 1) := by decide +kernel
theorem dX6_sets_11 : decode cX6_sets 11 = .ok (.goto 4, 3) := by decide +kernel
theorem dX6_sets_14 : decode cX6_sets 14 = .ok (.iconst 0, 1) := by decide +kernel
theorem dX6_sets_15 : decode cX6_sets 15 = .ok (.istore 6, 2) := by decide +kernel
theorem dX6_sets_17 : decode cX6_sets 17 = .ok (.aload_n 0, 1) := by decide +kernel
theorem dX6_sets_18 : decode cX6_sets 18 = .ok (.getfield 7, 3) := by decide +kernel
theorem dX6_sets_21 : decode cX6_sets 21 = .ok (.bipush 12, 2) := by decide +kernel
theorem dX6_sets_23 : decode cX6_sets 23 = .ok (.iload_n 1, 1) := by decide +kernel
theorem dX6_sets_24 : decode cX6_sets 24 = .ok (.iload_n 2, 1) := by decide +kernel
theorem dX6_sets_25 : decode cX6_sets 25 = .ok (.invokestatic 63, 3) := by decide +kernel
theorem dX6_sets_28 : decode cX6_sets 28 = .ok (.iadd, 1) := by decide +kernel
theorem dX6_sets_29 : decode cX6_sets 29 = .ok (.iload 6, 2) := by decide +kernel
theorem dX6_sets_31 : decode cX6_sets 31 = .ok (.ifCond .eq 12, 3) := by decide +kernel
theorem dX6_sets_34 : decode cX6_sets 34 = .ok (.aload_n 0, 1) := by decide +kernel
theorem dX6_sets_35 : decode cX6_sets 35 = .ok (.iload_n 1, 1) := by decide +kernel
theorem dX6_sets_36 : decode cX6_sets 36 = .ok (.invokevirtual 59, 3) := by decide +kernel
theorem dX6_sets_39 : decode cX6_sets 39 = .ok (.i2l, 1) := by decide +kernel
theorem dX6_sets_40 : decode cX6_sets 40 = .ok (.goto 5, 3) := by decide +kernel
theorem dX6_sets_43 : decode cX6_sets 43 = .ok (.iload_n 3, 1) := by decide +kernel
theorem dX6_sets_44 : decode cX6_sets 44 = .ok (.i2l, 1) := by decide +kernel
theorem dX6_sets_45 : decode cX6_sets 45 = .ok (.lastore, 1) := by decide +kernel
theorem dX6_sets_46 : decode cX6_sets 46 = .ok (.aload_n 0, 1) := by decide +kernel
theorem dX6_sets_47 : decode cX6_sets 47 = .ok (.getfield 7, 3) := by decide +kernel
theorem dX6_sets_50 : decode cX6_sets 50 = .ok (.bipush 84, 2) := by decide +kernel
theorem dX6_sets_52 : decode cX6_sets 52 = .ok (.iload_n 1, 1) := by decide +kernel
theorem dX6_sets_53 : decode cX6_sets 53 = .ok (.iload_n 2, 1) := by decide +kernel
theorem dX6_sets_54 : decode cX6_sets 54 = .ok (.invokestatic 63, 3) := by decide +kernel
theorem dX6_sets_57 : decode cX6_sets 57 = .ok (.iadd, 1) := by decide +kernel
theorem dX6_sets_58 : decode cX6_sets 58 = .ok (.iload 6, 2) := by decide +kernel
theorem dX6_sets_60 : decode cX6_sets 60 = .ok (.ifCond .eq 16, 3) := by decide +kernel
theorem dX6_sets_63 : decode cX6_sets 63 = .ok (.lload 4, 2) := by decide +kernel
theorem dX6_sets_65 : decode cX6_sets 65 = .ok (.aload_n 0, 1) := by decide +kernel
theorem dX6_sets_66 : decode cX6_sets 66 = .ok (.iload_n 1, 1) := by decide +kernel
theorem dX6_sets_67 : decode cX6_sets 67 = .ok (.invokevirtual 59, 3) := by decide +kernel
theorem dX6_sets_70 : decode cX6_sets 70 = .ok (.invokestatic 85, 3) := by decide +kernel
theorem dX6_sets_73 : decode cX6_sets 73 = .ok (.goto 5, 3) := by decide +kernel
theorem dX6_sets_76 : decode cX6_sets 76 = .ok (.lload 4, 2) := by decide +kernel
theorem dX6_sets_78 : decode cX6_sets 78 = .ok (.lastore, 1) := by decide +kernel
theorem dX6_sets_79 : decode cX6_sets 79 = .ok (.return_, 1) := by decide +kernel
theorem dX6_heft_0 : decode cX6_heft 0 = .ok (.lload_n 1, 1) := by decide +kernel
theorem dX6_heft_1 : decode cX6_heft 1 = .ok (.ldc2_w 88, 3) := by decide +kernel
theorem dX6_heft_4 : decode cX6_heft 4 = .ok (.lcmp, 1) := by decide +kernel
theorem dX6_heft_5 : decode cX6_heft 5 = .ok (.ifCond .ge 17, 3) := by decide +kernel
theorem dX6_heft_8 : decode cX6_heft 8 = .ok (.aload_n 0, 1) := by decide +kernel
theorem dX6_heft_9 : decode cX6_heft 9 = .ok (.getfield 7, 3) := by decide +kernel
theorem dX6_heft_12 : decode cX6_heft 12 = .ok (.sipush 172, 3) := by decide +kernel
theorem dX6_heft_15 : decode cX6_heft 15 = .ok (.lload_n 1, 1) := by decide +kernel
theorem dX6_heft_16 : decode cX6_heft 16 = .ok (.l2i, 1) := by decide +kernel
theorem dX6_heft_17 : decode cX6_heft 17 = .ok (.iadd, 1) := by decide +kernel
theorem dX6_heft_18 : decode cX6_heft 18 = .ok (.laload, 1) := by decide +kernel
theorem dX6_heft_19 : decode cX6_heft 19 = .ok (.goto 18, 3) := by decide +kernel
theorem dX6_heft_22 : decode cX6_heft 22 = .ok (.ldc2_w 51, 3) := by decide +kernel
theorem dX6_heft_25 : decode cX6_heft 25 = .ok (.aload_n 0, 1) := by decide +kernel
theorem dX6_heft_26 : decode cX6_heft 26 = .ok (.getfield 7, 3) := by decide +kernel
theorem dX6_heft_29 : decode cX6_heft 29 = .ok (.sipush 172, 3) := by decide +kernel
theorem dX6_heft_32 : decode cX6_heft 32 = .ok (.lload_n 1, 1) := by decide +kernel
theorem dX6_heft_33 : decode cX6_heft 33 = .ok (.l2i, 1) := by decide +kernel
theorem dX6_heft_34 : decode cX6_heft 34 = .ok (.iadd, 1) := by decide +kernel
theorem dX6_heft_35 : decode cX6_heft 35 = .ok (.laload, 1) := by decide +kernel
theorem dX6_heft_36 : decode cX6_heft 36 = .ok (.lmul, 1) := by decide +kernel
theorem dX6_heft_37 : decode cX6_heft 37 = .ok (.lreturn, 1) := by decide +kernel
set_option maxRecDepth 20000 in
theorem ggX6_against_X6_heft : GoodIn wsX6_against wsX6_heft := goodIn_r _ [5, 6, 7, 8, 9, 10, 11, 12, 13, 14, 15, 16, 17, 18, 19, 20] (by decide +kernel) (by decide +kernel)
set_option maxRecDepth 20000 in
theorem gX6_against_X6_heft : GoodIn wsX6_against (wsV RX6 90 RX6 yX6_heft wsX6_heft) := goodIn_app (goodIn_of _ (by decide +kernel)) ggX6_against_X6_heft
theorem dX6_against_0 : decode cX6_against 0 = .ok (.iload_n 1, 1) := by decide +kernel
theorem dX6_against_1 : decode cX6_against 1 = .ok (.iload 4, 2) := by decide +kernel
theorem dX6_against_3 : decode cX6_against 3 = .ok (.if_icmp .eq 28, 3) := by decide +kernel
theorem dX6_against_6 : decode cX6_against 6 = .ok (.iload_n 1, 1) := by decide +kernel
theorem dX6_against_7 : decode cX6_against 7 = .ok (.bipush 9, 2) := by decide +kernel
theorem dX6_against_9 : decode cX6_against 9 = .ok (.if_icmp .eq 16, 3) := by decide +kernel
theorem dX6_against_12 : decode cX6_against 12 = .ok (.iload 4, 2) := by decide +kernel
theorem dX6_against_14 : decode cX6_against 14 = .ok (.bipush 9, 2) := by decide +kernel
theorem dX6_against_16 : decode cX6_against 16 = .ok (.if_icmp .eq 13, 3) := by decide +kernel
theorem dX6_against_19 : decode cX6_against 19 = .ok (.iload_n 1, 1) := by decide +kernel
theorem dX6_against_20 : decode cX6_against 20 = .ok (.iload 4, 2) := by decide +kernel
theorem dX6_against_22 : decode cX6_against 22 = .ok (.if_icmp .ge 7, 3) := by decide +kernel
theorem dX6_against_25 : decode cX6_against 25 = .ok (.iconst (-1), 1) := by decide +kernel
theorem dX6_against_26 : decode cX6_against 26 = .ok (.goto 4, 3) := by decide +kernel
theorem dX6_against_29 : decode cX6_against 29 = .ok (.iconst 1, 1) := by decide +kernel
theorem dX6_against_30 : decode cX6_against 30 = .ok (.ireturn, 1) := by decide +kernel
theorem dX6_against_31 : decode cX6_against 31 = .ok (.iload_n 1, 1) := by decide +kernel
theorem dX6_against_32 : decode cX6_against 32 = .ok (.bipush 8, 2) := by decide +kernel
theorem dX6_against_34 : decode cX6_against 34 = .ok (.if_icmp .ne 11, 3) := by decide +kernel
theorem dX6_against_37 : decode cX6_against 37 = .ok (.aload_n 0, 1) := by decide +kernel
theorem dX6_against_38 : decode cX6_against 38 = .ok (.lload_n 2, 1) := by decide +kernel
theorem dX6_against_39 : decode cX6_against 39 = .ok (.invokevirtual 90, 3) := by decide +kernel
theorem dX6_against_42 : decode cX6_against 42 = .ok (.goto 4, 3) := by decide +kernel
theorem dX6_against_45 : decode cX6_against 45 = .ok (.lload_n 2, 1) := by decide +kernel
theorem dX6_against_46 : decode cX6_against 46 = .ok (.lstore 7, 2) := by decide +kernel
theorem dX6_against_48 : decode cX6_against 48 = .ok (.iload_n 1, 1) := by decide +kernel
theorem dX6_against_49 : decode cX6_against 49 = .ok (.bipush 8, 2) := by decide +kernel
theorem dX6_against_51 : decode cX6_against 51 = .ok (.if_icmp .ne 12, 3) := by decide +kernel
theorem dX6_against_54 : decode cX6_against 54 = .ok (.aload_n 0, 1) := by decide +kernel
theorem dX6_against_55 : decode cX6_against 55 = .ok (.lload 5, 2) := by decide +kernel
theorem dX6_against_57 : decode cX6_against 57 = .ok (.invokevirtual 90, 3) := by decide +kernel
theorem dX6_against_60 : decode cX6_against 60 = .ok (.goto 5, 3) := by decide +kernel
theorem dX6_against_63 : decode cX6_against 63 = .ok (.lload 5, 2) := by decide +kernel
theorem dX6_against_65 : decode cX6_against 65 = .ok (.lstore 9, 2) := by decide +kernel
theorem dX6_against_67 : decode cX6_against 67 = .ok (.lload 7, 2) := by decide +kernel
theorem dX6_against_69 : decode cX6_against 69 = .ok (.lload 9, 2) := by decide +kernel
theorem dX6_against_71 : decode cX6_against 71 = .ok (.lcmp, 1) := by decide +kernel
theorem dX6_against_72 : decode cX6_against 72 = .ok (.ifCond .ge 7, 3) := by decide +kernel
theorem dX6_against_75 : decode cX6_against 75 = .ok (.iconst (-1), 1) := by decide +kernel
theorem dX6_against_76 : decode cX6_against 76 = .ok (.goto 16, 3) := by decide +kernel
theorem dX6_against_79 : decode cX6_against 79 = .ok (.lload 7, 2) := by decide +kernel
theorem dX6_against_81 : decode cX6_against 81 = .ok (.lload 9, 2) := by decide +kernel
theorem dX6_against_83 : decode cX6_against 83 = .ok (.lcmp, 1) := by decide +kernel
theorem dX6_against_84 : decode cX6_against 84 = .ok (.ifCond .le 7, 3) := by decide +kernel
theorem dX6_against_87 : decode cX6_against 87 = .ok (.iconst 1, 1) := by decide +kernel
theorem dX6_against_88 : decode cX6_against 88 = .ok (.goto 4, 3) := by decide +kernel
theorem dX6_against_91 : decode cX6_against 91 = .ok (.iconst 0, 1) := by decide +kernel
theorem dX6_against_92 : decode cX6_against 92 = .ok (.ireturn, 1) := by decide +kernel
theorem dX6_slotOf_0 : decode cX6_slotOf 0 = .ok (.aload_n 0, 1) := by decide +kernel
theorem dX6_slotOf_1 : decode cX6_slotOf 1 = .ok (.getfield 7, 3) := by decide +kernel
theorem dX6_slotOf_4 : decode cX6_slotOf 4 = .ok (.sipush 157, 3) := by decide +kernel
theorem dX6_slotOf_7 : decode cX6_slotOf 7 = .ok (.iconst 3, 1) := by decide +kernel
theorem dX6_slotOf_8 : decode cX6_slotOf 8 = .ok (.iload_n 1, 1) := by decide +kernel
theorem dX6_slotOf_9 : decode cX6_slotOf 9 = .ok (.imul, 1) := by decide +kernel
theorem dX6_slotOf_10 : decode cX6_slotOf 10 = .ok (.iadd, 1) := by decide +kernel
theorem dX6_slotOf_11 : decode cX6_slotOf 11 = .ok (.laload, 1) := by decide +kernel
theorem dX6_slotOf_12 : decode cX6_slotOf 12 = .ok (.l2i, 1) := by decide +kernel
theorem dX6_slotOf_13 : decode cX6_slotOf 13 = .ok (.ireturn, 1) := by decide +kernel
theorem dX6_byOf_0 : decode cX6_byOf 0 = .ok (.aload_n 0, 1) := by decide +kernel
theorem dX6_byOf_1 : decode cX6_byOf 1 = .ok (.getfield 7, 3) := by decide +kernel
theorem dX6_byOf_4 : decode cX6_byOf 4 = .ok (.sipush 157, 3) := by decide +kernel
theorem dX6_byOf_7 : decode cX6_byOf 7 = .ok (.iconst 3, 1) := by decide +kernel
theorem dX6_byOf_8 : decode cX6_byOf 8 = .ok (.iload_n 1, 1) := by decide +kernel
theorem dX6_byOf_9 : decode cX6_byOf 9 = .ok (.imul, 1) := by decide +kernel
theorem dX6_byOf_10 : decode cX6_byOf 10 = .ok (.iadd, 1) := by decide +kernel
theorem dX6_byOf_11 : decode cX6_byOf 11 = .ok (.iconst 1, 1) := by decide +kernel
theorem dX6_byOf_12 : decode cX6_byOf 12 = .ok (.iadd, 1) := by decide +kernel
theorem dX6_byOf_13 : decode cX6_byOf 13 = .ok (.laload, 1) := by decide +kernel
theorem dX6_byOf_14 : decode cX6_byOf 14 = .ok (.l2i, 1) := by decide +kernel
theorem dX6_byOf_15 : decode cX6_byOf 15 = .ok (.ireturn, 1) := by decide +kernel
theorem dX6_keys_0 : decode cX6_keys 0 = .ok (.aload_n 0, 1) := by decide +kernel
theorem dX6_keys_1 : decode cX6_keys 1 = .ok (.getfield 7, 3) := by decide +kernel
theorem dX6_keys_4 : decode cX6_keys 4 = .ok (.sipush 156, 3) := by decide +kernel
theorem dX6_keys_7 : decode cX6_keys 7 = .ok (.laload, 1) := by decide +kernel
theorem dX6_keys_8 : decode cX6_keys 8 = .ok (.l2i, 1) := by decide +kernel
theorem dX6_keys_9 : decode cX6_keys 9 = .ok (.ireturn, 1) := by decide +kernel
theorem dX6_sheetNow_0 : decode cX6_sheetNow 0 = .ok (.aload_n 0, 1) := by decide +kernel
theorem dX6_sheetNow_1 : decode cX6_sheetNow 1 = .ok (.getfield 7, 3) := by decide +kernel
theorem dX6_sheetNow_4 : decode cX6_sheetNow 4 = .ok (.sipush 169, 3) := by decide +kernel
theorem dX6_sheetNow_7 : decode cX6_sheetNow 7 = .ok (.laload, 1) := by decide +kernel
theorem dX6_sheetNow_8 : decode cX6_sheetNow 8 = .ok (.l2i, 1) := by decide +kernel
theorem dX6_sheetNow_9 : decode cX6_sheetNow 9 = .ok (.ireturn, 1) := by decide +kernel
set_option maxRecDepth 20000 in
theorem ggX6_slotsOfAll_X6_sheetNow : GoodIn wsX6_slotsOfAll wsX6_sheetNow := goodIn_r _ [5, 6, 15, 16, 17, 18, 19, 20, 21, 22, 23, 24, 25, 26] (by decide +kernel) (by decide +kernel)
set_option maxRecDepth 20000 in
theorem gX6_slotsOfAll_X6_sheetNow : GoodIn wsX6_slotsOfAll (wsV RX6 94 RX6 yX6_sheetNow wsX6_sheetNow) := goodIn_app (goodIn_of _ (by decide +kernel)) ggX6_slotsOfAll_X6_sheetNow
set_option maxRecDepth 20000 in
theorem ggX6_slotsOfAll_X6_keys : GoodIn wsX6_slotsOfAll wsX6_keys := goodIn_r _ [10, 6, 15, 16, 17, 18, 19, 20, 21, 22, 23, 24, 25, 26] (by decide +kernel) (by decide +kernel)
set_option maxRecDepth 20000 in
theorem gX6_slotsOfAll_X6_keys : GoodIn wsX6_slotsOfAll (wsV RX6 98 RX6 yX6_keys wsX6_keys) := goodIn_app (goodIn_of _ (by decide +kernel)) ggX6_slotsOfAll_X6_keys
set_option maxRecDepth 20000 in
theorem ggX6_slotsOfAll_X6_slotOf : GoodIn wsX6_slotsOfAll wsX6_slotOf := goodIn_r _ [14, 6, 15, 16, 17, 18, 19, 20, 21, 22, 23, 24, 25, 26] (by decide +kernel) (by decide +kernel)
set_option maxRecDepth 20000 in
theorem gX6_slotsOfAll_X6_slotOf : GoodIn wsX6_slotsOfAll (wsV RX6 101 RX6 yX6_slotOf wsX6_slotOf) := goodIn_app (goodIn_of _ (by decide +kernel)) ggX6_slotsOfAll_X6_slotOf
theorem dX6_slotsOfAll_0 : decode cX6_slotsOfAll 0 = .ok (.aload_n 0, 1) := by decide +kernel
theorem dX6_slotsOfAll_1 : decode cX6_slotsOfAll 1 = .ok (.invokevirtual 94, 3) := by decide +kernel
theorem dX6_slotsOfAll_4 : decode cX6_slotsOfAll 4 = .ok (.istore_n 1, 1) := by decide +kernel
theorem dX6_slotsOfAll_5 : decode cX6_slotsOfAll 5 = .ok (.iconst 0, 1) := by decide +kernel
theorem dX6_slotsOfAll_6 : decode cX6_slotsOfAll 6 = .ok (.istore_n 2, 1) := by decide +kernel
theorem dX6_slotsOfAll_7 : decode cX6_slotsOfAll 7 = .ok (.iload_n 2, 1) := by decide +kernel
theorem dX6_slotsOfAll_8 : decode cX6_slotsOfAll 8 = .ok (.aload_n 0, 1) := by decide +kernel
theorem dX6_slotsOfAll_9 : decode cX6_slotsOfAll 9 = .ok (.invokevirtual 98, 3) := by decide +kernel
theorem dX6_slotsOfAll_12 : decode cX6_slotsOfAll 12 = .ok (.if_icmp .ge 19, 3) := by decide +kernel
theorem dX6_slotsOfAll_15 : decode cX6_slotsOfAll 15 = .ok (.iload_n 1, 1) := by decide +kernel
theorem dX6_slotsOfAll_16 : decode cX6_slotsOfAll 16 = .ok (.iconst 1, 1) := by decide +kernel
theorem dX6_slotsOfAll_17 : decode cX6_slotsOfAll 17 = .ok (.aload_n 0, 1) := by decide +kernel
theorem dX6_slotsOfAll_18 : decode cX6_slotsOfAll 18 = .ok (.iload_n 2, 1) := by decide +kernel
theorem dX6_slotsOfAll_19 : decode cX6_slotsOfAll 19 = .ok (.invokevirtual 101, 3) := by decide +kernel
theorem dX6_slotsOfAll_22 : decode cX6_slotsOfAll 22 = .ok (.ishl, 1) := by decide +kernel
theorem dX6_slotsOfAll_23 : decode cX6_slotsOfAll 23 = .ok (.ior, 1) := by decide +kernel
theorem dX6_slotsOfAll_24 : decode cX6_slotsOfAll 24 = .ok (.istore_n 1, 1) := by decide +kernel
theorem dX6_slotsOfAll_25 : decode cX6_slotsOfAll 25 = .ok (.iinc 2 1, 3) := by decide +kernel
theorem dX6_slotsOfAll_28 : decode cX6_slotsOfAll 28 = .ok (.goto (-21), 3) := by decide +kernel
theorem dX6_slotsOfAll_31 : decode cX6_slotsOfAll 31 = .ok (.iload_n 1, 1) := by decide +kernel
theorem dX6_slotsOfAll_32 : decode cX6_slotsOfAll 32 = .ok (.ireturn, 1) := by decide +kernel
set_option maxRecDepth 20000 in
theorem ggX6_places_X6_slotsOfAll : GoodIn wsX6_places wsX6_slotsOfAll := goodIn_r _ [5, 6, 7, 8, 4, 9, 10, 11, 12, 13, 14, 15, 16, 17, 18, 45, 46, 47, 48, 49, 50, 51, 52, 53, 54, 55, 56] (by decide +kernel) (by decide +kernel)
set_option maxRecDepth 20000 in
theorem gX6_places_X6_slotsOfAll : GoodIn wsX6_places (wsV RX6 104 RX6 yX6_slotsOfAll wsX6_slotsOfAll) := goodIn_app (goodIn_of _ (by decide +kernel)) ggX6_places_X6_slotsOfAll
set_option maxRecDepth 20000 in
theorem ggX6_places_X6_has : GoodIn wsX6_places wsX6_has := goodIn_r _ [21] (by decide +kernel) (by decide +kernel)
set_option maxRecDepth 20000 in
theorem gX6_places_X6_has : GoodIn wsX6_places (va_wsS RX6 107 yX6_has wsX6_has) := goodIn_app (goodIn_of _ (by decide +kernel)) ggX6_places_X6_has
set_option maxRecDepth 20000 in
theorem ggX6_places_X6_isRow : GoodIn wsX6_places wsX6_isRow := goodIn_r _ [25, 26, 27, 28, 4, 29, 10, 45, 46, 47, 48, 49, 50, 51, 52, 53, 54, 55, 56] (by decide +kernel) (by decide +kernel)
set_option maxRecDepth 20000 in
theorem gX6_places_X6_isRow : GoodIn wsX6_places (wsV RX6 67 RX6 yX6_isRow wsX6_isRow) := goodIn_app (goodIn_of _ (by decide +kernel)) ggX6_places_X6_isRow
set_option maxRecDepth 20000 in
theorem ggX6_places_X6_many : GoodIn wsX6_places wsX6_many := goodIn_r _ [33, 10, 45, 46, 47, 48, 49, 50, 51, 52, 53, 54, 55, 56] (by decide +kernel) (by decide +kernel)
set_option maxRecDepth 20000 in
theorem gX6_places_X6_many : GoodIn wsX6_places (wsV RX6 71 RX6 yX6_many wsX6_many) := goodIn_app (goodIn_of _ (by decide +kernel)) ggX6_places_X6_many
set_option maxRecDepth 20000 in
theorem ggX6_places_X6_keys : GoodIn wsX6_places wsX6_keys := goodIn_r _ [14, 10, 45, 46, 47, 48, 49, 50, 51, 52, 53, 54, 55, 56] (by decide +kernel) (by decide +kernel)
set_option maxRecDepth 20000 in
theorem gX6_places_X6_keys : GoodIn wsX6_places (wsV RX6 98 RX6 yX6_keys wsX6_keys) := goodIn_app (goodIn_of _ (by decide +kernel)) ggX6_places_X6_keys
set_option maxRecDepth 20000 in
theorem ggX6_places_X6_slotOf : GoodIn wsX6_places wsX6_slotOf := goodIn_r _ [18, 10, 45, 46, 47, 48, 49, 50, 51, 52, 53, 54, 55, 56] (by decide +kernel) (by decide +kernel)
set_option maxRecDepth 20000 in
theorem gX6_places_X6_slotOf : GoodIn wsX6_places (wsV RX6 101 RX6 yX6_slotOf wsX6_slotOf) := goodIn_app (goodIn_of _ (by decide +kernel)) ggX6_places_X6_slotOf
set_option maxRecDepth 20000 in
theorem ggX6_places_X6_byOf : GoodIn wsX6_places wsX6_byOf := goodIn_r _ [37, 10, 45, 46, 47, 48, 49, 50, 51, 52, 53, 54, 55, 56] (by decide +kernel) (by decide +kernel)
set_option maxRecDepth 20000 in
theorem gX6_places_X6_byOf : GoodIn wsX6_places (wsV RX6 110 RX6 yX6_byOf wsX6_byOf) := goodIn_app (goodIn_of _ (by decide +kernel)) ggX6_places_X6_byOf
set_option maxRecDepth 20000 in
theorem ggX6_places_X6_reads : GoodIn wsX6_places wsX6_reads := goodIn_r _ [41, 26, 27, 28, 4, 29, 10, 42, 43, 44, 45, 46, 47, 48, 49, 50, 51, 52, 53, 54, 55, 56] (by decide +kernel) (by decide +kernel)
set_option maxRecDepth 20000 in
theorem gX6_places_X6_reads : GoodIn wsX6_places (wsV RX6 113 RX6 yX6_reads wsX6_reads) := goodIn_app (goodIn_of _ (by decide +kernel)) ggX6_places_X6_reads
theorem dX6_places_0 : decode cX6_places 0 = .ok (.aload_n 0, 1) := by decide +kernel
theorem dX6_places_1 : decode cX6_places 1 = .ok (.invokevirtual 104, 3) := by decide +kernel
theorem dX6_places_4 : decode cX6_places 4 = .ok (.istore_n 1, 1) := by decide +kernel
theorem dX6_places_5 : decode cX6_places 5 = .ok (.iconst (-1), 1) := by decide +kernel
theorem dX6_places_6 : decode cX6_places 6 = .ok (.istore_n 2, 1) := by decide +kernel
theorem dX6_places_7 : decode cX6_places 7 = .ok (.iconst 0, 1) := by decide +kernel
theorem dX6_places_8 : decode cX6_places 8 = .ok (.istore_n 3, 1) := by decide +kernel
theorem dX6_places_9 : decode cX6_places 9 = .ok (.iload_n 3, 1) := by decide +kernel
theorem dX6_places_10 : decode cX6_places 10 = .ok (.bipush 6, 2) := by decide +kernel
theorem dX6_places_12 : decode cX6_places 12 = .ok (.if_icmp .ge 47, 3) := by decide +kernel
theorem dX6_places_15 : decode cX6_places 15 = .ok (.iload_n 1, 1) := by decide +kernel
theorem dX6_places_16 : decode cX6_places 16 = .ok (.iload_n 3, 1) := by decide +kernel
theorem dX6_places_17 : decode cX6_places 17 = .ok (.invokestatic 107, 3) := by decide +kernel
theorem dX6_places_20 : decode cX6_places 20 = .ok (.ifCond .eq 33, 3) := by decide +kernel
theorem dX6_places_23 : decode cX6_places 23 = .ok (.aload_n 0, 1) := by decide +kernel
theorem dX6_places_24 : decode cX6_places 24 = .ok (.iload_n 3, 1) := by decide +kernel
theorem dX6_places_25 : decode cX6_places 25 = .ok (.invokevirtual 67, 3) := by decide +kernel
theorem dX6_places_28 : decode cX6_places 28 = .ok (.ifCond .eq 17, 3) := by decide +kernel
theorem dX6_places_31 : decode cX6_places 31 = .ok (.iload_n 2, 1) := by decide +kernel
theorem dX6_places_32 : decode cX6_places 32 = .ok (.iconst (-1), 1) := by decide +kernel
theorem dX6_places_33 : decode cX6_places 33 = .ok (.if_icmp .eq 14, 3) := by decide +kernel
theorem dX6_places_36 : decode cX6_places 36 = .ok (.iload_n 2, 1) := by decide +kernel
theorem dX6_places_37 : decode cX6_places 37 = .ok (.aload_n 0, 1) := by decide +kernel
theorem dX6_places_38 : decode cX6_places 38 = .ok (.iload_n 3, 1) := by decide +kernel
theorem dX6_places_39 : decode cX6_places 39 = .ok (.invokevirtual 71, 3) := by decide +kernel
theorem dX6_places_42 : decode cX6_places 42 = .ok (.if_icmp .eq 5, 3) := by decide +kernel
theorem dX6_places_45 : decode cX6_places 45 = .ok (.iconst (-1), 1) := by decide +kernel
theorem dX6_places_46 : decode cX6_places 46 = .ok (.ireturn, 1) := by decide +kernel
theorem dX6_places_47 : decode cX6_places 47 = .ok (.aload_n 0, 1) := by decide +kernel
theorem dX6_places_48 : decode cX6_places 48 = .ok (.iload_n 3, 1) := by decide +kernel
theorem dX6_places_49 : decode cX6_places 49 = .ok (.invokevirtual 71, 3) := by decide +kernel
theorem dX6_places_52 : decode cX6_places 52 = .ok (.istore_n 2, 1) := by decide +kernel
theorem dX6_places_53 : decode cX6_places 53 = .ok (.iinc 3 1, 3) := by decide +kernel
theorem dX6_places_56 : decode cX6_places 56 = .ok (.goto (-47), 3) := by decide +kernel
theorem dX6_places_59 : decode cX6_places 59 = .ok (.iconst 0, 1) := by decide +kernel
theorem dX6_places_60 : decode cX6_places 60 = .ok (.istore_n 3, 1) := by decide +kernel
theorem dX6_places_61 : decode cX6_places 61 = .ok (.iload_n 3, 1) := by decide +kernel
theorem dX6_places_62 : decode cX6_places 62 = .ok (.aload_n 0, 1) := by decide +kernel
theorem dX6_places_63 : decode cX6_places 63 = .ok (.invokevirtual 98, 3) := by decide +kernel
theorem dX6_places_66 : decode cX6_places 66 = .ok (.if_icmp .ge 32, 3) := by decide +kernel
theorem dX6_places_69 : decode cX6_places 69 = .ok (.iload_n 2, 1) := by decide +kernel
theorem dX6_places_70 : decode cX6_places 70 = .ok (.ifCond .le 22, 3) := by decide +kernel
theorem dX6_places_73 : decode cX6_places 73 = .ok (.aload_n 0, 1) := by decide +kernel
theorem dX6_places_74 : decode cX6_places 74 = .ok (.aload_n 0, 1) := by decide +kernel
theorem dX6_places_75 : decode cX6_places 75 = .ok (.iload_n 3, 1) := by decide +kernel
theorem dX6_places_76 : decode cX6_places 76 = .ok (.invokevirtual 101, 3) := by decide +kernel
theorem dX6_places_79 : decode cX6_places 79 = .ok (.aload_n 0, 1) := by decide +kernel
theorem dX6_places_80 : decode cX6_places 80 = .ok (.iload_n 3, 1) := by decide +kernel
theorem dX6_places_81 : decode cX6_places 81 = .ok (.invokevirtual 110, 3) := by decide +kernel
theorem dX6_places_84 : decode cX6_places 84 = .ok (.invokevirtual 113, 3) := by decide +kernel
theorem dX6_places_87 : decode cX6_places 87 = .ok (.ifCond .ne 5, 3) := by decide +kernel
theorem dX6_places_90 : decode cX6_places 90 = .ok (.iconst (-1), 1) := by decide +kernel
theorem dX6_places_91 : decode cX6_places 91 = .ok (.ireturn, 1) := by decide +kernel
theorem dX6_places_92 : decode cX6_places 92 = .ok (.iinc 3 1, 3) := by decide +kernel
theorem dX6_places_95 : decode cX6_places 95 = .ok (.goto (-34), 3) := by decide +kernel
theorem dX6_places_98 : decode cX6_places 98 = .ok (.iload_n 2, 1) := by decide +kernel
theorem dX6_places_99 : decode cX6_places 99 = .ok (.ireturn, 1) := by decide +kernel
set_option maxRecDepth 20000 in
theorem ggX6_isPlace_X6_places : GoodIn wsX6_isPlace wsX6_places := goodIn_r _ [5, 6, 7, 8, 4, 9, 10, 11, 12, 13, 14, 15, 16, 17, 18, 19, 20, 21, 22, 23, 24, 25, 26, 27, 28, 29, 30, 31, 32, 33, 34, 35, 36, 37, 38, 39, 40, 41, 42, 43, 44, 45, 46, 47, 48, 52, 53, 54, 55, 56, 57, 58, 59, 60, 61, 62, 63] (by decide +kernel) (by decide +kernel)
set_option maxRecDepth 20000 in
theorem gX6_isPlace_X6_places : GoodIn wsX6_isPlace (wsV RX6 116 RX6 yX6_places wsX6_places) := goodIn_app (goodIn_of _ (by decide +kernel)) ggX6_isPlace_X6_places
set_option maxRecDepth 20000 in
theorem ggX6_isPlace_X6_in : GoodIn wsX6_isPlace wsX6_in := goodIn_r _ [51] (by decide +kernel) (by decide +kernel)
set_option maxRecDepth 20000 in
theorem gX6_isPlace_X6_in : GoodIn wsX6_isPlace (va_wsS RX6 74 yX6_in wsX6_in) := goodIn_app (goodIn_of _ (by decide +kernel)) ggX6_isPlace_X6_in
theorem dX6_isPlace_0 : decode cX6_isPlace 0 = .ok (.iload_n 1, 1) := by decide +kernel
theorem dX6_isPlace_1 : decode cX6_isPlace 1 = .ok (.i2l, 1) := by decide +kernel
theorem dX6_isPlace_2 : decode cX6_isPlace 2 = .ok (.lconst 0, 1) := by decide +kernel
theorem dX6_isPlace_3 : decode cX6_isPlace 3 = .ok (.aload_n 0, 1) := by decide +kernel
theorem dX6_isPlace_4 : decode cX6_isPlace 4 = .ok (.invokevirtual 116, 3) := by decide +kernel
theorem dX6_isPlace_7 : decode cX6_isPlace 7 = .ok (.iconst 1, 1) := by decide +kernel
theorem dX6_isPlace_8 : decode cX6_isPlace 8 = .ok (.isub, 1) := by decide +kernel
theorem dX6_isPlace_9 : decode cX6_isPlace 9 = .ok (.i2l, 1) := by decide +kernel
theorem dX6_isPlace_10 : decode cX6_isPlace 10 = .ok (.invokestatic 74, 3) := by decide +kernel
theorem dX6_isPlace_13 : decode cX6_isPlace 13 = .ok (.ireturn, 1) := by decide +kernel
set_option maxRecDepth 20000 in
theorem ggX6_cells_X6_sortRead : GoodIn wsX6_cells wsX6_sortRead := goodIn_r _ [5, 6, 7, 8, 4, 9, 10, 11, 12, 13, 34, 35, 36, 37, 38, 39, 40, 41, 42, 43, 44, 45] (by decide +kernel) (by decide +kernel)
set_option maxRecDepth 20000 in
theorem gX6_cells_X6_sortRead : GoodIn wsX6_cells (wsV RX6 119 RX6 yX6_sortRead wsX6_sortRead) := goodIn_app (goodIn_of _ (by decide +kernel)) ggX6_cells_X6_sortRead
set_option maxRecDepth 20000 in
theorem ggX6_cells_X6_numberRead : GoodIn wsX6_cells wsX6_numberRead := goodIn_r _ [17, 10, 11, 12, 4, 13, 18, 19, 20, 21, 22, 23, 24, 34, 35, 36, 37, 38, 39, 40, 41, 42, 43, 44, 45] (by decide +kernel) (by decide +kernel)
set_option maxRecDepth 20000 in
theorem gX6_cells_X6_numberRead : GoodIn wsX6_cells (wsV RX6 123 RX6 yX6_numberRead wsX6_numberRead) := goodIn_app (goodIn_of _ (by decide +kernel)) ggX6_cells_X6_numberRead
set_option maxRecDepth 20000 in
theorem ggX6_cells_X6_against : GoodIn wsX6_cells wsX6_against := goodIn_r _ [28, 29, 30, 31, 4, 32, 33, 10, 24, 34, 35, 36, 37, 38, 39, 40, 41, 42, 43, 44, 45] (by decide +kernel) (by decide +kernel)
set_option maxRecDepth 20000 in
theorem gX6_cells_X6_against : GoodIn wsX6_cells (wsV RX6 127 RX6 yX6_against wsX6_against) := goodIn_app (goodIn_of _ (by decide +kernel)) ggX6_cells_X6_against
theorem dX6_cells_0 : decode cX6_cells 0 = .ok (.aload_n 0, 1) := by decide +kernel
theorem dX6_cells_1 : decode cX6_cells 1 = .ok (.aload_n 0, 1) := by decide +kernel
theorem dX6_cells_2 : decode cX6_cells 2 = .ok (.iload_n 1, 1) := by decide +kernel
theorem dX6_cells_3 : decode cX6_cells 3 = .ok (.iload_n 3, 1) := by decide +kernel
theorem dX6_cells_4 : decode cX6_cells 4 = .ok (.iload_n 2, 1) := by decide +kernel
theorem dX6_cells_5 : decode cX6_cells 5 = .ok (.invokevirtual 119, 3) := by decide +kernel
theorem dX6_cells_8 : decode cX6_cells 8 = .ok (.aload_n 0, 1) := by decide +kernel
theorem dX6_cells_9 : decode cX6_cells 9 = .ok (.iload_n 1, 1) := by decide +kernel
theorem dX6_cells_10 : decode cX6_cells 10 = .ok (.iload_n 3, 1) := by decide +kernel
theorem dX6_cells_11 : decode cX6_cells 11 = .ok (.iload_n 2, 1) := by decide +kernel
theorem dX6_cells_12 : decode cX6_cells 12 = .ok (.invokevirtual 123, 3) := by decide +kernel
theorem dX6_cells_15 : decode cX6_cells 15 = .ok (.aload_n 0, 1) := by decide +kernel
theorem dX6_cells_16 : decode cX6_cells 16 = .ok (.iload_n 1, 1) := by decide +kernel
theorem dX6_cells_17 : decode cX6_cells 17 = .ok (.iload 4, 2) := by decide +kernel
theorem dX6_cells_19 : decode cX6_cells 19 = .ok (.iload_n 2, 1) := by decide +kernel
theorem dX6_cells_20 : decode cX6_cells 20 = .ok (.invokevirtual 119, 3) := by decide +kernel
theorem dX6_cells_23 : decode cX6_cells 23 = .ok (.aload_n 0, 1) := by decide +kernel
theorem dX6_cells_24 : decode cX6_cells 24 = .ok (.iload_n 1, 1) := by decide +kernel
theorem dX6_cells_25 : decode cX6_cells 25 = .ok (.iload 4, 2) := by decide +kernel
theorem dX6_cells_27 : decode cX6_cells 27 = .ok (.iload_n 2, 1) := by decide +kernel
theorem dX6_cells_28 : decode cX6_cells 28 = .ok (.invokevirtual 123, 3) := by decide +kernel
theorem dX6_cells_31 : decode cX6_cells 31 = .ok (.invokevirtual 127, 3) := by decide +kernel
theorem dX6_cells_34 : decode cX6_cells 34 = .ok (.ireturn, 1) := by decide +kernel
set_option maxRecDepth 20000 in
theorem ggX6_by_X6_keys : GoodIn wsX6_by wsX6_keys := goodIn_r _ [6, 1, 53, 54, 55, 56, 57, 58, 59, 60, 61, 62, 63, 64] (by decide +kernel) (by decide +kernel)
set_option maxRecDepth 20000 in
theorem gX6_by_X6_keys : GoodIn wsX6_by (wsV RX6 98 RX6 yX6_keys wsX6_keys) := goodIn_app (goodIn_of _ (by decide +kernel)) ggX6_by_X6_keys
set_option maxRecDepth 20000 in
theorem ggX6_by_X6_has : GoodIn wsX6_by wsX6_has := goodIn_r _ [9] (by decide +kernel) (by decide +kernel)
set_option maxRecDepth 20000 in
theorem gX6_by_X6_has : GoodIn wsX6_by (va_wsS RX6 107 yX6_has wsX6_has) := goodIn_app (goodIn_of _ (by decide +kernel)) ggX6_by_X6_has
set_option maxRecDepth 20000 in
theorem ggX6_by_X6_slotOf : GoodIn wsX6_by wsX6_slotOf := goodIn_r _ [13, 1, 53, 54, 55, 56, 57, 58, 59, 60, 61, 62, 63, 64] (by decide +kernel) (by decide +kernel)
set_option maxRecDepth 20000 in
theorem gX6_by_X6_slotOf : GoodIn wsX6_by (wsV RX6 101 RX6 yX6_slotOf wsX6_slotOf) := goodIn_app (goodIn_of _ (by decide +kernel)) ggX6_by_X6_slotOf
set_option maxRecDepth 20000 in
theorem ggX6_by_X6_byOf : GoodIn wsX6_by wsX6_byOf := goodIn_r _ [17, 1, 53, 54, 55, 56, 57, 58, 59, 60, 61, 62, 63, 64] (by decide +kernel) (by decide +kernel)
set_option maxRecDepth 20000 in
theorem gX6_by_X6_byOf : GoodIn wsX6_by (wsV RX6 110 RX6 yX6_byOf wsX6_byOf) := goodIn_app (goodIn_of _ (by decide +kernel)) ggX6_by_X6_byOf
set_option maxRecDepth 20000 in
theorem ggX6_by_X6_cells : GoodIn wsX6_by wsX6_cells := goodIn_r _ [21, 22, 23, 24, 5, 25, 26, 27, 28, 29, 1, 30, 31, 32, 33, 34, 35, 36, 37, 38, 39, 40, 41, 42, 43, 44, 45, 46, 47, 48, 49, 50, 51, 52, 53, 54, 55, 56, 57, 58, 59, 60, 61, 62, 63, 64] (by decide +kernel) (by decide +kernel)
set_option maxRecDepth 20000 in
theorem gX6_by_X6_cells : GoodIn wsX6_by (wsV RX6 131 RX6 yX6_cells wsX6_cells) := goodIn_app (goodIn_of _ (by decide +kernel)) ggX6_by_X6_cells
theorem dX6_by_0 : decode cX6_by 0 = .ok (.iconst 0, 1) := by decide +kernel
theorem dX6_by_1 : decode cX6_by 1 = .ok (.istore 4, 2) := by decide +kernel
theorem dX6_by_3 : decode cX6_by 3 = .ok (.iload 4, 2) := by decide +kernel
theorem dX6_by_5 : decode cX6_by 5 = .ok (.aload_n 0, 1) := by decide +kernel
theorem dX6_by_6 : decode cX6_by 6 = .ok (.invokevirtual 98, 3) := by decide +kernel
theorem dX6_by_9 : decode cX6_by 9 = .ok (.if_icmp .ge 76, 3) := by decide +kernel
theorem dX6_by_12 : decode cX6_by 12 = .ok (.iload_n 1, 1) := by decide +kernel
theorem dX6_by_13 : decode cX6_by 13 = .ok (.iload 4, 2) := by decide +kernel
theorem dX6_by_15 : decode cX6_by 15 = .ok (.invokestatic 107, 3) := by decide +kernel
theorem dX6_by_18 : decode cX6_by 18 = .ok (.ifCond .eq 24, 3) := by decide +kernel
theorem dX6_by_21 : decode cX6_by 21 = .ok (.aload_n 0, 1) := by decide +kernel
theorem dX6_by_22 : decode cX6_by 22 = .ok (.aload_n 0, 1) := by decide +kernel
theorem dX6_by_23 : decode cX6_by 23 = .ok (.iload 4, 2) := by decide +kernel
theorem dX6_by_25 : decode cX6_by 25 = .ok (.invokevirtual 101, 3) := by decide +kernel
theorem dX6_by_28 : decode cX6_by 28 = .ok (.aload_n 0, 1) := by decide +kernel
theorem dX6_by_29 : decode cX6_by 29 = .ok (.iload 4, 2) := by decide +kernel
theorem dX6_by_31 : decode cX6_by 31 = .ok (.invokevirtual 110, 3) := by decide +kernel
theorem dX6_by_34 : decode cX6_by 34 = .ok (.iload_n 2, 1) := by decide +kernel
theorem dX6_by_35 : decode cX6_by 35 = .ok (.iload_n 3, 1) := by decide +kernel
theorem dX6_by_36 : decode cX6_by 36 = .ok (.invokevirtual 131, 3) := by decide +kernel
theorem dX6_by_39 : decode cX6_by 39 = .ok (.goto 4, 3) := by decide +kernel
theorem dX6_by_42 : decode cX6_by 42 = .ok (.iconst 0, 1) := by decide +kernel
theorem dX6_by_43 : decode cX6_by 43 = .ok (.istore 5, 2) := by decide +kernel
theorem dX6_by_45 : decode cX6_by 45 = .ok (.iload 5, 2) := by decide +kernel
theorem dX6_by_47 : decode cX6_by 47 = .ok (.ifCond .eq 32, 3) := by decide +kernel
theorem dX6_by_50 : decode cX6_by 50 = .ok (.aload_n 0, 1) := by decide +kernel
theorem dX6_by_51 : decode cX6_by 51 = .ok (.getfield 7, 3) := by decide +kernel
theorem dX6_by_54 : decode cX6_by 54 = .ok (.sipush 157, 3) := by decide +kernel
theorem dX6_by_57 : decode cX6_by 57 = .ok (.iconst 3, 1) := by decide +kernel
theorem dX6_by_58 : decode cX6_by 58 = .ok (.iload 4, 2) := by decide +kernel
theorem dX6_by_60 : decode cX6_by 60 = .ok (.imul, 1) := by decide +kernel
theorem dX6_by_61 : decode cX6_by 61 = .ok (.iadd, 1) := by decide +kernel
theorem dX6_by_62 : decode cX6_by 62 = .ok (.iconst 2, 1) := by decide +kernel
theorem dX6_by_63 : decode cX6_by 63 = .ok (.iadd, 1) := by decide +kernel
theorem dX6_by_64 : decode cX6_by 64 = .ok (.laload, 1) := by decide +kernel
theorem dX6_by_65 : decode cX6_by 65 = .ok (.lconst 1, 1) := by decide +kernel
theorem dX6_by_66 : decode cX6_by 66 = .ok (.lcmp, 1) := by decide +kernel
theorem dX6_by_67 : decode cX6_by 67 = .ok (.ifCond .ne 9, 3) := by decide +kernel
theorem dX6_by_70 : decode cX6_by 70 = .ok (.iload 5, 2) := by decide +kernel
theorem dX6_by_72 : decode cX6_by 72 = .ok (.ineg, 1) := by decide +kernel
theorem dX6_by_73 : decode cX6_by 73 = .ok (.goto 5, 3) := by decide +kernel
theorem dX6_by_76 : decode cX6_by 76 = .ok (.iload 5, 2) := by decide +kernel
theorem dX6_by_78 : decode cX6_by 78 = .ok (.ireturn, 1) := by decide +kernel
theorem dX6_by_79 : decode cX6_by 79 = .ok (.iinc 4 1, 3) := by decide +kernel
theorem dX6_by_82 : decode cX6_by 82 = .ok (.goto (-79), 3) := by decide +kernel
theorem dX6_by_85 : decode cX6_by 85 = .ok (.iconst 0, 1) := by decide +kernel
theorem dX6_by_86 : decode cX6_by 86 = .ok (.ireturn, 1) := by decide +kernel
set_option maxRecDepth 20000 in
theorem ggX6_isLess_X6_by : GoodIn wsX6_isLess wsX6_by := goodIn_r _ [5, 6, 7, 8, 9, 4, 10, 11, 12, 13, 14, 15, 16, 17, 18, 19, 20, 21, 22, 23, 24, 25, 26, 27, 28, 29, 30, 31, 32, 33, 34, 35, 36, 37, 38, 39, 40, 41, 42, 43, 44, 45, 46, 47, 48, 49, 50, 51, 52, 53, 54, 55, 56, 57, 58, 59, 60, 61, 62, 63, 64, 65, 66, 67, 68] (by decide +kernel) (by decide +kernel)
set_option maxRecDepth 20000 in
theorem gX6_isLess_X6_by : GoodIn wsX6_isLess (wsV RX6 135 RX6 yX6_by wsX6_by) := goodIn_app (goodIn_of _ (by decide +kernel)) ggX6_isLess_X6_by
theorem dX6_isLess_0 : decode cX6_isLess 0 = .ok (.aload_n 0, 1) := by decide +kernel
theorem dX6_isLess_1 : decode cX6_isLess 1 = .ok (.bipush 15, 2) := by decide +kernel
theorem dX6_isLess_3 : decode cX6_isLess 3 = .ok (.iload_n 1, 1) := by decide +kernel
theorem dX6_isLess_4 : decode cX6_isLess 4 = .ok (.iload_n 2, 1) := by decide +kernel
theorem dX6_isLess_5 : decode cX6_isLess 5 = .ok (.invokevirtual 135, 3) := by decide +kernel
theorem dX6_isLess_8 : decode cX6_isLess 8 = .ok (.ifCond .ge 7, 3) := by decide +kernel
theorem dX6_isLess_11 : decode cX6_isLess 11 = .ok (.iconst 1, 1) := by decide +kernel
theorem dX6_isLess_12 : decode cX6_isLess 12 = .ok (.goto 4, 3) := by decide +kernel
theorem dX6_isLess_15 : decode cX6_isLess 15 = .ok (.iconst 0, 1) := by decide +kernel
theorem dX6_isLess_16 : decode cX6_isLess 16 = .ok (.ireturn, 1) := by decide +kernel
set_option maxRecDepth 20000 in
theorem ggX6_position_X6_by : GoodIn wsX6_position wsX6_by := goodIn_r _ [5, 6, 7, 8, 9, 4, 10, 11, 12, 13, 14, 15, 16, 17, 18, 19, 20, 21, 22, 23, 24, 25, 26, 27, 28, 29, 30, 31, 32, 33, 34, 35, 36, 37, 38, 39, 40, 41, 42, 43, 44, 45, 46, 47, 48, 49, 50, 51, 52, 53, 54, 55, 56, 57, 58, 59, 60, 61, 62, 63, 64, 65, 66, 67, 68] (by decide +kernel) (by decide +kernel)
set_option maxRecDepth 20000 in
theorem gX6_position_X6_by : GoodIn wsX6_position (wsV RX6 135 RX6 yX6_by wsX6_by) := goodIn_app (goodIn_of _ (by decide +kernel)) ggX6_position_X6_by
theorem dX6_position_0 : decode cX6_position 0 = .ok (.iconst 0, 1) := by decide +kernel
theorem dX6_position_1 : decode cX6_position 1 = .ok (.istore 4, 2) := by decide +kernel
theorem dX6_position_3 : decode cX6_position 3 = .ok (.iconst 0, 1) := by decide +kernel
theorem dX6_position_4 : decode cX6_position 4 = .ok (.istore 5, 2) := by decide +kernel
theorem dX6_position_6 : decode cX6_position 6 = .ok (.iload 5, 2) := by decide +kernel
theorem dX6_position_8 : decode cX6_position 8 = .ok (.iload_n 3, 1) := by decide +kernel
theorem dX6_position_9 : decode cX6_position 9 = .ok (.if_icmp .ge 45, 3) := by decide +kernel
theorem dX6_position_12 : decode cX6_position 12 = .ok (.aload_n 0, 1) := by decide +kernel
theorem dX6_position_13 : decode cX6_position 13 = .ok (.iload_n 1, 1) := by decide +kernel
theorem dX6_position_14 : decode cX6_position 14 = .ok (.iload 5, 2) := by decide +kernel
theorem dX6_position_16 : decode cX6_position 16 = .ok (.iload_n 2, 1) := by decide +kernel
theorem dX6_position_17 : decode cX6_position 17 = .ok (.invokevirtual 135, 3) := by decide +kernel
theorem dX6_position_20 : decode cX6_position 20 = .ok (.istore 6, 2) := by decide +kernel
theorem dX6_position_22 : decode cX6_position 22 = .ok (.iload 4, 2) := by decide +kernel
theorem dX6_position_24 : decode cX6_position 24 = .ok (.iload 6, 2) := by decide +kernel
theorem dX6_position_26 : decode cX6_position 26 = .ok (.ifCond .lt 14, 3) := by decide +kernel
theorem dX6_position_29 : decode cX6_position 29 = .ok (.iload 6, 2) := by decide +kernel
theorem dX6_position_31 : decode cX6_position 31 = .ok (.ifCond .ne 13, 3) := by decide +kernel
theorem dX6_position_34 : decode cX6_position 34 = .ok (.iload 5, 2) := by decide +kernel
theorem dX6_position_36 : decode cX6_position 36 = .ok (.iload_n 2, 1) := by decide +kernel
theorem dX6_position_37 : decode cX6_position 37 = .ok (.if_icmp .ge 7, 3) := by decide +kernel
theorem dX6_position_40 : decode cX6_position 40 = .ok (.iconst 1, 1) := by decide +kernel
theorem dX6_position_41 : decode cX6_position 41 = .ok (.goto 4, 3) := by decide +kernel
theorem dX6_position_44 : decode cX6_position 44 = .ok (.iconst 0, 1) := by decide +kernel
theorem dX6_position_45 : decode cX6_position 45 = .ok (.iadd, 1) := by decide +kernel
theorem dX6_position_46 : decode cX6_position 46 = .ok (.istore 4, 2) := by decide +kernel
theorem dX6_position_48 : decode cX6_position 48 = .ok (.iinc 5 1, 3) := by decide +kernel
theorem dX6_position_51 : decode cX6_position 51 = .ok (.goto (-45), 3) := by decide +kernel
theorem dX6_position_54 : decode cX6_position 54 = .ok (.iload 4, 2) := by decide +kernel
theorem dX6_position_56 : decode cX6_position 56 = .ok (.ireturn, 1) := by decide +kernel
set_option maxRecDepth 20000 in
theorem ggX6_pairs_X6_by : GoodIn wsX6_pairs wsX6_by := goodIn_r _ [5, 6, 7, 8, 9, 4, 10, 11, 12, 13, 14, 15, 16, 17, 18, 19, 20, 21, 22, 23, 24, 25, 26, 27, 28, 29, 30, 31, 32, 33, 34, 35, 36, 37, 38, 39, 40, 41, 42, 43, 44, 45, 46, 47, 48, 49, 50, 51, 52, 53, 54, 55, 56, 57, 58, 59, 60, 61, 62, 63, 64, 65, 66, 67, 68] (by decide +kernel) (by decide +kernel)
set_option maxRecDepth 20000 in
theorem gX6_pairs_X6_by : GoodIn wsX6_pairs (wsV RX6 135 RX6 yX6_by wsX6_by) := goodIn_app (goodIn_of _ (by decide +kernel)) ggX6_pairs_X6_by
theorem dX6_pairs_0 : decode cX6_pairs 0 = .ok (.iconst 0, 1) := by decide +kernel
theorem dX6_pairs_1 : decode cX6_pairs 1 = .ok (.istore_n 3, 1) := by decide +kernel
theorem dX6_pairs_2 : decode cX6_pairs 2 = .ok (.iconst 0, 1) := by decide +kernel
theorem dX6_pairs_3 : decode cX6_pairs 3 = .ok (.istore 4, 2) := by decide +kernel
theorem dX6_pairs_5 : decode cX6_pairs 5 = .ok (.iload 4, 2) := by decide +kernel
theorem dX6_pairs_7 : decode cX6_pairs 7 = .ok (.iload_n 1, 1) := by decide +kernel
theorem dX6_pairs_8 : decode cX6_pairs 8 = .ok (.if_icmp .ge 49, 3) := by decide +kernel
theorem dX6_pairs_11 : decode cX6_pairs 11 = .ok (.iload 4, 2) := by decide +kernel
theorem dX6_pairs_13 : decode cX6_pairs 13 = .ok (.iconst 1, 1) := by decide +kernel
theorem dX6_pairs_14 : decode cX6_pairs 14 = .ok (.iadd, 1) := by decide +kernel
theorem dX6_pairs_15 : decode cX6_pairs 15 = .ok (.istore 5, 2) := by decide +kernel
theorem dX6_pairs_17 : decode cX6_pairs 17 = .ok (.iload 5, 2) := by decide +kernel
theorem dX6_pairs_19 : decode cX6_pairs 19 = .ok (.iload_n 1, 1) := by decide +kernel
theorem dX6_pairs_20 : decode cX6_pairs 20 = .ok (.if_icmp .ge 31, 3) := by decide +kernel
theorem dX6_pairs_23 : decode cX6_pairs 23 = .ok (.iload_n 3, 1) := by decide +kernel
theorem dX6_pairs_24 : decode cX6_pairs 24 = .ok (.aload_n 0, 1) := by decide +kernel
theorem dX6_pairs_25 : decode cX6_pairs 25 = .ok (.bipush 15, 2) := by decide +kernel
theorem dX6_pairs_27 : decode cX6_pairs 27 = .ok (.iload 4, 2) := by decide +kernel
theorem dX6_pairs_29 : decode cX6_pairs 29 = .ok (.iload 5, 2) := by decide +kernel
theorem dX6_pairs_31 : decode cX6_pairs 31 = .ok (.invokevirtual 135, 3) := by decide +kernel
theorem dX6_pairs_34 : decode cX6_pairs 34 = .ok (.iload_n 2, 1) := by decide +kernel
theorem dX6_pairs_35 : decode cX6_pairs 35 = .ok (.if_icmp .ne 7, 3) := by decide +kernel
theorem dX6_pairs_38 : decode cX6_pairs 38 = .ok (.iconst 1, 1) := by decide +kernel
theorem dX6_pairs_39 : decode cX6_pairs 39 = .ok (.goto 4, 3) := by decide +kernel
theorem dX6_pairs_42 : decode cX6_pairs 42 = .ok (.iconst 0, 1) := by decide +kernel
theorem dX6_pairs_43 : decode cX6_pairs 43 = .ok (.iadd, 1) := by decide +kernel
theorem dX6_pairs_44 : decode cX6_pairs 44 = .ok (.istore_n 3, 1) := by decide +kernel
theorem dX6_pairs_45 : decode cX6_pairs 45 = .ok (.iinc 5 1, 3) := by decide +kernel
theorem dX6_pairs_48 : decode cX6_pairs 48 = .ok (.goto (-31), 3) := by decide +kernel
theorem dX6_pairs_51 : decode cX6_pairs 51 = .ok (.iinc 4 1, 3) := by decide +kernel
theorem dX6_pairs_54 : decode cX6_pairs 54 = .ok (.goto (-49), 3) := by decide +kernel
theorem dX6_pairs_57 : decode cX6_pairs 57 = .ok (.iload_n 3, 1) := by decide +kernel
theorem dX6_pairs_58 : decode cX6_pairs 58 = .ok (.ireturn, 1) := by decide +kernel
set_option maxRecDepth 20000 in
theorem ggX6_runs_X6_isLess : GoodIn wsX6_runs wsX6_isLess := goodIn_r _ [5, 6, 7, 8, 4, 9, 10, 11, 12, 13, 14, 15, 16, 17, 18, 19, 20, 21, 22, 23, 24, 25, 26, 27, 28, 29, 30, 31, 32, 33, 34, 35, 36, 37, 38, 39, 40, 41, 42, 43, 44, 45, 46, 47, 48, 49, 50, 51, 52, 53, 54, 55, 56, 57, 58, 59, 60, 61, 62, 63, 64, 65, 66, 67, 68, 69, 70, 71, 72] (by decide +kernel) (by decide +kernel)
set_option maxRecDepth 20000 in
theorem gX6_runs_X6_isLess : GoodIn wsX6_runs (wsV RX6 138 RX6 yX6_isLess wsX6_isLess) := goodIn_app (goodIn_of _ (by decide +kernel)) ggX6_runs_X6_isLess
theorem dX6_runs_0 : decode cX6_runs 0 = .ok (.iload_n 1, 1) := by decide +kernel
theorem dX6_runs_1 : decode cX6_runs 1 = .ok (.ifCond .le 7, 3) := by decide +kernel
theorem dX6_runs_4 : decode cX6_runs 4 = .ok (.iconst 1, 1) := by decide +kernel
theorem dX6_runs_5 : decode cX6_runs 5 = .ok (.goto 4, 3) := by decide +kernel
theorem dX6_runs_8 : decode cX6_runs 8 = .ok (.iconst 0, 1) := by decide +kernel
theorem dX6_runs_9 : decode cX6_runs 9 = .ok (.istore_n 2, 1) := by decide +kernel
theorem dX6_runs_10 : decode cX6_runs 10 = .ok (.iconst 1, 1) := by decide +kernel
theorem dX6_runs_11 : decode cX6_runs 11 = .ok (.istore_n 3, 1) := by decide +kernel
theorem dX6_runs_12 : decode cX6_runs 12 = .ok (.iload_n 3, 1) := by decide +kernel
theorem dX6_runs_13 : decode cX6_runs 13 = .ok (.iload_n 1, 1) := by decide +kernel
theorem dX6_runs_14 : decode cX6_runs 14 = .ok (.if_icmp .ge 28, 3) := by decide +kernel
theorem dX6_runs_17 : decode cX6_runs 17 = .ok (.iload_n 2, 1) := by decide +kernel
theorem dX6_runs_18 : decode cX6_runs 18 = .ok (.aload_n 0, 1) := by decide +kernel
theorem dX6_runs_19 : decode cX6_runs 19 = .ok (.iload_n 3, 1) := by decide +kernel
theorem dX6_runs_20 : decode cX6_runs 20 = .ok (.iload_n 3, 1) := by decide +kernel
theorem dX6_runs_21 : decode cX6_runs 21 = .ok (.iconst 1, 1) := by decide +kernel
theorem dX6_runs_22 : decode cX6_runs 22 = .ok (.isub, 1) := by decide +kernel
theorem dX6_runs_23 : decode cX6_runs 23 = .ok (.invokevirtual 138, 3) := by decide +kernel
theorem dX6_runs_26 : decode cX6_runs 26 = .ok (.ifCond .eq 7, 3) := by decide +kernel
theorem dX6_runs_29 : decode cX6_runs 29 = .ok (.iconst 1, 1) := by decide +kernel
theorem dX6_runs_30 : decode cX6_runs 30 = .ok (.goto 4, 3) := by decide +kernel
theorem dX6_runs_33 : decode cX6_runs 33 = .ok (.iconst 0, 1) := by decide +kernel
theorem dX6_runs_34 : decode cX6_runs 34 = .ok (.iadd, 1) := by decide +kernel
theorem dX6_runs_35 : decode cX6_runs 35 = .ok (.istore_n 2, 1) := by decide +kernel
theorem dX6_runs_36 : decode cX6_runs 36 = .ok (.iinc 3 1, 3) := by decide +kernel
theorem dX6_runs_39 : decode cX6_runs 39 = .ok (.goto (-27), 3) := by decide +kernel
theorem dX6_runs_42 : decode cX6_runs 42 = .ok (.iload_n 2, 1) := by decide +kernel
theorem dX6_runs_43 : decode cX6_runs 43 = .ok (.ireturn, 1) := by decide +kernel
set_option maxRecDepth 20000 in
theorem ggX6_staying_X6_isLess : GoodIn wsX6_staying wsX6_isLess := goodIn_r _ [6, 7, 8, 9, 5, 10, 11, 12, 13, 14, 15, 16, 17, 18, 19, 20, 21, 22, 23, 24, 25, 26, 27, 28, 29, 30, 31, 32, 33, 34, 35, 36, 37, 38, 39, 40, 41, 42, 43, 44, 45, 46, 47, 48, 49, 50, 51, 52, 53, 54, 55, 56, 57, 58, 59, 60, 61, 62, 63, 64, 65, 66, 67, 68, 69, 70, 71, 72, 73] (by decide +kernel) (by decide +kernel)
set_option maxRecDepth 20000 in
theorem gX6_staying_X6_isLess : GoodIn wsX6_staying (wsV RX6 138 RX6 yX6_isLess wsX6_isLess) := goodIn_app (goodIn_of _ (by decide +kernel)) ggX6_staying_X6_isLess
theorem dX6_staying_0 : decode cX6_staying 0 = .ok (.iconst 0, 1) := by decide +kernel
theorem dX6_staying_1 : decode cX6_staying 1 = .ok (.istore_n 2, 1) := by decide +kernel
theorem dX6_staying_2 : decode cX6_staying 2 = .ok (.iconst 0, 1) := by decide +kernel
theorem dX6_staying_3 : decode cX6_staying 3 = .ok (.istore_n 3, 1) := by decide +kernel
theorem dX6_staying_4 : decode cX6_staying 4 = .ok (.iload_n 3, 1) := by decide +kernel
theorem dX6_staying_5 : decode cX6_staying 5 = .ok (.iload_n 1, 1) := by decide +kernel
theorem dX6_staying_6 : decode cX6_staying 6 = .ok (.if_icmp .ge 102, 3) := by decide +kernel
theorem dX6_staying_9 : decode cX6_staying 9 = .ok (.aload_n 0, 1) := by decide +kernel
theorem dX6_staying_10 : decode cX6_staying 10 = .ok (.getfield 27, 3) := by decide +kernel
theorem dX6_staying_13 : decode cX6_staying 13 = .ok (.iload_n 3, 1) := by decide +kernel
theorem dX6_staying_14 : decode cX6_staying 14 = .ok (.iconst 1, 1) := by decide +kernel
theorem dX6_staying_15 : decode cX6_staying 15 = .ok (.iastore, 1) := by decide +kernel
theorem dX6_staying_16 : decode cX6_staying 16 = .ok (.iconst 0, 1) := by decide +kernel
theorem dX6_staying_17 : decode cX6_staying 17 = .ok (.istore 4, 2) := by decide +kernel
theorem dX6_staying_19 : decode cX6_staying 19 = .ok (.iload 4, 2) := by decide +kernel
theorem dX6_staying_21 : decode cX6_staying 21 = .ok (.iload_n 3, 1) := by decide +kernel
theorem dX6_staying_22 : decode cX6_staying 22 = .ok (.if_icmp .ge 59, 3) := by decide +kernel
theorem dX6_staying_25 : decode cX6_staying 25 = .ok (.aload_n 0, 1) := by decide +kernel
theorem dX6_staying_26 : decode cX6_staying 26 = .ok (.getfield 27, 3) := by decide +kernel
theorem dX6_staying_29 : decode cX6_staying 29 = .ok (.iload_n 3, 1) := by decide +kernel
theorem dX6_staying_30 : decode cX6_staying 30 = .ok (.aload_n 0, 1) := by decide +kernel
theorem dX6_staying_31 : decode cX6_staying 31 = .ok (.iload_n 3, 1) := by decide +kernel
theorem dX6_staying_32 : decode cX6_staying 32 = .ok (.iload 4, 2) := by decide +kernel
theorem dX6_staying_34 : decode cX6_staying 34 = .ok (.invokevirtual 138, 3) := by decide +kernel
theorem dX6_staying_37 : decode cX6_staying 37 = .ok (.ifCond .ne 31, 3) := by decide +kernel
theorem dX6_staying_40 : decode cX6_staying 40 = .ok (.aload_n 0, 1) := by decide +kernel
theorem dX6_staying_41 : decode cX6_staying 41 = .ok (.getfield 27, 3) := by decide +kernel
theorem dX6_staying_44 : decode cX6_staying 44 = .ok (.iload 4, 2) := by decide +kernel
theorem dX6_staying_46 : decode cX6_staying 46 = .ok (.iaload, 1) := by decide +kernel
theorem dX6_staying_47 : decode cX6_staying 47 = .ok (.aload_n 0, 1) := by decide +kernel
theorem dX6_staying_48 : decode cX6_staying 48 = .ok (.getfield 27, 3) := by decide +kernel
theorem dX6_staying_51 : decode cX6_staying 51 = .ok (.iload_n 3, 1) := by decide +kernel
theorem dX6_staying_52 : decode cX6_staying 52 = .ok (.iaload, 1) := by decide +kernel
theorem dX6_staying_53 : decode cX6_staying 53 = .ok (.if_icmp .lt 15, 3) := by decide +kernel
theorem dX6_staying_56 : decode cX6_staying 56 = .ok (.aload_n 0, 1) := by decide +kernel
theorem dX6_staying_57 : decode cX6_staying 57 = .ok (.getfield 27, 3) := by decide +kernel
theorem dX6_staying_60 : decode cX6_staying 60 = .ok (.iload 4, 2) := by decide +kernel
theorem dX6_staying_62 : decode cX6_staying 62 = .ok (.iaload, 1) := by decide +kernel
theorem dX6_staying_63 : decode cX6_staying 63 = .ok (.iconst 1, 1) := by decide +kernel
theorem dX6_staying_64 : decode cX6_staying 64 = .ok (.iadd, 1) := by decide +kernel
theorem dX6_staying_65 : decode cX6_staying 65 = .ok (.goto 9, 3) := by decide +kernel
theorem dX6_staying_68 : decode cX6_staying 68 = .ok (.aload_n 0, 1) := by decide +kernel
theorem dX6_staying_69 : decode cX6_staying 69 = .ok (.getfield 27, 3) := by decide +kernel
theorem dX6_staying_72 : decode cX6_staying 72 = .ok (.iload_n 3, 1) := by decide +kernel
theorem dX6_staying_73 : decode cX6_staying 73 = .ok (.iaload, 1) := by decide +kernel
theorem dX6_staying_74 : decode cX6_staying 74 = .ok (.iastore, 1) := by decide +kernel
theorem dX6_staying_75 : decode cX6_staying 75 = .ok (.iinc 4 1, 3) := by decide +kernel
theorem dX6_staying_78 : decode cX6_staying 78 = .ok (.goto (-59), 3) := by decide +kernel
theorem dX6_staying_81 : decode cX6_staying 81 = .ok (.aload_n 0, 1) := by decide +kernel
theorem dX6_staying_82 : decode cX6_staying 82 = .ok (.getfield 27, 3) := by decide +kernel
theorem dX6_staying_85 : decode cX6_staying 85 = .ok (.iload_n 3, 1) := by decide +kernel
theorem dX6_staying_86 : decode cX6_staying 86 = .ok (.iaload, 1) := by decide +kernel
theorem dX6_staying_87 : decode cX6_staying 87 = .ok (.iload_n 2, 1) := by decide +kernel
theorem dX6_staying_88 : decode cX6_staying 88 = .ok (.if_icmp .le 12, 3) := by decide +kernel
theorem dX6_staying_91 : decode cX6_staying 91 = .ok (.aload_n 0, 1) := by decide +kernel
theorem dX6_staying_92 : decode cX6_staying 92 = .ok (.getfield 27, 3) := by decide +kernel
theorem dX6_staying_95 : decode cX6_staying 95 = .ok (.iload_n 3, 1) := by decide +kernel
theorem dX6_staying_96 : decode cX6_staying 96 = .ok (.iaload, 1) := by decide +kernel
theorem dX6_staying_97 : decode cX6_staying 97 = .ok (.goto 4, 3) := by decide +kernel
theorem dX6_staying_100 : decode cX6_staying 100 = .ok (.iload_n 2, 1) := by decide +kernel
theorem dX6_staying_101 : decode cX6_staying 101 = .ok (.istore_n 2, 1) := by decide +kernel
theorem dX6_staying_102 : decode cX6_staying 102 = .ok (.iinc 3 1, 3) := by decide +kernel
theorem dX6_staying_105 : decode cX6_staying 105 = .ok (.goto (-101), 3) := by decide +kernel
theorem dX6_staying_108 : decode cX6_staying 108 = .ok (.iload_n 2, 1) := by decide +kernel
theorem dX6_staying_109 : decode cX6_staying 109 = .ok (.ireturn, 1) := by decide +kernel
set_option maxRecDepth 20000 in
theorem ggX6_swaps_X6_has : GoodIn wsX6_swaps wsX6_has := goodIn_r _ [4] (by decide +kernel) (by decide +kernel)
set_option maxRecDepth 20000 in
theorem gX6_swaps_X6_has : GoodIn wsX6_swaps (va_wsS RX6 107 yX6_has wsX6_has) := goodIn_app (goodIn_of _ (by decide +kernel)) ggX6_swaps_X6_has
set_option maxRecDepth 20000 in
theorem ggX6_swaps_X6_position : GoodIn wsX6_swaps wsX6_position := goodIn_r _ [8, 9, 10, 11, 3, 12, 13, 14, 15, 16, 17, 1, 2, 4, 18, 19, 20, 21, 22, 23, 24, 25, 26, 27, 28, 29, 30, 31, 32, 33, 34, 35, 36, 37, 38, 39, 40, 41, 42, 43, 44, 45, 46, 47, 48, 49, 50, 51, 52, 53, 54, 55, 56, 57, 58, 59, 60, 61, 62, 63, 64, 65, 66, 67, 68, 69, 70, 71, 72] (by decide +kernel) (by decide +kernel)
set_option maxRecDepth 20000 in
theorem gX6_swaps_X6_position : GoodIn wsX6_swaps (wsV RX6 141 RX6 yX6_position wsX6_position) := goodIn_app (goodIn_of _ (by decide +kernel)) ggX6_swaps_X6_position
theorem dX6_swaps_0 : decode cX6_swaps 0 = .ok (.iconst 0, 1) := by decide +kernel
theorem dX6_swaps_1 : decode cX6_swaps 1 = .ok (.istore_n 2, 1) := by decide +kernel
theorem dX6_swaps_2 : decode cX6_swaps 2 = .ok (.iconst 0, 1) := by decide +kernel
theorem dX6_swaps_3 : decode cX6_swaps 3 = .ok (.istore_n 3, 1) := by decide +kernel
theorem dX6_swaps_4 : decode cX6_swaps 4 = .ok (.iconst 0, 1) := by decide +kernel
theorem dX6_swaps_5 : decode cX6_swaps 5 = .ok (.istore 4, 2) := by decide +kernel
theorem dX6_swaps_7 : decode cX6_swaps 7 = .ok (.iload 4, 2) := by decide +kernel
theorem dX6_swaps_9 : decode cX6_swaps 9 = .ok (.iload_n 1, 1) := by decide +kernel
theorem dX6_swaps_10 : decode cX6_swaps 10 = .ok (.if_icmp .ge 63, 3) := by decide +kernel
theorem dX6_swaps_13 : decode cX6_swaps 13 = .ok (.iload 4, 2) := by decide +kernel
theorem dX6_swaps_15 : decode cX6_swaps 15 = .ok (.istore 5, 2) := by decide +kernel
theorem dX6_swaps_17 : decode cX6_swaps 17 = .ok (.iload_n 3, 1) := by decide +kernel
theorem dX6_swaps_18 : decode cX6_swaps 18 = .ok (.iload_n 2, 1) := by decide +kernel
theorem dX6_swaps_19 : decode cX6_swaps 19 = .ok (.iload 4, 2) := by decide +kernel
theorem dX6_swaps_21 : decode cX6_swaps 21 = .ok (.invokestatic 107, 3) := by decide +kernel
theorem dX6_swaps_24 : decode cX6_swaps 24 = .ok (.ifCond .eq 7, 3) := by decide +kernel
theorem dX6_swaps_27 : decode cX6_swaps 27 = .ok (.iconst 0, 1) := by decide +kernel
theorem dX6_swaps_28 : decode cX6_swaps 28 = .ok (.goto 4, 3) := by decide +kernel
theorem dX6_swaps_31 : decode cX6_swaps 31 = .ok (.iconst (-1), 1) := by decide +kernel
theorem dX6_swaps_32 : decode cX6_swaps 32 = .ok (.iadd, 1) := by decide +kernel
theorem dX6_swaps_33 : decode cX6_swaps 33 = .ok (.istore_n 3, 1) := by decide +kernel
theorem dX6_swaps_34 : decode cX6_swaps 34 = .ok (.iload_n 2, 1) := by decide +kernel
theorem dX6_swaps_35 : decode cX6_swaps 35 = .ok (.iload 5, 2) := by decide +kernel
theorem dX6_swaps_37 : decode cX6_swaps 37 = .ok (.invokestatic 107, 3) := by decide +kernel
theorem dX6_swaps_40 : decode cX6_swaps 40 = .ok (.ifCond .ne 27, 3) := by decide +kernel
theorem dX6_swaps_43 : decode cX6_swaps 43 = .ok (.iload_n 2, 1) := by decide +kernel
theorem dX6_swaps_44 : decode cX6_swaps 44 = .ok (.iconst 1, 1) := by decide +kernel
theorem dX6_swaps_45 : decode cX6_swaps 45 = .ok (.iload 5, 2) := by decide +kernel
theorem dX6_swaps_47 : decode cX6_swaps 47 = .ok (.ishl, 1) := by decide +kernel
theorem dX6_swaps_48 : decode cX6_swaps 48 = .ok (.ior, 1) := by decide +kernel
theorem dX6_swaps_49 : decode cX6_swaps 49 = .ok (.istore_n 2, 1) := by decide +kernel
theorem dX6_swaps_50 : decode cX6_swaps 50 = .ok (.iinc 3 1, 3) := by decide +kernel
theorem dX6_swaps_53 : decode cX6_swaps 53 = .ok (.aload_n 0, 1) := by decide +kernel
theorem dX6_swaps_54 : decode cX6_swaps 54 = .ok (.bipush 15, 2) := by decide +kernel
theorem dX6_swaps_56 : decode cX6_swaps 56 = .ok (.iload 5, 2) := by decide +kernel
theorem dX6_swaps_58 : decode cX6_swaps 58 = .ok (.iload_n 1, 1) := by decide +kernel
theorem dX6_swaps_59 : decode cX6_swaps 59 = .ok (.invokevirtual 141, 3) := by decide +kernel
theorem dX6_swaps_62 : decode cX6_swaps 62 = .ok (.istore 5, 2) := by decide +kernel
theorem dX6_swaps_64 : decode cX6_swaps 64 = .ok (.goto (-30), 3) := by decide +kernel
theorem dX6_swaps_67 : decode cX6_swaps 67 = .ok (.iinc 4 1, 3) := by decide +kernel
theorem dX6_swaps_70 : decode cX6_swaps 70 = .ok (.goto (-63), 3) := by decide +kernel
theorem dX6_swaps_73 : decode cX6_swaps 73 = .ok (.iload_n 3, 1) := by decide +kernel
theorem dX6_swaps_74 : decode cX6_swaps 74 = .ok (.ireturn, 1) := by decide +kernel
set_option maxRecDepth 20000 in
theorem ggX6_passes_X6_isLess : GoodIn wsX6_passes wsX6_isLess := goodIn_r _ [5, 6, 7, 8, 4, 9, 10, 11, 12, 13, 14, 15, 16, 17, 18, 19, 20, 21, 22, 23, 24, 25, 26, 27, 28, 29, 30, 31, 32, 33, 34, 35, 36, 37, 38, 39, 40, 41, 42, 43, 44, 45, 46, 47, 48, 49, 50, 51, 52, 53, 54, 55, 56, 57, 58, 59, 60, 61, 62, 63, 64, 65, 66, 67, 68, 69, 70, 71, 72] (by decide +kernel) (by decide +kernel)
set_option maxRecDepth 20000 in
theorem gX6_passes_X6_isLess : GoodIn wsX6_passes (wsV RX6 138 RX6 yX6_isLess wsX6_isLess) := goodIn_app (goodIn_of _ (by decide +kernel)) ggX6_passes_X6_isLess
theorem dX6_passes_0 : decode cX6_passes 0 = .ok (.iconst 0, 1) := by decide +kernel
theorem dX6_passes_1 : decode cX6_passes 1 = .ok (.istore_n 2, 1) := by decide +kernel
theorem dX6_passes_2 : decode cX6_passes 2 = .ok (.iconst 0, 1) := by decide +kernel
theorem dX6_passes_3 : decode cX6_passes 3 = .ok (.istore_n 3, 1) := by decide +kernel
theorem dX6_passes_4 : decode cX6_passes 4 = .ok (.iload_n 3, 1) := by decide +kernel
theorem dX6_passes_5 : decode cX6_passes 5 = .ok (.iload_n 1, 1) := by decide +kernel
theorem dX6_passes_6 : decode cX6_passes 6 = .ok (.if_icmp .ge 60, 3) := by decide +kernel
theorem dX6_passes_9 : decode cX6_passes 9 = .ok (.iconst 0, 1) := by decide +kernel
theorem dX6_passes_10 : decode cX6_passes 10 = .ok (.istore 4, 2) := by decide +kernel
theorem dX6_passes_12 : decode cX6_passes 12 = .ok (.iconst 0, 1) := by decide +kernel
theorem dX6_passes_13 : decode cX6_passes 13 = .ok (.istore 5, 2) := by decide +kernel
theorem dX6_passes_15 : decode cX6_passes 15 = .ok (.iload 5, 2) := by decide +kernel
theorem dX6_passes_17 : decode cX6_passes 17 = .ok (.iload_n 3, 1) := by decide +kernel
theorem dX6_passes_18 : decode cX6_passes 18 = .ok (.if_icmp .ge 29, 3) := by decide +kernel
theorem dX6_passes_21 : decode cX6_passes 21 = .ok (.iload 4, 2) := by decide +kernel
theorem dX6_passes_23 : decode cX6_passes 23 = .ok (.aload_n 0, 1) := by decide +kernel
theorem dX6_passes_24 : decode cX6_passes 24 = .ok (.iload_n 3, 1) := by decide +kernel
theorem dX6_passes_25 : decode cX6_passes 25 = .ok (.iload 5, 2) := by decide +kernel
theorem dX6_passes_27 : decode cX6_passes 27 = .ok (.invokevirtual 138, 3) := by decide +kernel
theorem dX6_passes_30 : decode cX6_passes 30 = .ok (.ifCond .eq 7, 3) := by decide +kernel
theorem dX6_passes_33 : decode cX6_passes 33 = .ok (.iconst 1, 1) := by decide +kernel
theorem dX6_passes_34 : decode cX6_passes 34 = .ok (.goto 4, 3) := by decide +kernel
theorem dX6_passes_37 : decode cX6_passes 37 = .ok (.iconst 0, 1) := by decide +kernel
theorem dX6_passes_38 : decode cX6_passes 38 = .ok (.iadd, 1) := by decide +kernel
theorem dX6_passes_39 : decode cX6_passes 39 = .ok (.istore 4, 2) := by decide +kernel
theorem dX6_passes_41 : decode cX6_passes 41 = .ok (.iinc 5 1, 3) := by decide +kernel
theorem dX6_passes_44 : decode cX6_passes 44 = .ok (.goto (-29), 3) := by decide +kernel
theorem dX6_passes_47 : decode cX6_passes 47 = .ok (.iload 4, 2) := by decide +kernel
theorem dX6_passes_49 : decode cX6_passes 49 = .ok (.iload_n 2, 1) := by decide +kernel
theorem dX6_passes_50 : decode cX6_passes 50 = .ok (.if_icmp .le 8, 3) := by decide +kernel
theorem dX6_passes_53 : decode cX6_passes 53 = .ok (.iload 4, 2) := by decide +kernel
theorem dX6_passes_55 : decode cX6_passes 55 = .ok (.goto 4, 3) := by decide +kernel
theorem dX6_passes_58 : decode cX6_passes 58 = .ok (.iload_n 2, 1) := by decide +kernel
theorem dX6_passes_59 : decode cX6_passes 59 = .ok (.istore_n 2, 1) := by decide +kernel
theorem dX6_passes_60 : decode cX6_passes 60 = .ok (.iinc 3 1, 3) := by decide +kernel
theorem dX6_passes_63 : decode cX6_passes 63 = .ok (.goto (-59), 3) := by decide +kernel
theorem dX6_passes_66 : decode cX6_passes 66 = .ok (.iload_n 2, 1) := by decide +kernel
theorem dX6_passes_67 : decode cX6_passes 67 = .ok (.ireturn, 1) := by decide +kernel
set_option maxRecDepth 20000 in
theorem ggX6_isSameOrder_X6_position : GoodIn wsX6_isSameOrder wsX6_position := goodIn_r _ [5, 6, 7, 8, 4, 9, 10, 11, 12, 13, 14, 15, 16, 17, 18, 19, 20, 21, 22, 23, 24, 25, 26, 27, 28, 29, 30, 31, 32, 33, 34, 35, 36, 37, 38, 39, 40, 41, 42, 43, 44, 45, 46, 47, 48, 49, 50, 51, 52, 53, 54, 55, 56, 57, 58, 59, 60, 61, 62, 63, 64, 65, 66, 67, 68, 69, 70, 71, 72] (by decide +kernel) (by decide +kernel)
set_option maxRecDepth 20000 in
theorem gX6_isSameOrder_X6_position : GoodIn wsX6_isSameOrder (wsV RX6 141 RX6 yX6_position wsX6_position) := goodIn_app (goodIn_of _ (by decide +kernel)) ggX6_isSameOrder_X6_position
theorem dX6_isSameOrder_0 : decode cX6_isSameOrder 0 = .ok (.iconst 0, 1) := by decide +kernel
theorem dX6_isSameOrder_1 : decode cX6_isSameOrder 1 = .ok (.istore_n 3, 1) := by decide +kernel
theorem dX6_isSameOrder_2 : decode cX6_isSameOrder 2 = .ok (.iload_n 3, 1) := by decide +kernel
theorem dX6_isSameOrder_3 : decode cX6_isSameOrder 3 = .ok (.iload_n 2, 1) := by decide +kernel
theorem dX6_isSameOrder_4 : decode cX6_isSameOrder 4 = .ok (.if_icmp .ge 29, 3) := by decide +kernel
theorem dX6_isSameOrder_7 : decode cX6_isSameOrder 7 = .ok (.aload_n 0, 1) := by decide +kernel
theorem dX6_isSameOrder_8 : decode cX6_isSameOrder 8 = .ok (.iload_n 1, 1) := by decide +kernel
theorem dX6_isSameOrder_9 : decode cX6_isSameOrder 9 = .ok (.iload_n 3, 1) := by decide +kernel
theorem dX6_isSameOrder_10 : decode cX6_isSameOrder 10 = .ok (.iload_n 2, 1) := by decide +kernel
theorem dX6_isSameOrder_11 : decode cX6_isSameOrder 11 = .ok (.invokevirtual 141, 3) := by decide +kernel
theorem dX6_isSameOrder_14 : decode cX6_isSameOrder 14 = .ok (.aload_n 0, 1) := by decide +kernel
theorem dX6_isSameOrder_15 : decode cX6_isSameOrder 15 = .ok (.bipush 15, 2) := by decide +kernel
theorem dX6_isSameOrder_17 : decode cX6_isSameOrder 17 = .ok (.iload_n 3, 1) := by decide +kernel
theorem dX6_isSameOrder_18 : decode cX6_isSameOrder 18 = .ok (.iload_n 2, 1) := by decide +kernel
theorem dX6_isSameOrder_19 : decode cX6_isSameOrder 19 = .ok (.invokevirtual 141, 3) := by decide +kernel
theorem dX6_isSameOrder_22 : decode cX6_isSameOrder 22 = .ok (.if_icmp .eq 5, 3) := by decide +kernel
theorem dX6_isSameOrder_25 : decode cX6_isSameOrder 25 = .ok (.iconst 0, 1) := by decide +kernel
theorem dX6_isSameOrder_26 : decode cX6_isSameOrder 26 = .ok (.ireturn, 1) := by decide +kernel
theorem dX6_isSameOrder_27 : decode cX6_isSameOrder 27 = .ok (.iinc 3 1, 3) := by decide +kernel
theorem dX6_isSameOrder_30 : decode cX6_isSameOrder 30 = .ok (.goto (-28), 3) := by decide +kernel
theorem dX6_isSameOrder_33 : decode cX6_isSameOrder 33 = .ok (.iconst 1, 1) := by decide +kernel
theorem dX6_isSameOrder_34 : decode cX6_isSameOrder 34 = .ok (.ireturn, 1) := by decide +kernel
set_option maxRecDepth 20000 in
theorem ggX6_matters_X6_keys : GoodIn wsX6_matters wsX6_keys := goodIn_r _ [5, 6, 65, 66, 67, 68, 69, 70, 71, 72, 73, 74, 75, 76] (by decide +kernel) (by decide +kernel)
set_option maxRecDepth 20000 in
theorem gX6_matters_X6_keys : GoodIn wsX6_matters (wsV RX6 98 RX6 yX6_keys wsX6_keys) := goodIn_app (goodIn_of _ (by decide +kernel)) ggX6_matters_X6_keys
set_option maxRecDepth 20000 in
theorem ggX6_matters_X6_isSameOrder : GoodIn wsX6_matters wsX6_isSameOrder := goodIn_r _ [10, 11, 12, 13, 4, 14, 15, 16, 17, 18, 6, 1, 2, 3, 5, 19, 20, 21, 22, 23, 24, 25, 26, 27, 28, 29, 30, 31, 32, 33, 34, 35, 36, 37, 38, 39, 40, 41, 42, 43, 44, 45, 46, 47, 48, 49, 50, 51, 52, 53, 54, 55, 56, 57, 58, 59, 60, 61, 62, 63, 64, 65, 66, 67, 68, 69, 70, 71, 72, 73, 74, 75, 76] (by decide +kernel) (by decide +kernel)
set_option maxRecDepth 20000 in
theorem gX6_matters_X6_isSameOrder : GoodIn wsX6_matters (wsV RX6 144 RX6 yX6_isSameOrder wsX6_isSameOrder) := goodIn_app (goodIn_of _ (by decide +kernel)) ggX6_matters_X6_isSameOrder
theorem dX6_matters_0 : decode cX6_matters 0 = .ok (.iconst 0, 1) := by decide +kernel
theorem dX6_matters_1 : decode cX6_matters 1 = .ok (.istore_n 2, 1) := by decide +kernel
theorem dX6_matters_2 : decode cX6_matters 2 = .ok (.iconst 0, 1) := by decide +kernel
theorem dX6_matters_3 : decode cX6_matters 3 = .ok (.istore_n 3, 1) := by decide +kernel
theorem dX6_matters_4 : decode cX6_matters 4 = .ok (.iload_n 3, 1) := by decide +kernel
theorem dX6_matters_5 : decode cX6_matters 5 = .ok (.aload_n 0, 1) := by decide +kernel
theorem dX6_matters_6 : decode cX6_matters 6 = .ok (.invokevirtual 98, 3) := by decide +kernel
theorem dX6_matters_9 : decode cX6_matters 9 = .ok (.if_icmp .ge 35, 3) := by decide +kernel
theorem dX6_matters_12 : decode cX6_matters 12 = .ok (.iload_n 2, 1) := by decide +kernel
theorem dX6_matters_13 : decode cX6_matters 13 = .ok (.aload_n 0, 1) := by decide +kernel
theorem dX6_matters_14 : decode cX6_matters 14 = .ok (.bipush 15, 2) := by decide +kernel
theorem dX6_matters_16 : decode cX6_matters 16 = .ok (.iconst 1, 1) := by decide +kernel
theorem dX6_matters_17 : decode cX6_matters 17 = .ok (.iload_n 3, 1) := by decide +kernel
theorem dX6_matters_18 : decode cX6_matters 18 = .ok (.ishl, 1) := by decide +kernel
theorem dX6_matters_19 : decode cX6_matters 19 = .ok (.iconst (-1), 1) := by decide +kernel
theorem dX6_matters_20 : decode cX6_matters 20 = .ok (.ixor, 1) := by decide +kernel
theorem dX6_matters_21 : decode cX6_matters 21 = .ok (.iand, 1) := by decide +kernel
theorem dX6_matters_22 : decode cX6_matters 22 = .ok (.iload_n 1, 1) := by decide +kernel
theorem dX6_matters_23 : decode cX6_matters 23 = .ok (.invokevirtual 144, 3) := by decide +kernel
theorem dX6_matters_26 : decode cX6_matters 26 = .ok (.ifCond .eq 7, 3) := by decide +kernel
theorem dX6_matters_29 : decode cX6_matters 29 = .ok (.iconst 0, 1) := by decide +kernel
theorem dX6_matters_30 : decode cX6_matters 30 = .ok (.goto 6, 3) := by decide +kernel
theorem dX6_matters_33 : decode cX6_matters 33 = .ok (.iconst 1, 1) := by decide +kernel
theorem dX6_matters_34 : decode cX6_matters 34 = .ok (.iload_n 3, 1) := by decide +kernel
theorem dX6_matters_35 : decode cX6_matters 35 = .ok (.ishl, 1) := by decide +kernel
theorem dX6_matters_36 : decode cX6_matters 36 = .ok (.ior, 1) := by decide +kernel
theorem dX6_matters_37 : decode cX6_matters 37 = .ok (.istore_n 2, 1) := by decide +kernel
theorem dX6_matters_38 : decode cX6_matters 38 = .ok (.iinc 3 1, 3) := by decide +kernel
theorem dX6_matters_41 : decode cX6_matters 41 = .ok (.goto (-37), 3) := by decide +kernel
theorem dX6_matters_44 : decode cX6_matters 44 = .ok (.iload_n 2, 1) := by decide +kernel
theorem dX6_matters_45 : decode cX6_matters 45 = .ok (.ireturn, 1) := by decide +kernel
set_option maxRecDepth 20000 in
theorem ggX6_fewest_X6_keys : GoodIn wsX6_fewest wsX6_keys := goodIn_r _ [5, 6, 68, 69, 70, 71, 72, 73, 74, 75, 76, 77, 78, 79] (by decide +kernel) (by decide +kernel)
set_option maxRecDepth 20000 in
theorem gX6_fewest_X6_keys : GoodIn wsX6_fewest (wsV RX6 98 RX6 yX6_keys wsX6_keys) := goodIn_app (goodIn_of _ (by decide +kernel)) ggX6_fewest_X6_keys
set_option maxRecDepth 20000 in
theorem ggX6_fewest_X6_ones : GoodIn wsX6_fewest wsX6_ones := goodIn_r _ [9] (by decide +kernel) (by decide +kernel)
set_option maxRecDepth 20000 in
theorem gX6_fewest_X6_ones : GoodIn wsX6_fewest (va_wsS RX6 147 yX6_ones wsX6_ones) := goodIn_app (goodIn_of _ (by decide +kernel)) ggX6_fewest_X6_ones
set_option maxRecDepth 20000 in
theorem ggX6_fewest_X6_isSameOrder : GoodIn wsX6_fewest wsX6_isSameOrder := goodIn_r _ [13, 14, 15, 16, 4, 17, 18, 19, 20, 21, 6, 1, 2, 3, 5, 22, 23, 24, 25, 26, 27, 28, 29, 30, 31, 32, 33, 34, 35, 36, 37, 38, 39, 40, 41, 42, 43, 44, 45, 46, 47, 48, 49, 50, 51, 52, 53, 54, 55, 56, 57, 58, 59, 60, 61, 62, 63, 64, 65, 66, 67, 68, 69, 70, 71, 72, 73, 74, 75, 76, 77, 78, 79] (by decide +kernel) (by decide +kernel)
set_option maxRecDepth 20000 in
theorem gX6_fewest_X6_isSameOrder : GoodIn wsX6_fewest (wsV RX6 144 RX6 yX6_isSameOrder wsX6_isSameOrder) := goodIn_app (goodIn_of _ (by decide +kernel)) ggX6_fewest_X6_isSameOrder
theorem dX6_fewest_0 : decode cX6_fewest 0 = .ok (.iconst 1, 1) := by decide +kernel
theorem dX6_fewest_1 : decode cX6_fewest 1 = .ok (.aload_n 0, 1) := by decide +kernel
theorem dX6_fewest_2 : decode cX6_fewest 2 = .ok (.invokevirtual 98, 3) := by decide +kernel
theorem dX6_fewest_5 : decode cX6_fewest 5 = .ok (.ishl, 1) := by decide +kernel
theorem dX6_fewest_6 : decode cX6_fewest 6 = .ok (.iconst 1, 1) := by decide +kernel
theorem dX6_fewest_7 : decode cX6_fewest 7 = .ok (.isub, 1) := by decide +kernel
theorem dX6_fewest_8 : decode cX6_fewest 8 = .ok (.istore_n 2, 1) := by decide +kernel
theorem dX6_fewest_9 : decode cX6_fewest 9 = .ok (.iconst 0, 1) := by decide +kernel
theorem dX6_fewest_10 : decode cX6_fewest 10 = .ok (.istore_n 3, 1) := by decide +kernel
theorem dX6_fewest_11 : decode cX6_fewest 11 = .ok (.iload_n 3, 1) := by decide +kernel
theorem dX6_fewest_12 : decode cX6_fewest 12 = .ok (.iconst 1, 1) := by decide +kernel
theorem dX6_fewest_13 : decode cX6_fewest 13 = .ok (.aload_n 0, 1) := by decide +kernel
theorem dX6_fewest_14 : decode cX6_fewest 14 = .ok (.invokevirtual 98, 3) := by decide +kernel
theorem dX6_fewest_17 : decode cX6_fewest 17 = .ok (.ishl, 1) := by decide +kernel
theorem dX6_fewest_18 : decode cX6_fewest 18 = .ok (.if_icmp .ge 31, 3) := by decide +kernel
theorem dX6_fewest_21 : decode cX6_fewest 21 = .ok (.iload_n 3, 1) := by decide +kernel
theorem dX6_fewest_22 : decode cX6_fewest 22 = .ok (.invokestatic 147, 3) := by decide +kernel
theorem dX6_fewest_25 : decode cX6_fewest 25 = .ok (.iload_n 2, 1) := by decide +kernel
theorem dX6_fewest_26 : decode cX6_fewest 26 = .ok (.invokestatic 147, 3) := by decide +kernel
theorem dX6_fewest_29 : decode cX6_fewest 29 = .ok (.if_icmp .ge 14, 3) := by decide +kernel
theorem dX6_fewest_32 : decode cX6_fewest 32 = .ok (.aload_n 0, 1) := by decide +kernel
theorem dX6_fewest_33 : decode cX6_fewest 33 = .ok (.iload_n 3, 1) := by decide +kernel
theorem dX6_fewest_34 : decode cX6_fewest 34 = .ok (.iload_n 1, 1) := by decide +kernel
theorem dX6_fewest_35 : decode cX6_fewest 35 = .ok (.invokevirtual 144, 3) := by decide +kernel
theorem dX6_fewest_38 : decode cX6_fewest 38 = .ok (.ifCond .eq 5, 3) := by decide +kernel
theorem dX6_fewest_41 : decode cX6_fewest 41 = .ok (.iload_n 3, 1) := by decide +kernel
theorem dX6_fewest_42 : decode cX6_fewest 42 = .ok (.istore_n 2, 1) := by decide +kernel
theorem dX6_fewest_43 : decode cX6_fewest 43 = .ok (.iinc 3 1, 3) := by decide +kernel
theorem dX6_fewest_46 : decode cX6_fewest 46 = .ok (.goto (-35), 3) := by decide +kernel
theorem dX6_fewest_49 : decode cX6_fewest 49 = .ok (.iload_n 2, 1) := by decide +kernel
theorem dX6_fewest_50 : decode cX6_fewest 50 = .ok (.ireturn, 1) := by decide +kernel
set_option maxRecDepth 20000 in
theorem ggX6_isRising_X6_isRow : GoodIn wsX6_isRising wsX6_isRow := goodIn_r _ [5, 6, 7, 8, 4, 9, 10, 57, 58, 59, 60, 61, 62, 63, 64, 65, 66, 67, 68] (by decide +kernel) (by decide +kernel)
set_option maxRecDepth 20000 in
theorem gX6_isRising_X6_isRow : GoodIn wsX6_isRising (wsV RX6 67 RX6 yX6_isRow wsX6_isRow) := goodIn_app (goodIn_of _ (by decide +kernel)) ggX6_isRising_X6_isRow
set_option maxRecDepth 20000 in
theorem ggX6_isRising_X6_many : GoodIn wsX6_isRising wsX6_many := goodIn_r _ [14, 10, 57, 58, 59, 60, 61, 62, 63, 64, 65, 66, 67, 68] (by decide +kernel) (by decide +kernel)
set_option maxRecDepth 20000 in
theorem gX6_isRising_X6_many : GoodIn wsX6_isRising (wsV RX6 71 RX6 yX6_many wsX6_many) := goodIn_app (goodIn_of _ (by decide +kernel)) ggX6_isRising_X6_many
set_option maxRecDepth 20000 in
theorem ggX6_isRising_X6_reads : GoodIn wsX6_isRising wsX6_reads := goodIn_r _ [18, 6, 7, 8, 4, 9, 10, 19, 20, 21, 57, 58, 59, 60, 61, 62, 63, 64, 65, 66, 67, 68] (by decide +kernel) (by decide +kernel)
set_option maxRecDepth 20000 in
theorem gX6_isRising_X6_reads : GoodIn wsX6_isRising (wsV RX6 113 RX6 yX6_reads wsX6_reads) := goodIn_app (goodIn_of _ (by decide +kernel)) ggX6_isRising_X6_reads
set_option maxRecDepth 20000 in
theorem ggX6_isRising_X6_cells : GoodIn wsX6_isRising wsX6_cells := goodIn_r _ [25, 26, 27, 28, 4, 29, 30, 31, 32, 33, 10, 34, 35, 36, 37, 38, 39, 40, 41, 42, 43, 44, 45, 46, 47, 48, 49, 50, 51, 52, 53, 54, 55, 56, 57, 58, 59, 60, 61, 62, 63, 64, 65, 66, 67, 68] (by decide +kernel) (by decide +kernel)
set_option maxRecDepth 20000 in
theorem gX6_isRising_X6_cells : GoodIn wsX6_isRising (wsV RX6 131 RX6 yX6_cells wsX6_cells) := goodIn_app (goodIn_of _ (by decide +kernel)) ggX6_isRising_X6_cells
theorem dX6_isRising_0 : decode cX6_isRising 0 = .ok (.aload_n 0, 1) := by decide +kernel
theorem dX6_isRising_1 : decode cX6_isRising 1 = .ok (.iload_n 1, 1) := by decide +kernel
theorem dX6_isRising_2 : decode cX6_isRising 2 = .ok (.invokevirtual 67, 3) := by decide +kernel
theorem dX6_isRising_5 : decode cX6_isRising 5 = .ok (.ifCond .eq 25, 3) := by decide +kernel
theorem dX6_isRising_8 : decode cX6_isRising 8 = .ok (.aload_n 0, 1) := by decide +kernel
theorem dX6_isRising_9 : decode cX6_isRising 9 = .ok (.iload_n 1, 1) := by decide +kernel
theorem dX6_isRising_10 : decode cX6_isRising 10 = .ok (.invokevirtual 71, 3) := by decide +kernel
theorem dX6_isRising_13 : decode cX6_isRising 13 = .ok (.iconst 1, 1) := by decide +kernel
theorem dX6_isRising_14 : decode cX6_isRising 14 = .ok (.if_icmp .le 16, 3) := by decide +kernel
theorem dX6_isRising_17 : decode cX6_isRising 17 = .ok (.aload_n 0, 1) := by decide +kernel
theorem dX6_isRising_18 : decode cX6_isRising 18 = .ok (.iload_n 1, 1) := by decide +kernel
theorem dX6_isRising_19 : decode cX6_isRising 19 = .ok (.iload_n 2, 1) := by decide +kernel
theorem dX6_isRising_20 : decode cX6_isRising 20 = .ok (.invokevirtual 113, 3) := by decide +kernel
theorem dX6_isRising_23 : decode cX6_isRising 23 = .ok (.ifCond .eq 7, 3) := by decide +kernel
theorem dX6_isRising_26 : decode cX6_isRising 26 = .ok (.iconst 1, 1) := by decide +kernel
theorem dX6_isRising_27 : decode cX6_isRising 27 = .ok (.goto 4, 3) := by decide +kernel
theorem dX6_isRising_30 : decode cX6_isRising 30 = .ok (.iconst 0, 1) := by decide +kernel
theorem dX6_isRising_31 : decode cX6_isRising 31 = .ok (.istore 4, 2) := by decide +kernel
theorem dX6_isRising_33 : decode cX6_isRising 33 = .ok (.iconst 1, 1) := by decide +kernel
theorem dX6_isRising_34 : decode cX6_isRising 34 = .ok (.istore 5, 2) := by decide +kernel
theorem dX6_isRising_36 : decode cX6_isRising 36 = .ok (.iload 4, 2) := by decide +kernel
theorem dX6_isRising_38 : decode cX6_isRising 38 = .ok (.ifCond .eq 55, 3) := by decide +kernel
theorem dX6_isRising_41 : decode cX6_isRising 41 = .ok (.iload 5, 2) := by decide +kernel
theorem dX6_isRising_43 : decode cX6_isRising 43 = .ok (.aload_n 0, 1) := by decide +kernel
theorem dX6_isRising_44 : decode cX6_isRising 44 = .ok (.iload_n 1, 1) := by decide +kernel
theorem dX6_isRising_45 : decode cX6_isRising 45 = .ok (.invokevirtual 71, 3) := by decide +kernel
theorem dX6_isRising_48 : decode cX6_isRising 48 = .ok (.if_icmp .ge 45, 3) := by decide +kernel
theorem dX6_isRising_51 : decode cX6_isRising 51 = .ok (.aload_n 0, 1) := by decide +kernel
theorem dX6_isRising_52 : decode cX6_isRising 52 = .ok (.iload_n 1, 1) := by decide +kernel
theorem dX6_isRising_53 : decode cX6_isRising 53 = .ok (.iload_n 2, 1) := by decide +kernel
theorem dX6_isRising_54 : decode cX6_isRising 54 = .ok (.iload 5, 2) := by decide +kernel
theorem dX6_isRising_56 : decode cX6_isRising 56 = .ok (.iload 5, 2) := by decide +kernel
theorem dX6_isRising_58 : decode cX6_isRising 58 = .ok (.iconst 1, 1) := by decide +kernel
theorem dX6_isRising_59 : decode cX6_isRising 59 = .ok (.isub, 1) := by decide +kernel
theorem dX6_isRising_60 : decode cX6_isRising 60 = .ok (.invokevirtual 131, 3) := by decide +kernel
theorem dX6_isRising_63 : decode cX6_isRising 63 = .ok (.istore 6, 2) := by decide +kernel
theorem dX6_isRising_65 : decode cX6_isRising 65 = .ok (.iload_n 3, 1) := by decide +kernel
theorem dX6_isRising_66 : decode cX6_isRising 66 = .ok (.ifCond .ne 8, 3) := by decide +kernel
theorem dX6_isRising_69 : decode cX6_isRising 69 = .ok (.iload 6, 2) := by decide +kernel
theorem dX6_isRising_71 : decode cX6_isRising 71 = .ok (.goto 6, 3) := by decide +kernel
theorem dX6_isRising_74 : decode cX6_isRising 74 = .ok (.iload 6, 2) := by decide +kernel
theorem dX6_isRising_76 : decode cX6_isRising 76 = .ok (.ineg, 1) := by decide +kernel
theorem dX6_isRising_77 : decode cX6_isRising 77 = .ok (.ifCond .lt 7, 3) := by decide +kernel
theorem dX6_isRising_80 : decode cX6_isRising 80 = .ok (.iconst 1, 1) := by decide +kernel
theorem dX6_isRising_81 : decode cX6_isRising 81 = .ok (.goto 4, 3) := by decide +kernel
theorem dX6_isRising_84 : decode cX6_isRising 84 = .ok (.iconst 0, 1) := by decide +kernel
theorem dX6_isRising_85 : decode cX6_isRising 85 = .ok (.istore 4, 2) := by decide +kernel
theorem dX6_isRising_87 : decode cX6_isRising 87 = .ok (.iinc 5 1, 3) := by decide +kernel
theorem dX6_isRising_90 : decode cX6_isRising 90 = .ok (.goto (-54), 3) := by decide +kernel
theorem dX6_isRising_93 : decode cX6_isRising 93 = .ok (.iload 4, 2) := by decide +kernel
theorem dX6_isRising_95 : decode cX6_isRising 95 = .ok (.ireturn, 1) := by decide +kernel
set_option maxRecDepth 20000 in
theorem ggX6_explained_X6_isRising : GoodIn wsX6_explained wsX6_isRising := goodIn_r _ [5, 6, 7, 8, 4, 9, 10, 11, 12, 13, 14, 15, 16, 17, 18, 19, 20, 21, 22, 23, 24, 25, 26, 27, 28, 29, 30, 31, 32, 33, 34, 35, 36, 37, 38, 39, 40, 41, 42, 43, 44, 45, 46, 47, 48, 49, 50, 51, 52, 53, 54, 55, 56, 57, 58, 59, 60, 61, 62, 63, 64, 65, 66, 67, 68, 69, 70, 71, 72] (by decide +kernel) (by decide +kernel)
set_option maxRecDepth 20000 in
theorem gX6_explained_X6_isRising : GoodIn wsX6_explained (wsV RX6 150 RX6 yX6_isRising wsX6_isRising) := goodIn_app (goodIn_of _ (by decide +kernel)) ggX6_explained_X6_isRising
theorem dX6_explained_0 : decode cX6_explained 0 = .ok (.iconst 0, 1) := by decide +kernel
theorem dX6_explained_1 : decode cX6_explained 1 = .ok (.istore_n 1, 1) := by decide +kernel
theorem dX6_explained_2 : decode cX6_explained 2 = .ok (.iload_n 1, 1) := by decide +kernel
theorem dX6_explained_3 : decode cX6_explained 3 = .ok (.bipush 108, 2) := by decide +kernel
theorem dX6_explained_5 : decode cX6_explained 5 = .ok (.if_icmp .ge 31, 3) := by decide +kernel
theorem dX6_explained_8 : decode cX6_explained 8 = .ok (.aload_n 0, 1) := by decide +kernel
theorem dX6_explained_9 : decode cX6_explained 9 = .ok (.iload_n 1, 1) := by decide +kernel
theorem dX6_explained_10 : decode cX6_explained 10 = .ok (.bipush 18, 2) := by decide +kernel
theorem dX6_explained_12 : decode cX6_explained 12 = .ok (.idiv, 1) := by decide +kernel
theorem dX6_explained_13 : decode cX6_explained 13 = .ok (.iload_n 1, 1) := by decide +kernel
theorem dX6_explained_14 : decode cX6_explained 14 = .ok (.iconst 2, 1) := by decide +kernel
theorem dX6_explained_15 : decode cX6_explained 15 = .ok (.idiv, 1) := by decide +kernel
theorem dX6_explained_16 : decode cX6_explained 16 = .ok (.bipush 9, 2) := by decide +kernel
theorem dX6_explained_18 : decode cX6_explained 18 = .ok (.irem, 1) := by decide +kernel
theorem dX6_explained_19 : decode cX6_explained 19 = .ok (.iload_n 1, 1) := by decide +kernel
theorem dX6_explained_20 : decode cX6_explained 20 = .ok (.iconst 2, 1) := by decide +kernel
theorem dX6_explained_21 : decode cX6_explained 21 = .ok (.irem, 1) := by decide +kernel
theorem dX6_explained_22 : decode cX6_explained 22 = .ok (.invokevirtual 150, 3) := by decide +kernel
theorem dX6_explained_25 : decode cX6_explained 25 = .ok (.ifCond .eq 5, 3) := by decide +kernel
theorem dX6_explained_28 : decode cX6_explained 28 = .ok (.iload_n 1, 1) := by decide +kernel
theorem dX6_explained_29 : decode cX6_explained 29 = .ok (.ireturn, 1) := by decide +kernel
theorem dX6_explained_30 : decode cX6_explained 30 = .ok (.iinc 1 1, 3) := by decide +kernel
theorem dX6_explained_33 : decode cX6_explained 33 = .ok (.goto (-31), 3) := by decide +kernel
theorem dX6_explained_36 : decode cX6_explained 36 = .ok (.iconst (-1), 1) := by decide +kernel
theorem dX6_explained_37 : decode cX6_explained 37 = .ok (.ireturn, 1) := by decide +kernel
set_option maxRecDepth 20000 in
theorem ggX6_wrong_X6_places : GoodIn wsX6_wrong wsX6_places := goodIn_r _ [8, 9, 10, 11, 7, 12, 13, 14, 15, 16, 17, 18, 19, 20, 21, 22, 23, 24, 25, 26, 27, 28, 29, 30, 31, 32, 33, 34, 35, 36, 37, 38, 39, 40, 41, 42, 43, 44, 45, 46, 47, 48, 49, 50, 51, 95, 96, 97, 98, 99, 100, 101, 102, 103, 104, 105, 106] (by decide +kernel) (by decide +kernel)
set_option maxRecDepth 20000 in
theorem gX6_wrong_X6_places : GoodIn wsX6_wrong (wsV RX6 116 RX6 yX6_places wsX6_places) := goodIn_app (goodIn_of _ (by decide +kernel)) ggX6_wrong_X6_places
set_option maxRecDepth 20000 in
theorem ggX6_wrong_X6_position : GoodIn wsX6_wrong wsX6_position := goodIn_r _ [55, 56, 57, 58, 7, 59, 17, 18, 19, 20, 21, 26, 27, 28, 22, 23, 24, 25, 41, 42, 43, 44, 60, 61, 62, 63, 64, 65, 66, 67, 68, 69, 70, 71, 72, 73, 74, 75, 76, 77, 78, 79, 80, 81, 82, 83, 84, 85, 86, 87, 88, 89, 90, 91, 92, 93, 94, 95, 96, 97, 98, 99, 100, 101, 102, 103, 104, 105, 106] (by decide +kernel) (by decide +kernel)
set_option maxRecDepth 20000 in
theorem gX6_wrong_X6_position : GoodIn wsX6_wrong (wsV RX6 141 RX6 yX6_position wsX6_position) := goodIn_app (goodIn_of _ (by decide +kernel)) ggX6_wrong_X6_position
theorem dX6_wrong_0 : decode cX6_wrong 0 = .ok (.aload_n 0, 1) := by decide +kernel
theorem dX6_wrong_1 : decode cX6_wrong 1 = .ok (.invokevirtual 116, 3) := by decide +kernel
theorem dX6_wrong_4 : decode cX6_wrong 4 = .ok (.istore_n 1, 1) := by decide +kernel
theorem dX6_wrong_5 : decode cX6_wrong 5 = .ok (.iconst 0, 1) := by decide +kernel
theorem dX6_wrong_6 : decode cX6_wrong 6 = .ok (.istore_n 2, 1) := by decide +kernel
theorem dX6_wrong_7 : decode cX6_wrong 7 = .ok (.iload_n 2, 1) := by decide +kernel
theorem dX6_wrong_8 : decode cX6_wrong 8 = .ok (.aload_n 0, 1) := by decide +kernel
theorem dX6_wrong_9 : decode cX6_wrong 9 = .ok (.getfield 154, 3) := by decide +kernel
theorem dX6_wrong_12 : decode cX6_wrong 12 = .ok (.if_icmp .ge 43, 3) := by decide +kernel
theorem dX6_wrong_15 : decode cX6_wrong 15 = .ok (.aload_n 0, 1) := by decide +kernel
theorem dX6_wrong_16 : decode cX6_wrong 16 = .ok (.getfield 21, 3) := by decide +kernel
theorem dX6_wrong_19 : decode cX6_wrong 19 = .ok (.iload_n 2, 1) := by decide +kernel
theorem dX6_wrong_20 : decode cX6_wrong 20 = .ok (.iaload, 1) := by decide +kernel
theorem dX6_wrong_21 : decode cX6_wrong 21 = .ok (.iload_n 1, 1) := by decide +kernel
theorem dX6_wrong_22 : decode cX6_wrong 22 = .ok (.if_icmp .ge 25, 3) := by decide +kernel
theorem dX6_wrong_25 : decode cX6_wrong 25 = .ok (.aload_n 0, 1) := by decide +kernel
theorem dX6_wrong_26 : decode cX6_wrong 26 = .ok (.bipush 15, 2) := by decide +kernel
theorem dX6_wrong_28 : decode cX6_wrong 28 = .ok (.aload_n 0, 1) := by decide +kernel
theorem dX6_wrong_29 : decode cX6_wrong 29 = .ok (.getfield 21, 3) := by decide +kernel
theorem dX6_wrong_32 : decode cX6_wrong 32 = .ok (.iload_n 2, 1) := by decide +kernel
theorem dX6_wrong_33 : decode cX6_wrong 33 = .ok (.iaload, 1) := by decide +kernel
theorem dX6_wrong_34 : decode cX6_wrong 34 = .ok (.iload_n 1, 1) := by decide +kernel
theorem dX6_wrong_35 : decode cX6_wrong 35 = .ok (.invokevirtual 141, 3) := by decide +kernel
theorem dX6_wrong_38 : decode cX6_wrong 38 = .ok (.aload_n 0, 1) := by decide +kernel
theorem dX6_wrong_39 : decode cX6_wrong 39 = .ok (.getfield 24, 3) := by decide +kernel
theorem dX6_wrong_42 : decode cX6_wrong 42 = .ok (.iload_n 2, 1) := by decide +kernel
theorem dX6_wrong_43 : decode cX6_wrong 43 = .ok (.iaload, 1) := by decide +kernel
theorem dX6_wrong_44 : decode cX6_wrong 44 = .ok (.if_icmp .eq 5, 3) := by decide +kernel
theorem dX6_wrong_47 : decode cX6_wrong 47 = .ok (.iload_n 2, 1) := by decide +kernel
theorem dX6_wrong_48 : decode cX6_wrong 48 = .ok (.ireturn, 1) := by decide +kernel
theorem dX6_wrong_49 : decode cX6_wrong 49 = .ok (.iinc 2 1, 3) := by decide +kernel
theorem dX6_wrong_52 : decode cX6_wrong 52 = .ok (.goto (-45), 3) := by decide +kernel
theorem dX6_wrong_55 : decode cX6_wrong 55 = .ok (.iconst (-1), 1) := by decide +kernel
theorem dX6_wrong_56 : decode cX6_wrong 56 = .ok (.ireturn, 1) := by decide +kernel
set_option maxRecDepth 20000 in
theorem ggX6_ofOrder_X6_pairs : GoodIn wsX6_ofOrder wsX6_pairs := goodIn_r _ [5, 6, 7, 8, 4, 9, 10, 11, 12, 13, 14, 15, 16, 17, 18, 19, 20, 21, 22, 23, 24, 25, 26, 27, 28, 29, 30, 31, 32, 33, 34, 35, 36, 37, 38, 39, 40, 41, 42, 43, 44, 45, 46, 47, 48, 49, 50, 51, 52, 53, 54, 55, 56, 57, 58, 59, 60, 101, 102, 103, 104, 105, 106, 107, 108, 109, 110, 111, 112] (by decide +kernel) (by decide +kernel)
set_option maxRecDepth 20000 in
theorem gX6_ofOrder_X6_pairs : GoodIn wsX6_ofOrder (wsV RX6 157 RX6 yX6_pairs wsX6_pairs) := goodIn_app (goodIn_of _ (by decide +kernel)) ggX6_ofOrder_X6_pairs
set_option maxRecDepth 20000 in
theorem ggX6_ofOrder_X6_runs : GoodIn wsX6_ofOrder wsX6_runs := goodIn_r _ [64, 65, 66, 67, 4, 68, 6, 7, 8, 9, 10, 11, 12, 13, 14, 15, 16, 17, 18, 19, 20, 21, 22, 23, 24, 25, 26, 27, 28, 29, 30, 31, 32, 33, 34, 35, 36, 37, 38, 39, 40, 41, 42, 43, 44, 45, 46, 47, 48, 49, 50, 51, 52, 53, 54, 55, 56, 57, 58, 59, 60, 101, 102, 103, 104, 105, 106, 107, 108, 109, 110, 111, 112] (by decide +kernel) (by decide +kernel)
set_option maxRecDepth 20000 in
theorem gX6_ofOrder_X6_runs : GoodIn wsX6_ofOrder (wsV RX6 160 RX6 yX6_runs wsX6_runs) := goodIn_app (goodIn_of _ (by decide +kernel)) ggX6_ofOrder_X6_runs
set_option maxRecDepth 20000 in
theorem ggX6_ofOrder_X6_staying : GoodIn wsX6_ofOrder wsX6_staying := goodIn_r _ [72, 73, 65, 66, 67, 4, 68, 6, 7, 8, 9, 10, 11, 12, 13, 14, 15, 16, 17, 18, 19, 20, 21, 22, 23, 24, 25, 26, 27, 28, 29, 30, 31, 32, 33, 34, 35, 36, 37, 38, 39, 40, 41, 42, 43, 44, 45, 46, 47, 48, 49, 50, 51, 52, 53, 54, 55, 56, 57, 58, 59, 60, 101, 102, 103, 104, 105, 106, 107, 108, 109, 110, 111, 112] (by decide +kernel) (by decide +kernel)
set_option maxRecDepth 20000 in
theorem gX6_ofOrder_X6_staying : GoodIn wsX6_ofOrder (wsV RX6 163 RX6 yX6_staying wsX6_staying) := goodIn_app (goodIn_of _ (by decide +kernel)) ggX6_ofOrder_X6_staying
set_option maxRecDepth 20000 in
theorem ggX6_ofOrder_X6_swaps : GoodIn wsX6_ofOrder wsX6_swaps := goodIn_r _ [77, 15, 16, 4, 17, 78, 79, 80, 81, 6, 7, 8, 9, 10, 11, 12, 13, 14, 18, 19, 20, 21, 22, 23, 24, 25, 26, 27, 28, 29, 30, 31, 32, 33, 34, 35, 36, 37, 38, 39, 40, 41, 42, 43, 44, 45, 46, 47, 48, 49, 50, 51, 52, 53, 54, 55, 56, 57, 58, 59, 60, 101, 102, 103, 104, 105, 106, 107, 108, 109, 110, 111, 112] (by decide +kernel) (by decide +kernel)
set_option maxRecDepth 20000 in
theorem gX6_ofOrder_X6_swaps : GoodIn wsX6_ofOrder (wsV RX6 166 RX6 yX6_swaps wsX6_swaps) := goodIn_app (goodIn_of _ (by decide +kernel)) ggX6_ofOrder_X6_swaps
set_option maxRecDepth 20000 in
theorem ggX6_ofOrder_X6_passes : GoodIn wsX6_ofOrder wsX6_passes := goodIn_r _ [85, 65, 66, 67, 4, 68, 6, 7, 8, 9, 10, 11, 12, 13, 14, 15, 16, 17, 18, 19, 20, 21, 22, 23, 24, 25, 26, 27, 28, 29, 30, 31, 32, 33, 34, 35, 36, 37, 38, 39, 40, 41, 42, 43, 44, 45, 46, 47, 48, 49, 50, 51, 52, 53, 54, 55, 56, 57, 58, 59, 60, 101, 102, 103, 104, 105, 106, 107, 108, 109, 110, 111, 112] (by decide +kernel) (by decide +kernel)
set_option maxRecDepth 20000 in
theorem gX6_ofOrder_X6_passes : GoodIn wsX6_ofOrder (wsV RX6 169 RX6 yX6_passes wsX6_passes) := goodIn_app (goodIn_of _ (by decide +kernel)) ggX6_ofOrder_X6_passes
set_option maxRecDepth 20000 in
theorem ggX6_ofOrder_X6_matters : GoodIn wsX6_ofOrder wsX6_matters := goodIn_r _ [89, 11, 12, 13, 4, 14, 10, 90, 91, 92, 93, 78, 79, 80, 81, 6, 7, 8, 9, 15, 16, 17, 18, 19, 20, 21, 22, 23, 24, 25, 26, 27, 28, 29, 30, 31, 32, 33, 34, 35, 36, 37, 38, 39, 40, 41, 42, 43, 44, 45, 46, 47, 48, 49, 50, 51, 52, 53, 54, 55, 56, 57, 58, 59, 60, 101, 102, 103, 104, 105, 106, 107, 108, 109, 110, 111, 112] (by decide +kernel) (by decide +kernel)
set_option maxRecDepth 20000 in
theorem gX6_ofOrder_X6_matters : GoodIn wsX6_ofOrder (wsV RX6 172 RX6 yX6_matters wsX6_matters) := goodIn_app (goodIn_of _ (by decide +kernel)) ggX6_ofOrder_X6_matters
set_option maxRecDepth 20000 in
theorem ggX6_ofOrder_X6_fewest : GoodIn wsX6_ofOrder wsX6_fewest := goodIn_r _ [97, 11, 12, 13, 4, 14, 10, 98, 99, 100, 90, 91, 92, 93, 78, 79, 80, 81, 6, 7, 8, 9, 15, 16, 17, 18, 19, 20, 21, 22, 23, 24, 25, 26, 27, 28, 29, 30, 31, 32, 33, 34, 35, 36, 37, 38, 39, 40, 41, 42, 43, 44, 45, 46, 47, 48, 49, 50, 51, 52, 53, 54, 55, 56, 57, 58, 59, 60, 101, 102, 103, 104, 105, 106, 107, 108, 109, 110, 111, 112] (by decide +kernel) (by decide +kernel)
set_option maxRecDepth 20000 in
theorem gX6_ofOrder_X6_fewest : GoodIn wsX6_ofOrder (wsV RX6 175 RX6 yX6_fewest wsX6_fewest) := goodIn_app (goodIn_of _ (by decide +kernel)) ggX6_ofOrder_X6_fewest
theorem dX6_ofOrder_0 : decode cX6_ofOrder 0 = .ok (.iload_n 1, 1) := by decide +kernel
theorem dX6_ofOrder_1 : decode cX6_ofOrder 1 = .ok (.tableswitch 87 3 9 #[43, 50, 57, 63, 69, 75, 81], 43) := by decide +kernel
theorem dX6_ofOrder_44 : decode cX6_ofOrder 44 = .ok (.aload_n 0, 1) := by decide +kernel
theorem dX6_ofOrder_45 : decode cX6_ofOrder 45 = .ok (.iload_n 2, 1) := by decide +kernel
theorem dX6_ofOrder_46 : decode cX6_ofOrder 46 = .ok (.iconst 0, 1) := by decide +kernel
theorem dX6_ofOrder_47 : decode cX6_ofOrder 47 = .ok (.invokevirtual 157, 3) := by decide +kernel
theorem dX6_ofOrder_50 : decode cX6_ofOrder 50 = .ok (.ireturn, 1) := by decide +kernel
theorem dX6_ofOrder_51 : decode cX6_ofOrder 51 = .ok (.aload_n 0, 1) := by decide +kernel
theorem dX6_ofOrder_52 : decode cX6_ofOrder 52 = .ok (.iload_n 2, 1) := by decide +kernel
theorem dX6_ofOrder_53 : decode cX6_ofOrder 53 = .ok (.iconst 1, 1) := by decide +kernel
theorem dX6_ofOrder_54 : decode cX6_ofOrder 54 = .ok (.invokevirtual 157, 3) := by decide +kernel
theorem dX6_ofOrder_57 : decode cX6_ofOrder 57 = .ok (.ireturn, 1) := by decide +kernel
theorem dX6_ofOrder_58 : decode cX6_ofOrder 58 = .ok (.aload_n 0, 1) := by decide +kernel
theorem dX6_ofOrder_59 : decode cX6_ofOrder 59 = .ok (.iload_n 2, 1) := by decide +kernel
theorem dX6_ofOrder_60 : decode cX6_ofOrder 60 = .ok (.invokevirtual 160, 3) := by decide +kernel
theorem dX6_ofOrder_63 : decode cX6_ofOrder 63 = .ok (.ireturn, 1) := by decide +kernel
theorem dX6_ofOrder_64 : decode cX6_ofOrder 64 = .ok (.aload_n 0, 1) := by decide +kernel
theorem dX6_ofOrder_65 : decode cX6_ofOrder 65 = .ok (.iload_n 2, 1) := by decide +kernel
theorem dX6_ofOrder_66 : decode cX6_ofOrder 66 = .ok (.invokevirtual 163, 3) := by decide +kernel
theorem dX6_ofOrder_69 : decode cX6_ofOrder 69 = .ok (.ireturn, 1) := by decide +kernel
theorem dX6_ofOrder_70 : decode cX6_ofOrder 70 = .ok (.aload_n 0, 1) := by decide +kernel
theorem dX6_ofOrder_71 : decode cX6_ofOrder 71 = .ok (.iload_n 2, 1) := by decide +kernel
theorem dX6_ofOrder_72 : decode cX6_ofOrder 72 = .ok (.invokevirtual 166, 3) := by decide +kernel
theorem dX6_ofOrder_75 : decode cX6_ofOrder 75 = .ok (.ireturn, 1) := by decide +kernel
theorem dX6_ofOrder_76 : decode cX6_ofOrder 76 = .ok (.aload_n 0, 1) := by decide +kernel
theorem dX6_ofOrder_77 : decode cX6_ofOrder 77 = .ok (.iload_n 2, 1) := by decide +kernel
theorem dX6_ofOrder_78 : decode cX6_ofOrder 78 = .ok (.invokevirtual 169, 3) := by decide +kernel
theorem dX6_ofOrder_81 : decode cX6_ofOrder 81 = .ok (.ireturn, 1) := by decide +kernel
theorem dX6_ofOrder_82 : decode cX6_ofOrder 82 = .ok (.aload_n 0, 1) := by decide +kernel
theorem dX6_ofOrder_83 : decode cX6_ofOrder 83 = .ok (.iload_n 2, 1) := by decide +kernel
theorem dX6_ofOrder_84 : decode cX6_ofOrder 84 = .ok (.invokevirtual 172, 3) := by decide +kernel
theorem dX6_ofOrder_87 : decode cX6_ofOrder 87 = .ok (.ireturn, 1) := by decide +kernel
theorem dX6_ofOrder_88 : decode cX6_ofOrder 88 = .ok (.aload_n 0, 1) := by decide +kernel
theorem dX6_ofOrder_89 : decode cX6_ofOrder 89 = .ok (.iload_n 2, 1) := by decide +kernel
theorem dX6_ofOrder_90 : decode cX6_ofOrder 90 = .ok (.invokevirtual 175, 3) := by decide +kernel
theorem dX6_ofOrder_93 : decode cX6_ofOrder 93 = .ok (.ireturn, 1) := by decide +kernel
set_option maxRecDepth 20000 in
theorem ggX6_told_X6_in : GoodIn wsX6_told wsX6_in := goodIn_r _ [10] (by decide +kernel) (by decide +kernel)
set_option maxRecDepth 20000 in
theorem gX6_told_X6_in : GoodIn wsX6_told (va_wsS RX6 74 yX6_in wsX6_in) := goodIn_app (goodIn_of _ (by decide +kernel)) ggX6_told_X6_in
set_option maxRecDepth 20000 in
theorem ggX6_told_X6_places : GoodIn wsX6_told wsX6_places := goodIn_r _ [14, 15, 16, 17, 9, 18, 19, 20, 21, 22, 23, 24, 25, 26, 27, 28, 29, 30, 31, 32, 33, 34, 35, 36, 37, 38, 39, 40, 41, 42, 43, 44, 45, 46, 47, 48, 49, 50, 51, 52, 53, 54, 55, 56, 57, 158, 159, 160, 161, 162, 163, 164, 165, 166, 167, 168, 169] (by decide +kernel) (by decide +kernel)
set_option maxRecDepth 20000 in
theorem gX6_told_X6_places : GoodIn wsX6_told (wsV RX6 116 RX6 yX6_places wsX6_places) := goodIn_app (goodIn_of _ (by decide +kernel)) ggX6_told_X6_places
set_option maxRecDepth 20000 in
theorem ggX6_told_X6_ofOrder : GoodIn wsX6_told wsX6_ofOrder := goodIn_r _ [61, 62, 63, 64, 9, 65, 66, 67, 68, 69, 23, 24, 25, 26, 27, 32, 33, 34, 28, 29, 30, 31, 47, 48, 49, 50, 70, 71, 72, 73, 74, 75, 76, 77, 78, 79, 80, 81, 82, 83, 84, 85, 86, 87, 88, 89, 90, 91, 92, 93, 94, 1, 95, 96, 97, 98, 99, 100, 101, 102, 103, 104, 105, 106, 107, 108, 109, 110, 111, 112, 113, 114, 115, 116, 117, 118, 119, 120, 121, 122, 123, 124, 125, 126, 127, 128, 129, 130, 131, 132, 133, 134, 135, 136, 137, 138, 139, 140, 141, 142, 143, 158, 159, 160, 161, 162, 163, 164, 165, 166, 167, 168, 169] (by decide +kernel) (by decide +kernel)
set_option maxRecDepth 20000 in
theorem gX6_told_X6_ofOrder : GoodIn wsX6_told (wsV RX6 180 RX6 yX6_ofOrder wsX6_ofOrder) := goodIn_app (goodIn_of _ (by decide +kernel)) ggX6_told_X6_ofOrder
set_option maxRecDepth 20000 in
theorem ggX6_told_X6_keys : GoodIn wsX6_told wsX6_keys := goodIn_r _ [27, 23, 158, 159, 160, 161, 162, 163, 164, 165, 166, 167, 168, 169] (by decide +kernel) (by decide +kernel)
set_option maxRecDepth 20000 in
theorem gX6_told_X6_keys : GoodIn wsX6_told (wsV RX6 98 RX6 yX6_keys wsX6_keys) := goodIn_app (goodIn_of _ (by decide +kernel)) ggX6_told_X6_keys
set_option maxRecDepth 20000 in
theorem ggX6_told_X6_sheetNow : GoodIn wsX6_told wsX6_sheetNow := goodIn_r _ [22, 23, 158, 159, 160, 161, 162, 163, 164, 165, 166, 167, 168, 169] (by decide +kernel) (by decide +kernel)
set_option maxRecDepth 20000 in
theorem gX6_told_X6_sheetNow : GoodIn wsX6_told (wsV RX6 94 RX6 yX6_sheetNow wsX6_sheetNow) := goodIn_app (goodIn_of _ (by decide +kernel)) ggX6_told_X6_sheetNow
set_option maxRecDepth 20000 in
theorem ggX6_told_X6_explained : GoodIn wsX6_told wsX6_explained := goodIn_r _ [147, 148, 149, 150, 9, 151, 35, 36, 37, 38, 39, 40, 41, 42, 23, 43, 44, 45, 46, 51, 52, 53, 54, 55, 56, 57, 70, 71, 72, 73, 74, 75, 76, 77, 78, 79, 80, 81, 82, 83, 84, 85, 86, 87, 88, 89, 90, 91, 92, 93, 94, 1, 95, 96, 97, 98, 99, 100, 101, 102, 103, 158, 159, 160, 161, 162, 163, 164, 165, 166, 167, 168, 169] (by decide +kernel) (by decide +kernel)
set_option maxRecDepth 20000 in
theorem gX6_told_X6_explained : GoodIn wsX6_told (wsV RX6 183 RX6 yX6_explained wsX6_explained) := goodIn_app (goodIn_of _ (by decide +kernel)) ggX6_told_X6_explained
set_option maxRecDepth 20000 in
theorem ggX6_told_X6_wrong : GoodIn wsX6_told wsX6_wrong := goodIn_r _ [155, 3, 156, 157, 11, 12, 13, 9, 14, 15, 16, 17, 18, 19, 20, 21, 22, 23, 24, 25, 26, 27, 28, 29, 30, 31, 32, 33, 34, 35, 36, 37, 38, 39, 40, 41, 42, 43, 44, 45, 46, 47, 48, 49, 50, 51, 52, 53, 54, 55, 56, 57, 121, 122, 123, 124, 66, 67, 68, 69, 70, 71, 72, 73, 74, 75, 76, 77, 78, 79, 80, 81, 82, 83, 84, 85, 86, 87, 88, 89, 90, 91, 92, 93, 94, 1, 95, 96, 97, 98, 99, 100, 101, 102, 103, 158, 159, 160, 161, 162, 163, 164, 165, 166, 167, 168, 169] (by decide +kernel) (by decide +kernel)
set_option maxRecDepth 20000 in
theorem gX6_told_X6_wrong : GoodIn wsX6_told (wsV RX6 186 RX6 yX6_wrong wsX6_wrong) := goodIn_app (goodIn_of _ (by decide +kernel)) ggX6_told_X6_wrong
theorem dX6_told_0 : decode cX6_told 0 = .ok (.iload_n 1, 1) := by decide +kernel
theorem dX6_told_1 : decode cX6_told 1 = .ok (.i2l, 1) := by decide +kernel
theorem dX6_told_2 : decode cX6_told 2 = .ok (.ldc2_w 51, 3) := by decide +kernel
theorem dX6_told_5 : decode cX6_told 5 = .ok (.ldc2_w 178, 3) := by decide +kernel
theorem dX6_told_8 : decode cX6_told 8 = .ok (.invokestatic 74, 3) := by decide +kernel
theorem dX6_told_11 : decode cX6_told 11 = .ok (.ifCond .eq 29, 3) := by decide +kernel
theorem dX6_told_14 : decode cX6_told 14 = .ok (.aload_n 0, 1) := by decide +kernel
theorem dX6_told_15 : decode cX6_told 15 = .ok (.invokevirtual 116, 3) := by decide +kernel
theorem dX6_told_18 : decode cX6_told 18 = .ok (.istore_n 2, 1) := by decide +kernel
theorem dX6_told_19 : decode cX6_told 19 = .ok (.iload_n 2, 1) := by decide +kernel
theorem dX6_told_20 : decode cX6_told 20 = .ok (.iconst (-1), 1) := by decide +kernel
theorem dX6_told_21 : decode cX6_told 21 = .ok (.if_icmp .eq 8, 3) := by decide +kernel
theorem dX6_told_24 : decode cX6_told 24 = .ok (.iload_n 1, 1) := by decide +kernel
theorem dX6_told_25 : decode cX6_told 25 = .ok (.iconst 2, 1) := by decide +kernel
theorem dX6_told_26 : decode cX6_told 26 = .ok (.if_icmp .ne 7, 3) := by decide +kernel
theorem dX6_told_29 : decode cX6_told 29 = .ok (.iload_n 2, 1) := by decide +kernel
theorem dX6_told_30 : decode cX6_told 30 = .ok (.goto 9, 3) := by decide +kernel
theorem dX6_told_33 : decode cX6_told 33 = .ok (.aload_n 0, 1) := by decide +kernel
theorem dX6_told_34 : decode cX6_told 34 = .ok (.iload_n 1, 1) := by decide +kernel
theorem dX6_told_35 : decode cX6_told 35 = .ok (.iload_n 2, 1) := by decide +kernel
theorem dX6_told_36 : decode cX6_told 36 = .ok (.invokevirtual 180, 3) := by decide +kernel
theorem dX6_told_39 : decode cX6_told 39 = .ok (.ireturn, 1) := by decide +kernel
theorem dX6_told_40 : decode cX6_told 40 = .ok (.iload_n 1, 1) := by decide +kernel
theorem dX6_told_41 : decode cX6_told 41 = .ok (.tableswitch 114 0 15 #[79, 84, 114, 114, 114, 114, 114, 114, 114, 114, 114, 89, 94, 99, 104, 109], 79) := by decide +kernel
theorem dX6_told_120 : decode cX6_told 120 = .ok (.aload_n 0, 1) := by decide +kernel
theorem dX6_told_121 : decode cX6_told 121 = .ok (.invokevirtual 98, 3) := by decide +kernel
theorem dX6_told_124 : decode cX6_told 124 = .ok (.ireturn, 1) := by decide +kernel
theorem dX6_told_125 : decode cX6_told 125 = .ok (.aload_n 0, 1) := by decide +kernel
theorem dX6_told_126 : decode cX6_told 126 = .ok (.invokevirtual 94, 3) := by decide +kernel
theorem dX6_told_129 : decode cX6_told 129 = .ok (.ireturn, 1) := by decide +kernel
theorem dX6_told_130 : decode cX6_told 130 = .ok (.aload_n 0, 1) := by decide +kernel
theorem dX6_told_131 : decode cX6_told 131 = .ok (.invokevirtual 183, 3) := by decide +kernel
theorem dX6_told_134 : decode cX6_told 134 = .ok (.ireturn, 1) := by decide +kernel
theorem dX6_told_135 : decode cX6_told 135 = .ok (.aload_n 0, 1) := by decide +kernel
theorem dX6_told_136 : decode cX6_told 136 = .ok (.getfield 154, 3) := by decide +kernel
theorem dX6_told_139 : decode cX6_told 139 = .ok (.ireturn, 1) := by decide +kernel
theorem dX6_told_140 : decode cX6_told 140 = .ok (.aload_n 0, 1) := by decide +kernel
theorem dX6_told_141 : decode cX6_told 141 = .ok (.invokevirtual 186, 3) := by decide +kernel
theorem dX6_told_144 : decode cX6_told 144 = .ok (.ireturn, 1) := by decide +kernel
theorem dX6_told_145 : decode cX6_told 145 = .ok (.aload_n 0, 1) := by decide +kernel
theorem dX6_told_146 : decode cX6_told 146 = .ok (.getfield 43, 3) := by decide +kernel
theorem dX6_told_149 : decode cX6_told 149 = .ok (.ireturn, 1) := by decide +kernel
theorem dX6_told_150 : decode cX6_told 150 = .ok (.aload_n 0, 1) := by decide +kernel
theorem dX6_told_151 : decode cX6_told 151 = .ok (.getfield 189, 3) := by decide +kernel
theorem dX6_told_154 : decode cX6_told 154 = .ok (.ireturn, 1) := by decide +kernel
theorem dX6_told_155 : decode cX6_told 155 = .ok (.ldc 192, 2) := by decide +kernel
theorem dX6_told_157 : decode cX6_told 157 = .ok (.ireturn, 1) := by decide +kernel
set_option maxRecDepth 20000 in
theorem ggX6_isSlot_X6_in : GoodIn wsX6_isSlot wsX6_in := goodIn_r _ [5] (by decide +kernel) (by decide +kernel)
set_option maxRecDepth 20000 in
theorem gX6_isSlot_X6_in : GoodIn wsX6_isSlot (va_wsS RX6 74 yX6_in wsX6_in) := goodIn_app (goodIn_of _ (by decide +kernel)) ggX6_isSlot_X6_in
theorem dX6_isSlot_0 : decode cX6_isSlot 0 = .ok (.iload_n 0, 1) := by decide +kernel
theorem dX6_isSlot_1 : decode cX6_isSlot 1 = .ok (.i2l, 1) := by decide +kernel
theorem dX6_isSlot_2 : decode cX6_isSlot 2 = .ok (.lconst 0, 1) := by decide +kernel
theorem dX6_isSlot_3 : decode cX6_isSlot 3 = .ok (.ldc2_w 193, 3) := by decide +kernel
theorem dX6_isSlot_6 : decode cX6_isSlot 6 = .ok (.invokestatic 74, 3) := by decide +kernel
theorem dX6_isSlot_9 : decode cX6_isSlot 9 = .ok (.ireturn, 1) := by decide +kernel
set_option maxRecDepth 20000 in
theorem ggX6_row_X6_isSlot : GoodIn wsX6_row wsX6_isSlot := goodIn_r _ [6, 7, 8, 9, 5, 10] (by decide +kernel) (by decide +kernel)
set_option maxRecDepth 20000 in
theorem gX6_row_X6_isSlot : GoodIn wsX6_row (va_wsS RX6 195 yX6_isSlot wsX6_isSlot) := goodIn_app (goodIn_of _ (by decide +kernel)) ggX6_row_X6_isSlot
set_option maxRecDepth 20000 in
theorem ggX6_row_X6_in : GoodIn wsX6_row wsX6_in := goodIn_r _ [10] (by decide +kernel) (by decide +kernel)
set_option maxRecDepth 20000 in
theorem gX6_row_X6_in : GoodIn wsX6_row (va_wsS RX6 74 yX6_in wsX6_in) := goodIn_app (goodIn_of _ (by decide +kernel)) ggX6_row_X6_in
set_option maxRecDepth 20000 in
theorem ggX6_row_X6_kind : GoodIn wsX6_row wsX6_kind := goodIn_r _ [14, 15, 24, 25, 26, 27, 28, 29, 30, 31, 32, 33, 34, 35] (by decide +kernel) (by decide +kernel)
set_option maxRecDepth 20000 in
theorem gX6_row_X6_kind : GoodIn wsX6_row (wsV RX6 59 RX6 yX6_kind wsX6_kind) := goodIn_app (goodIn_of _ (by decide +kernel)) ggX6_row_X6_kind
set_option maxRecDepth 20000 in
theorem ggX6_row_X6_isRow : GoodIn wsX6_row wsX6_isRow := goodIn_r _ [19, 11, 12, 13, 5, 14, 15, 24, 25, 26, 27, 28, 29, 30, 31, 32, 33, 34, 35] (by decide +kernel) (by decide +kernel)
set_option maxRecDepth 20000 in
theorem gX6_row_X6_isRow : GoodIn wsX6_row (wsV RX6 67 RX6 yX6_isRow wsX6_isRow) := goodIn_app (goodIn_of _ (by decide +kernel)) ggX6_row_X6_isRow
set_option maxRecDepth 20000 in
theorem ggX6_row_X6_many : GoodIn wsX6_row wsX6_many := goodIn_r _ [23, 15, 24, 25, 26, 27, 28, 29, 30, 31, 32, 33, 34, 35] (by decide +kernel) (by decide +kernel)
set_option maxRecDepth 20000 in
theorem gX6_row_X6_many : GoodIn wsX6_row (wsV RX6 71 RX6 yX6_many wsX6_many) := goodIn_app (goodIn_of _ (by decide +kernel)) ggX6_row_X6_many
theorem dX6_row_0 : decode cX6_row 0 = .ok (.iload_n 1, 1) := by decide +kernel
theorem dX6_row_1 : decode cX6_row 1 = .ok (.invokestatic 195, 3) := by decide +kernel
theorem dX6_row_4 : decode cX6_row 4 = .ok (.ifCond .ne 6, 3) := by decide +kernel
theorem dX6_row_7 : decode cX6_row 7 = .ok (.ldc 198, 2) := by decide +kernel
theorem dX6_row_9 : decode cX6_row 9 = .ok (.ireturn, 1) := by decide +kernel
theorem dX6_row_10 : decode cX6_row 10 = .ok (.iload_n 2, 1) := by decide +kernel
theorem dX6_row_11 : decode cX6_row 11 = .ok (.i2l, 1) := by decide +kernel
theorem dX6_row_12 : decode cX6_row 12 = .ok (.lconst 0, 1) := by decide +kernel
theorem dX6_row_13 : decode cX6_row 13 = .ok (.lconst 1, 1) := by decide +kernel
theorem dX6_row_14 : decode cX6_row 14 = .ok (.invokestatic 74, 3) := by decide +kernel
theorem dX6_row_17 : decode cX6_row 17 = .ok (.ifCond .ne 6, 3) := by decide +kernel
theorem dX6_row_20 : decode cX6_row 20 = .ok (.ldc 192, 2) := by decide +kernel
theorem dX6_row_22 : decode cX6_row 22 = .ok (.ireturn, 1) := by decide +kernel
theorem dX6_row_23 : decode cX6_row 23 = .ok (.iload_n 2, 1) := by decide +kernel
theorem dX6_row_24 : decode cX6_row 24 = .ok (.ifCond .ne 11, 3) := by decide +kernel
theorem dX6_row_27 : decode cX6_row 27 = .ok (.aload_n 0, 1) := by decide +kernel
theorem dX6_row_28 : decode cX6_row 28 = .ok (.iload_n 1, 1) := by decide +kernel
theorem dX6_row_29 : decode cX6_row 29 = .ok (.invokevirtual 59, 3) := by decide +kernel
theorem dX6_row_32 : decode cX6_row 32 = .ok (.goto 35, 3) := by decide +kernel
theorem dX6_row_35 : decode cX6_row 35 = .ok (.aload_n 0, 1) := by decide +kernel
theorem dX6_row_36 : decode cX6_row 36 = .ok (.iload_n 1, 1) := by decide +kernel
theorem dX6_row_37 : decode cX6_row 37 = .ok (.invokevirtual 59, 3) := by decide +kernel
theorem dX6_row_40 : decode cX6_row 40 = .ok (.bipush 14, 2) := by decide +kernel
theorem dX6_row_42 : decode cX6_row 42 = .ok (.if_icmp .ne 7, 3) := by decide +kernel
theorem dX6_row_45 : decode cX6_row 45 = .ok (.iconst (-1), 1) := by decide +kernel
theorem dX6_row_46 : decode cX6_row 46 = .ok (.goto 21, 3) := by decide +kernel
theorem dX6_row_49 : decode cX6_row 49 = .ok (.aload_n 0, 1) := by decide +kernel
theorem dX6_row_50 : decode cX6_row 50 = .ok (.iload_n 1, 1) := by decide +kernel
theorem dX6_row_51 : decode cX6_row 51 = .ok (.invokevirtual 67, 3) := by decide +kernel
theorem dX6_row_54 : decode cX6_row 54 = .ok (.ifCond .ne 8, 3) := by decide +kernel
theorem dX6_row_57 : decode cX6_row 57 = .ok (.bipush (-2), 2) := by decide +kernel
theorem dX6_row_59 : decode cX6_row 59 = .ok (.goto 8, 3) := by decide +kernel
theorem dX6_row_62 : decode cX6_row 62 = .ok (.aload_n 0, 1) := by decide +kernel
theorem dX6_row_63 : decode cX6_row 63 = .ok (.iload_n 1, 1) := by decide +kernel
theorem dX6_row_64 : decode cX6_row 64 = .ok (.invokevirtual 71, 3) := by decide +kernel
theorem dX6_row_67 : decode cX6_row 67 = .ok (.ireturn, 1) := by decide +kernel
set_option maxRecDepth 20000 in
theorem ggX6_cell_X6_isSlot : GoodIn wsX6_cell wsX6_isSlot := goodIn_r _ [7, 8, 9, 10, 6, 11] (by decide +kernel) (by decide +kernel)
set_option maxRecDepth 20000 in
theorem gX6_cell_X6_isSlot : GoodIn wsX6_cell (va_wsS RX6 195 yX6_isSlot wsX6_isSlot) := goodIn_app (goodIn_of _ (by decide +kernel)) ggX6_cell_X6_isSlot
set_option maxRecDepth 20000 in
theorem ggX6_cell_X6_in : GoodIn wsX6_cell wsX6_in := goodIn_r _ [11] (by decide +kernel) (by decide +kernel)
set_option maxRecDepth 20000 in
theorem gX6_cell_X6_in : GoodIn wsX6_cell (va_wsS RX6 74 yX6_in wsX6_in) := goodIn_app (goodIn_of _ (by decide +kernel)) ggX6_cell_X6_in
set_option maxRecDepth 20000 in
theorem ggX6_cell_X6_lacks : GoodIn wsX6_cell wsX6_lacks := goodIn_r _ [15, 16, 17, 18, 6, 19, 3, 20, 21, 22, 23, 24, 25, 26, 27, 9, 10, 11, 35, 36, 37, 38, 39, 40, 41, 42, 43, 44, 45, 46] (by decide +kernel) (by decide +kernel)
set_option maxRecDepth 20000 in
theorem gX6_cell_X6_lacks : GoodIn wsX6_cell (wsV RX6 203 RX6 yX6_lacks wsX6_lacks) := goodIn_app (goodIn_of _ (by decide +kernel)) ggX6_cell_X6_lacks
set_option maxRecDepth 20000 in
theorem ggX6_cell_X6_sortAt : GoodIn wsX6_cell wsX6_sortAt := goodIn_r _ [31, 3, 32, 33, 6, 34, 35, 36, 37, 38, 39, 40, 41, 42, 43, 44, 45, 46] (by decide +kernel) (by decide +kernel)
set_option maxRecDepth 20000 in
theorem gX6_cell_X6_sortAt : GoodIn wsX6_cell (wsV RX6 82 RX6 yX6_sortAt wsX6_sortAt) := goodIn_app (goodIn_of _ (by decide +kernel)) ggX6_cell_X6_sortAt
set_option maxRecDepth 20000 in
theorem ggX6_cell_X6_at : GoodIn wsX6_cell wsX6_at := goodIn_r _ [34] (by decide +kernel) (by decide +kernel)
set_option maxRecDepth 20000 in
theorem gX6_cell_X6_at : GoodIn wsX6_cell (va_wsS RX6 63 yX6_at wsX6_at) := goodIn_app (goodIn_of _ (by decide +kernel)) ggX6_cell_X6_at
theorem dX6_cell_0 : decode cX6_cell 0 = .ok (.iload_n 1, 1) := by decide +kernel
theorem dX6_cell_1 : decode cX6_cell 1 = .ok (.invokestatic 195, 3) := by decide +kernel
theorem dX6_cell_4 : decode cX6_cell 4 = .ok (.ifCond .ne 7, 3) := by decide +kernel
theorem dX6_cell_7 : decode cX6_cell 7 = .ok (.ldc2_w 199, 3) := by decide +kernel
theorem dX6_cell_10 : decode cX6_cell 10 = .ok (.lreturn, 1) := by decide +kernel
theorem dX6_cell_11 : decode cX6_cell 11 = .ok (.iload_n 3, 1) := by decide +kernel
theorem dX6_cell_12 : decode cX6_cell 12 = .ok (.i2l, 1) := by decide +kernel
theorem dX6_cell_13 : decode cX6_cell 13 = .ok (.lconst 0, 1) := by decide +kernel
theorem dX6_cell_14 : decode cX6_cell 14 = .ok (.lconst 1, 1) := by decide +kernel
theorem dX6_cell_15 : decode cX6_cell 15 = .ok (.invokestatic 74, 3) := by decide +kernel
theorem dX6_cell_18 : decode cX6_cell 18 = .ok (.ifCond .ne 7, 3) := by decide +kernel
theorem dX6_cell_21 : decode cX6_cell 21 = .ok (.ldc2_w 201, 3) := by decide +kernel
theorem dX6_cell_24 : decode cX6_cell 24 = .ok (.lreturn, 1) := by decide +kernel
theorem dX6_cell_25 : decode cX6_cell 25 = .ok (.aload_n 0, 1) := by decide +kernel
theorem dX6_cell_26 : decode cX6_cell 26 = .ok (.iload_n 1, 1) := by decide +kernel
theorem dX6_cell_27 : decode cX6_cell 27 = .ok (.iload_n 2, 1) := by decide +kernel
theorem dX6_cell_28 : decode cX6_cell 28 = .ok (.i2l, 1) := by decide +kernel
theorem dX6_cell_29 : decode cX6_cell 29 = .ok (.invokevirtual 203, 3) := by decide +kernel
theorem dX6_cell_32 : decode cX6_cell 32 = .ok (.istore 4, 2) := by decide +kernel
theorem dX6_cell_34 : decode cX6_cell 34 = .ok (.iload 4, 2) := by decide +kernel
theorem dX6_cell_36 : decode cX6_cell 36 = .ok (.ifCond .le 18, 3) := by decide +kernel
theorem dX6_cell_39 : decode cX6_cell 39 = .ok (.iload_n 3, 1) := by decide +kernel
theorem dX6_cell_40 : decode cX6_cell 40 = .ok (.ifCond .ne 12, 3) := by decide +kernel
theorem dX6_cell_43 : decode cX6_cell 43 = .ok (.bipush (-10), 2) := by decide +kernel
theorem dX6_cell_45 : decode cX6_cell 45 = .ok (.iload 4, 2) := by decide +kernel
theorem dX6_cell_47 : decode cX6_cell 47 = .ok (.isub, 1) := by decide +kernel
theorem dX6_cell_48 : decode cX6_cell 48 = .ok (.i2l, 1) := by decide +kernel
theorem dX6_cell_49 : decode cX6_cell 49 = .ok (.goto 4, 3) := by decide +kernel
theorem dX6_cell_52 : decode cX6_cell 52 = .ok (.lconst 0, 1) := by decide +kernel
theorem dX6_cell_53 : decode cX6_cell 53 = .ok (.lreturn, 1) := by decide +kernel
theorem dX6_cell_54 : decode cX6_cell 54 = .ok (.iload_n 3, 1) := by decide +kernel
theorem dX6_cell_55 : decode cX6_cell 55 = .ok (.ifCond .ne 13, 3) := by decide +kernel
theorem dX6_cell_58 : decode cX6_cell 58 = .ok (.aload_n 0, 1) := by decide +kernel
theorem dX6_cell_59 : decode cX6_cell 59 = .ok (.iload_n 1, 1) := by decide +kernel
theorem dX6_cell_60 : decode cX6_cell 60 = .ok (.iload_n 2, 1) := by decide +kernel
theorem dX6_cell_61 : decode cX6_cell 61 = .ok (.invokevirtual 82, 3) := by decide +kernel
theorem dX6_cell_64 : decode cX6_cell 64 = .ok (.i2l, 1) := by decide +kernel
theorem dX6_cell_65 : decode cX6_cell 65 = .ok (.goto 16, 3) := by decide +kernel
theorem dX6_cell_68 : decode cX6_cell 68 = .ok (.aload_n 0, 1) := by decide +kernel
theorem dX6_cell_69 : decode cX6_cell 69 = .ok (.getfield 7, 3) := by decide +kernel
theorem dX6_cell_72 : decode cX6_cell 72 = .ok (.bipush 84, 2) := by decide +kernel
theorem dX6_cell_74 : decode cX6_cell 74 = .ok (.iload_n 1, 1) := by decide +kernel
theorem dX6_cell_75 : decode cX6_cell 75 = .ok (.iload_n 2, 1) := by decide +kernel
theorem dX6_cell_76 : decode cX6_cell 76 = .ok (.invokestatic 63, 3) := by decide +kernel
theorem dX6_cell_79 : decode cX6_cell 79 = .ok (.iadd, 1) := by decide +kernel
theorem dX6_cell_80 : decode cX6_cell 80 = .ok (.laload, 1) := by decide +kernel
theorem dX6_cell_81 : decode cX6_cell 81 = .ok (.lreturn, 1) := by decide +kernel
theorem dX6_hand_0 : decode cX6_hand 0 = .ok (.iload_n 1, 1) := by decide +kernel
theorem dX6_hand_1 : decode cX6_hand 1 = .ok (.ifCond .ne 14, 3) := by decide +kernel
theorem dX6_hand_4 : decode cX6_hand 4 = .ok (.aload_n 0, 1) := by decide +kernel
theorem dX6_hand_5 : decode cX6_hand 5 = .ok (.getfield 7, 3) := by decide +kernel
theorem dX6_hand_8 : decode cX6_hand 8 = .ok (.sipush 170, 3) := by decide +kernel
theorem dX6_hand_11 : decode cX6_hand 11 = .ok (.laload, 1) := by decide +kernel
theorem dX6_hand_12 : decode cX6_hand 12 = .ok (.goto 22, 3) := by decide +kernel
theorem dX6_hand_15 : decode cX6_hand 15 = .ok (.iload_n 1, 1) := by decide +kernel
theorem dX6_hand_16 : decode cX6_hand 16 = .ok (.iconst 1, 1) := by decide +kernel
theorem dX6_hand_17 : decode cX6_hand 17 = .ok (.if_icmp .ne 14, 3) := by decide +kernel
theorem dX6_hand_20 : decode cX6_hand 20 = .ok (.aload_n 0, 1) := by decide +kernel
theorem dX6_hand_21 : decode cX6_hand 21 = .ok (.getfield 7, 3) := by decide +kernel
theorem dX6_hand_24 : decode cX6_hand 24 = .ok (.sipush 171, 3) := by decide +kernel
theorem dX6_hand_27 : decode cX6_hand 27 = .ok (.laload, 1) := by decide +kernel
theorem dX6_hand_28 : decode cX6_hand 28 = .ok (.goto 6, 3) := by decide +kernel
theorem dX6_hand_31 : decode cX6_hand 31 = .ok (.ldc2_w 201, 3) := by decide +kernel
theorem dX6_hand_34 : decode cX6_hand 34 = .ok (.lreturn, 1) := by decide +kernel
set_option maxRecDepth 20000 in
theorem ggX6_tagged_X6_isRow : GoodIn wsX6_tagged wsX6_isRow := goodIn_r _ [6, 7, 8, 9, 5, 10, 1, 22, 23, 24, 25, 26, 27, 28, 29, 30, 31, 32, 33] (by decide +kernel) (by decide +kernel)
set_option maxRecDepth 20000 in
theorem gX6_tagged_X6_isRow : GoodIn wsX6_tagged (wsV RX6 67 RX6 yX6_isRow wsX6_isRow) := goodIn_app (goodIn_of _ (by decide +kernel)) ggX6_tagged_X6_isRow
set_option maxRecDepth 20000 in
theorem ggX6_tagged_X6_many : GoodIn wsX6_tagged wsX6_many := goodIn_r _ [14, 1, 22, 23, 24, 25, 26, 27, 28, 29, 30, 31, 32, 33] (by decide +kernel) (by decide +kernel)
set_option maxRecDepth 20000 in
theorem gX6_tagged_X6_many : GoodIn wsX6_tagged (wsV RX6 71 RX6 yX6_many wsX6_many) := goodIn_app (goodIn_of _ (by decide +kernel)) ggX6_tagged_X6_many
set_option maxRecDepth 20000 in
theorem ggX6_tagged_X6_sortAt : GoodIn wsX6_tagged wsX6_sortAt := goodIn_r _ [18, 1, 19, 20, 5, 21, 22, 23, 24, 25, 26, 27, 28, 29, 30, 31, 32, 33] (by decide +kernel) (by decide +kernel)
set_option maxRecDepth 20000 in
theorem gX6_tagged_X6_sortAt : GoodIn wsX6_tagged (wsV RX6 82 RX6 yX6_sortAt wsX6_sortAt) := goodIn_app (goodIn_of _ (by decide +kernel)) ggX6_tagged_X6_sortAt
set_option maxRecDepth 20000 in
theorem ggX6_tagged_X6_at : GoodIn wsX6_tagged wsX6_at := goodIn_r _ [21] (by decide +kernel) (by decide +kernel)
set_option maxRecDepth 20000 in
theorem gX6_tagged_X6_at : GoodIn wsX6_tagged (va_wsS RX6 63 yX6_at wsX6_at) := goodIn_app (goodIn_of _ (by decide +kernel)) ggX6_tagged_X6_at
theorem dX6_tagged_0 : decode cX6_tagged 0 = .ok (.iconst 0, 1) := by decide +kernel
theorem dX6_tagged_1 : decode cX6_tagged 1 = .ok (.istore_n 2, 1) := by decide +kernel
theorem dX6_tagged_2 : decode cX6_tagged 2 = .ok (.iconst 0, 1) := by decide +kernel
theorem dX6_tagged_3 : decode cX6_tagged 3 = .ok (.istore_n 3, 1) := by decide +kernel
theorem dX6_tagged_4 : decode cX6_tagged 4 = .ok (.iload_n 3, 1) := by decide +kernel
theorem dX6_tagged_5 : decode cX6_tagged 5 = .ok (.bipush 6, 2) := by decide +kernel
theorem dX6_tagged_7 : decode cX6_tagged 7 = .ok (.if_icmp .ge 76, 3) := by decide +kernel
theorem dX6_tagged_10 : decode cX6_tagged 10 = .ok (.iconst 0, 1) := by decide +kernel
theorem dX6_tagged_11 : decode cX6_tagged 11 = .ok (.istore 4, 2) := by decide +kernel
theorem dX6_tagged_13 : decode cX6_tagged 13 = .ok (.aload_n 0, 1) := by decide +kernel
theorem dX6_tagged_14 : decode cX6_tagged 14 = .ok (.iload_n 3, 1) := by decide +kernel
theorem dX6_tagged_15 : decode cX6_tagged 15 = .ok (.invokevirtual 67, 3) := by decide +kernel
theorem dX6_tagged_18 : decode cX6_tagged 18 = .ok (.ifCond .eq 59, 3) := by decide +kernel
theorem dX6_tagged_21 : decode cX6_tagged 21 = .ok (.iload 4, 2) := by decide +kernel
theorem dX6_tagged_23 : decode cX6_tagged 23 = .ok (.aload_n 0, 1) := by decide +kernel
theorem dX6_tagged_24 : decode cX6_tagged 24 = .ok (.iload_n 3, 1) := by decide +kernel
theorem dX6_tagged_25 : decode cX6_tagged 25 = .ok (.invokevirtual 71, 3) := by decide +kernel
theorem dX6_tagged_28 : decode cX6_tagged 28 = .ok (.if_icmp .ge 49, 3) := by decide +kernel
theorem dX6_tagged_31 : decode cX6_tagged 31 = .ok (.iload_n 2, 1) := by decide +kernel
theorem dX6_tagged_32 : decode cX6_tagged 32 = .ok (.aload_n 0, 1) := by decide +kernel
theorem dX6_tagged_33 : decode cX6_tagged 33 = .ok (.iload_n 3, 1) := by decide +kernel
theorem dX6_tagged_34 : decode cX6_tagged 34 = .ok (.iload 4, 2) := by decide +kernel
theorem dX6_tagged_36 : decode cX6_tagged 36 = .ok (.invokevirtual 82, 3) := by decide +kernel
theorem dX6_tagged_39 : decode cX6_tagged 39 = .ok (.bipush 8, 2) := by decide +kernel
theorem dX6_tagged_41 : decode cX6_tagged 41 = .ok (.if_icmp .ne 27, 3) := by decide +kernel
theorem dX6_tagged_44 : decode cX6_tagged 44 = .ok (.aload_n 0, 1) := by decide +kernel
theorem dX6_tagged_45 : decode cX6_tagged 45 = .ok (.getfield 7, 3) := by decide +kernel
theorem dX6_tagged_48 : decode cX6_tagged 48 = .ok (.bipush 84, 2) := by decide +kernel
theorem dX6_tagged_50 : decode cX6_tagged 50 = .ok (.iload_n 3, 1) := by decide +kernel
theorem dX6_tagged_51 : decode cX6_tagged 51 = .ok (.iload 4, 2) := by decide +kernel
theorem dX6_tagged_53 : decode cX6_tagged 53 = .ok (.invokestatic 63, 3) := by decide +kernel
theorem dX6_tagged_56 : decode cX6_tagged 56 = .ok (.iadd, 1) := by decide +kernel
theorem dX6_tagged_57 : decode cX6_tagged 57 = .ok (.laload, 1) := by decide +kernel
theorem dX6_tagged_58 : decode cX6_tagged 58 = .ok (.iload_n 1, 1) := by decide +kernel
theorem dX6_tagged_59 : decode cX6_tagged 59 = .ok (.i2l, 1) := by decide +kernel
theorem dX6_tagged_60 : decode cX6_tagged 60 = .ok (.lcmp, 1) := by decide +kernel
theorem dX6_tagged_61 : decode cX6_tagged 61 = .ok (.ifCond .ne 7, 3) := by decide +kernel
theorem dX6_tagged_64 : decode cX6_tagged 64 = .ok (.iconst 1, 1) := by decide +kernel
theorem dX6_tagged_65 : decode cX6_tagged 65 = .ok (.goto 4, 3) := by decide +kernel
theorem dX6_tagged_68 : decode cX6_tagged 68 = .ok (.iconst 0, 1) := by decide +kernel
theorem dX6_tagged_69 : decode cX6_tagged 69 = .ok (.iadd, 1) := by decide +kernel
theorem dX6_tagged_70 : decode cX6_tagged 70 = .ok (.istore_n 2, 1) := by decide +kernel
theorem dX6_tagged_71 : decode cX6_tagged 71 = .ok (.iinc 4 1, 3) := by decide +kernel
theorem dX6_tagged_74 : decode cX6_tagged 74 = .ok (.goto (-61), 3) := by decide +kernel
theorem dX6_tagged_77 : decode cX6_tagged 77 = .ok (.iinc 3 1, 3) := by decide +kernel
theorem dX6_tagged_80 : decode cX6_tagged 80 = .ok (.goto (-76), 3) := by decide +kernel
theorem dX6_tagged_83 : decode cX6_tagged 83 = .ok (.iload_n 2, 1) := by decide +kernel
theorem dX6_tagged_84 : decode cX6_tagged 84 = .ok (.ireturn, 1) := by decide +kernel
set_option maxRecDepth 20000 in
theorem ggX6_tag_X6_in : GoodIn wsX6_tag wsX6_in := goodIn_r _ [8] (by decide +kernel) (by decide +kernel)
set_option maxRecDepth 20000 in
theorem gX6_tag_X6_in : GoodIn wsX6_tag (va_wsS RX6 74 yX6_in wsX6_in) := goodIn_app (goodIn_of _ (by decide +kernel)) ggX6_tag_X6_in
set_option maxRecDepth 20000 in
theorem ggX6_tag_X6_heft : GoodIn wsX6_tag wsX6_heft := goodIn_r _ [12, 13, 3, 14, 38, 39, 40, 41, 42, 43, 44, 45, 46, 47, 48, 49] (by decide +kernel) (by decide +kernel)
set_option maxRecDepth 20000 in
theorem gX6_tag_X6_heft : GoodIn wsX6_tag (wsV RX6 90 RX6 yX6_heft wsX6_heft) := goodIn_app (goodIn_of _ (by decide +kernel)) ggX6_tag_X6_heft
set_option maxRecDepth 20000 in
theorem ggX6_tag_X6_tagged : GoodIn wsX6_tag wsX6_tagged := goodIn_r _ [18, 3, 19, 20, 21, 7, 22, 23, 24, 25, 26, 27, 28, 29, 30, 31, 32, 33, 34, 35, 36, 37, 38, 39, 40, 41, 42, 43, 44, 45, 46, 47, 48, 49] (by decide +kernel) (by decide +kernel)
set_option maxRecDepth 20000 in
theorem gX6_tag_X6_tagged : GoodIn wsX6_tag (wsV RX6 209 RX6 yX6_tagged wsX6_tagged) := goodIn_app (goodIn_of _ (by decide +kernel)) ggX6_tag_X6_tagged
theorem dX6_tag_0 : decode cX6_tag 0 = .ok (.iload_n 1, 1) := by decide +kernel
theorem dX6_tag_1 : decode cX6_tag 1 = .ok (.i2l, 1) := by decide +kernel
theorem dX6_tag_2 : decode cX6_tag 2 = .ok (.lconst 0, 1) := by decide +kernel
theorem dX6_tag_3 : decode cX6_tag 3 = .ok (.ldc2_w 207, 3) := by decide +kernel
theorem dX6_tag_6 : decode cX6_tag 6 = .ok (.invokestatic 74, 3) := by decide +kernel
theorem dX6_tag_9 : decode cX6_tag 9 = .ok (.ifCond .ne 6, 3) := by decide +kernel
theorem dX6_tag_12 : decode cX6_tag 12 = .ok (.ldc 198, 2) := by decide +kernel
theorem dX6_tag_14 : decode cX6_tag 14 = .ok (.ireturn, 1) := by decide +kernel
theorem dX6_tag_15 : decode cX6_tag 15 = .ok (.iload_n 2, 1) := by decide +kernel
theorem dX6_tag_16 : decode cX6_tag 16 = .ok (.ifCond .ne 17, 3) := by decide +kernel
theorem dX6_tag_19 : decode cX6_tag 19 = .ok (.aload_n 0, 1) := by decide +kernel
theorem dX6_tag_20 : decode cX6_tag 20 = .ok (.getfield 7, 3) := by decide +kernel
theorem dX6_tag_23 : decode cX6_tag 23 = .ok (.sipush 172, 3) := by decide +kernel
theorem dX6_tag_26 : decode cX6_tag 26 = .ok (.iload_n 1, 1) := by decide +kernel
theorem dX6_tag_27 : decode cX6_tag 27 = .ok (.iadd, 1) := by decide +kernel
theorem dX6_tag_28 : decode cX6_tag 28 = .ok (.laload, 1) := by decide +kernel
theorem dX6_tag_29 : decode cX6_tag 29 = .ok (.l2i, 1) := by decide +kernel
theorem dX6_tag_30 : decode cX6_tag 30 = .ok (.goto 33, 3) := by decide +kernel
theorem dX6_tag_33 : decode cX6_tag 33 = .ok (.iload_n 2, 1) := by decide +kernel
theorem dX6_tag_34 : decode cX6_tag 34 = .ok (.iconst 1, 1) := by decide +kernel
theorem dX6_tag_35 : decode cX6_tag 35 = .ok (.if_icmp .ne 13, 3) := by decide +kernel
theorem dX6_tag_38 : decode cX6_tag 38 = .ok (.aload_n 0, 1) := by decide +kernel
theorem dX6_tag_39 : decode cX6_tag 39 = .ok (.iload_n 1, 1) := by decide +kernel
theorem dX6_tag_40 : decode cX6_tag 40 = .ok (.i2l, 1) := by decide +kernel
theorem dX6_tag_41 : decode cX6_tag 41 = .ok (.invokevirtual 90, 3) := by decide +kernel
theorem dX6_tag_44 : decode cX6_tag 44 = .ok (.l2i, 1) := by decide +kernel
theorem dX6_tag_45 : decode cX6_tag 45 = .ok (.goto 18, 3) := by decide +kernel
theorem dX6_tag_48 : decode cX6_tag 48 = .ok (.iload_n 2, 1) := by decide +kernel
theorem dX6_tag_49 : decode cX6_tag 49 = .ok (.iconst 2, 1) := by decide +kernel
theorem dX6_tag_50 : decode cX6_tag 50 = .ok (.if_icmp .ne 11, 3) := by decide +kernel
theorem dX6_tag_53 : decode cX6_tag 53 = .ok (.aload_n 0, 1) := by decide +kernel
theorem dX6_tag_54 : decode cX6_tag 54 = .ok (.iload_n 1, 1) := by decide +kernel
theorem dX6_tag_55 : decode cX6_tag 55 = .ok (.invokevirtual 209, 3) := by decide +kernel
theorem dX6_tag_58 : decode cX6_tag 58 = .ok (.goto 5, 3) := by decide +kernel
theorem dX6_tag_61 : decode cX6_tag 61 = .ok (.ldc 192, 2) := by decide +kernel
theorem dX6_tag_63 : decode cX6_tag 63 = .ok (.ireturn, 1) := by decide +kernel
set_option maxRecDepth 20000 in
theorem ggX6_keyAt_X6_keys : GoodIn wsX6_keyAt wsX6_keys := goodIn_r _ [9, 3, 13, 14, 15, 16, 17, 18, 19, 20, 21, 22, 23, 24] (by decide +kernel) (by decide +kernel)
set_option maxRecDepth 20000 in
theorem gX6_keyAt_X6_keys : GoodIn wsX6_keyAt (wsV RX6 98 RX6 yX6_keys wsX6_keys) := goodIn_app (goodIn_of _ (by decide +kernel)) ggX6_keyAt_X6_keys
set_option maxRecDepth 20000 in
theorem ggX6_keyAt_X6_in : GoodIn wsX6_keyAt wsX6_in := goodIn_r _ [12] (by decide +kernel) (by decide +kernel)
set_option maxRecDepth 20000 in
theorem gX6_keyAt_X6_in : GoodIn wsX6_keyAt (va_wsS RX6 74 yX6_in wsX6_in) := goodIn_app (goodIn_of _ (by decide +kernel)) ggX6_keyAt_X6_in
theorem dX6_keyAt_0 : decode cX6_keyAt 0 = .ok (.iload_n 1, 1) := by decide +kernel
theorem dX6_keyAt_1 : decode cX6_keyAt 1 = .ok (.i2l, 1) := by decide +kernel
theorem dX6_keyAt_2 : decode cX6_keyAt 2 = .ok (.lconst 0, 1) := by decide +kernel
theorem dX6_keyAt_3 : decode cX6_keyAt 3 = .ok (.aload_n 0, 1) := by decide +kernel
theorem dX6_keyAt_4 : decode cX6_keyAt 4 = .ok (.invokevirtual 98, 3) := by decide +kernel
theorem dX6_keyAt_7 : decode cX6_keyAt 7 = .ok (.iconst 1, 1) := by decide +kernel
theorem dX6_keyAt_8 : decode cX6_keyAt 8 = .ok (.isub, 1) := by decide +kernel
theorem dX6_keyAt_9 : decode cX6_keyAt 9 = .ok (.i2l, 1) := by decide +kernel
theorem dX6_keyAt_10 : decode cX6_keyAt 10 = .ok (.invokestatic 74, 3) := by decide +kernel
theorem dX6_keyAt_13 : decode cX6_keyAt 13 = .ok (.ifCond .ne 6, 3) := by decide +kernel
theorem dX6_keyAt_16 : decode cX6_keyAt 16 = .ok (.ldc 198, 2) := by decide +kernel
theorem dX6_keyAt_18 : decode cX6_keyAt 18 = .ok (.ireturn, 1) := by decide +kernel
theorem dX6_keyAt_19 : decode cX6_keyAt 19 = .ok (.iload_n 2, 1) := by decide +kernel
theorem dX6_keyAt_20 : decode cX6_keyAt 20 = .ok (.i2l, 1) := by decide +kernel
theorem dX6_keyAt_21 : decode cX6_keyAt 21 = .ok (.lconst 0, 1) := by decide +kernel
theorem dX6_keyAt_22 : decode cX6_keyAt 22 = .ok (.ldc2_w 51, 3) := by decide +kernel
theorem dX6_keyAt_25 : decode cX6_keyAt 25 = .ok (.invokestatic 74, 3) := by decide +kernel
theorem dX6_keyAt_28 : decode cX6_keyAt 28 = .ok (.ifCond .eq 21, 3) := by decide +kernel
theorem dX6_keyAt_31 : decode cX6_keyAt 31 = .ok (.aload_n 0, 1) := by decide +kernel
theorem dX6_keyAt_32 : decode cX6_keyAt 32 = .ok (.getfield 7, 3) := by decide +kernel
theorem dX6_keyAt_35 : decode cX6_keyAt 35 = .ok (.sipush 157, 3) := by decide +kernel
theorem dX6_keyAt_38 : decode cX6_keyAt 38 = .ok (.iconst 3, 1) := by decide +kernel
theorem dX6_keyAt_39 : decode cX6_keyAt 39 = .ok (.iload_n 1, 1) := by decide +kernel
theorem dX6_keyAt_40 : decode cX6_keyAt 40 = .ok (.imul, 1) := by decide +kernel
theorem dX6_keyAt_41 : decode cX6_keyAt 41 = .ok (.iadd, 1) := by decide +kernel
theorem dX6_keyAt_42 : decode cX6_keyAt 42 = .ok (.iload_n 2, 1) := by decide +kernel
theorem dX6_keyAt_43 : decode cX6_keyAt 43 = .ok (.iadd, 1) := by decide +kernel
theorem dX6_keyAt_44 : decode cX6_keyAt 44 = .ok (.laload, 1) := by decide +kernel
theorem dX6_keyAt_45 : decode cX6_keyAt 45 = .ok (.l2i, 1) := by decide +kernel
theorem dX6_keyAt_46 : decode cX6_keyAt 46 = .ok (.goto 5, 3) := by decide +kernel
theorem dX6_keyAt_49 : decode cX6_keyAt 49 = .ok (.ldc 192, 2) := by decide +kernel
theorem dX6_keyAt_51 : decode cX6_keyAt 51 = .ok (.ireturn, 1) := by decide +kernel
set_option maxRecDepth 20000 in
theorem ggX6_lessThan_X6_isLess : GoodIn wsX6_lessThan wsX6_isLess := goodIn_r _ [5, 6, 7, 8, 4, 9, 10, 11, 12, 13, 14, 15, 16, 17, 18, 19, 20, 21, 22, 23, 24, 25, 26, 27, 28, 29, 30, 31, 32, 33, 34, 35, 36, 37, 38, 39, 40, 41, 42, 43, 44, 45, 46, 47, 48, 49, 50, 51, 52, 53, 54, 55, 56, 57, 58, 59, 60, 61, 62, 63, 64, 65, 66, 67, 68, 69, 70, 71, 72] (by decide +kernel) (by decide +kernel)
set_option maxRecDepth 20000 in
theorem gX6_lessThan_X6_isLess : GoodIn wsX6_lessThan (wsV RX6 138 RX6 yX6_isLess wsX6_isLess) := goodIn_app (goodIn_of _ (by decide +kernel)) ggX6_lessThan_X6_isLess
theorem dX6_lessThan_0 : decode cX6_lessThan 0 = .ok (.iconst 0, 1) := by decide +kernel
theorem dX6_lessThan_1 : decode cX6_lessThan 1 = .ok (.istore_n 3, 1) := by decide +kernel
theorem dX6_lessThan_2 : decode cX6_lessThan 2 = .ok (.iconst 0, 1) := by decide +kernel
theorem dX6_lessThan_3 : decode cX6_lessThan 3 = .ok (.istore 4, 2) := by decide +kernel
theorem dX6_lessThan_5 : decode cX6_lessThan 5 = .ok (.iload 4, 2) := by decide +kernel
theorem dX6_lessThan_7 : decode cX6_lessThan 7 = .ok (.iload_n 2, 1) := by decide +kernel
theorem dX6_lessThan_8 : decode cX6_lessThan 8 = .ok (.if_icmp .ge 27, 3) := by decide +kernel
theorem dX6_lessThan_11 : decode cX6_lessThan 11 = .ok (.iload_n 3, 1) := by decide +kernel
theorem dX6_lessThan_12 : decode cX6_lessThan 12 = .ok (.aload_n 0, 1) := by decide +kernel
theorem dX6_lessThan_13 : decode cX6_lessThan 13 = .ok (.iload 4, 2) := by decide +kernel
theorem dX6_lessThan_15 : decode cX6_lessThan 15 = .ok (.iload_n 1, 1) := by decide +kernel
theorem dX6_lessThan_16 : decode cX6_lessThan 16 = .ok (.invokevirtual 138, 3) := by decide +kernel
theorem dX6_lessThan_19 : decode cX6_lessThan 19 = .ok (.ifCond .eq 7, 3) := by decide +kernel
theorem dX6_lessThan_22 : decode cX6_lessThan 22 = .ok (.iconst 1, 1) := by decide +kernel
theorem dX6_lessThan_23 : decode cX6_lessThan 23 = .ok (.goto 4, 3) := by decide +kernel
theorem dX6_lessThan_26 : decode cX6_lessThan 26 = .ok (.iconst 0, 1) := by decide +kernel
theorem dX6_lessThan_27 : decode cX6_lessThan 27 = .ok (.iadd, 1) := by decide +kernel
theorem dX6_lessThan_28 : decode cX6_lessThan 28 = .ok (.istore_n 3, 1) := by decide +kernel
theorem dX6_lessThan_29 : decode cX6_lessThan 29 = .ok (.iinc 4 1, 3) := by decide +kernel
theorem dX6_lessThan_32 : decode cX6_lessThan 32 = .ok (.goto (-27), 3) := by decide +kernel
theorem dX6_lessThan_35 : decode cX6_lessThan 35 = .ok (.iload_n 3, 1) := by decide +kernel
theorem dX6_lessThan_36 : decode cX6_lessThan 36 = .ok (.ireturn, 1) := by decide +kernel
set_option maxRecDepth 20000 in
theorem ggX6_alikeTo_X6_by : GoodIn wsX6_alikeTo wsX6_by := goodIn_r _ [5, 6, 7, 8, 9, 4, 10, 11, 12, 13, 14, 15, 16, 17, 18, 19, 20, 21, 22, 23, 24, 25, 26, 27, 28, 29, 30, 31, 32, 33, 34, 35, 36, 37, 38, 39, 40, 41, 42, 43, 44, 45, 46, 47, 48, 49, 50, 51, 52, 53, 54, 55, 56, 57, 58, 59, 60, 61, 62, 63, 64, 65, 66, 67, 68] (by decide +kernel) (by decide +kernel)
set_option maxRecDepth 20000 in
theorem gX6_alikeTo_X6_by : GoodIn wsX6_alikeTo (wsV RX6 135 RX6 yX6_by wsX6_by) := goodIn_app (goodIn_of _ (by decide +kernel)) ggX6_alikeTo_X6_by
theorem dX6_alikeTo_0 : decode cX6_alikeTo 0 = .ok (.iconst 0, 1) := by decide +kernel
theorem dX6_alikeTo_1 : decode cX6_alikeTo 1 = .ok (.istore_n 3, 1) := by decide +kernel
theorem dX6_alikeTo_2 : decode cX6_alikeTo 2 = .ok (.iconst 0, 1) := by decide +kernel
theorem dX6_alikeTo_3 : decode cX6_alikeTo 3 = .ok (.istore 4, 2) := by decide +kernel
theorem dX6_alikeTo_5 : decode cX6_alikeTo 5 = .ok (.iload 4, 2) := by decide +kernel
theorem dX6_alikeTo_7 : decode cX6_alikeTo 7 = .ok (.iload_n 2, 1) := by decide +kernel
theorem dX6_alikeTo_8 : decode cX6_alikeTo 8 = .ok (.if_icmp .ge 29, 3) := by decide +kernel
theorem dX6_alikeTo_11 : decode cX6_alikeTo 11 = .ok (.iload_n 3, 1) := by decide +kernel
theorem dX6_alikeTo_12 : decode cX6_alikeTo 12 = .ok (.aload_n 0, 1) := by decide +kernel
theorem dX6_alikeTo_13 : decode cX6_alikeTo 13 = .ok (.bipush 15, 2) := by decide +kernel
theorem dX6_alikeTo_15 : decode cX6_alikeTo 15 = .ok (.iload 4, 2) := by decide +kernel
theorem dX6_alikeTo_17 : decode cX6_alikeTo 17 = .ok (.iload_n 1, 1) := by decide +kernel
theorem dX6_alikeTo_18 : decode cX6_alikeTo 18 = .ok (.invokevirtual 135, 3) := by decide +kernel
theorem dX6_alikeTo_21 : decode cX6_alikeTo 21 = .ok (.ifCond .ne 7, 3) := by decide +kernel
theorem dX6_alikeTo_24 : decode cX6_alikeTo 24 = .ok (.iconst 1, 1) := by decide +kernel
theorem dX6_alikeTo_25 : decode cX6_alikeTo 25 = .ok (.goto 4, 3) := by decide +kernel
theorem dX6_alikeTo_28 : decode cX6_alikeTo 28 = .ok (.iconst 0, 1) := by decide +kernel
theorem dX6_alikeTo_29 : decode cX6_alikeTo 29 = .ok (.iadd, 1) := by decide +kernel
theorem dX6_alikeTo_30 : decode cX6_alikeTo 30 = .ok (.istore_n 3, 1) := by decide +kernel
theorem dX6_alikeTo_31 : decode cX6_alikeTo 31 = .ok (.iinc 4 1, 3) := by decide +kernel
theorem dX6_alikeTo_34 : decode cX6_alikeTo 34 = .ok (.goto (-29), 3) := by decide +kernel
theorem dX6_alikeTo_37 : decode cX6_alikeTo 37 = .ok (.iload_n 3, 1) := by decide +kernel
theorem dX6_alikeTo_38 : decode cX6_alikeTo 38 = .ok (.ireturn, 1) := by decide +kernel
set_option maxRecDepth 20000 in
theorem ggX6_unlikeLess_X6_isLess : GoodIn wsX6_unlikeLess wsX6_isLess := goodIn_r _ [5, 6, 7, 8, 4, 9, 10, 11, 12, 13, 14, 15, 16, 17, 18, 19, 20, 21, 22, 23, 24, 25, 26, 27, 28, 29, 30, 31, 32, 33, 34, 35, 36, 37, 38, 39, 40, 41, 42, 43, 44, 45, 46, 47, 48, 49, 50, 51, 52, 53, 54, 55, 56, 57, 58, 59, 60, 61, 62, 63, 64, 65, 66, 67, 68, 69, 70, 71, 72] (by decide +kernel) (by decide +kernel)
set_option maxRecDepth 20000 in
theorem gX6_unlikeLess_X6_isLess : GoodIn wsX6_unlikeLess (wsV RX6 138 RX6 yX6_isLess wsX6_isLess) := goodIn_app (goodIn_of _ (by decide +kernel)) ggX6_unlikeLess_X6_isLess
set_option maxRecDepth 20000 in
theorem ggX6_unlikeLess_X6_by : GoodIn wsX6_unlikeLess wsX6_by := goodIn_r _ [9, 10, 11, 12, 13, 4, 14, 15, 16, 17, 18, 19, 20, 21, 22, 23, 24, 25, 26, 27, 28, 29, 30, 31, 32, 33, 34, 35, 36, 37, 38, 39, 40, 41, 42, 43, 44, 45, 46, 47, 48, 49, 50, 51, 52, 53, 54, 55, 56, 57, 58, 59, 60, 61, 62, 63, 64, 65, 66, 67, 68, 69, 70, 71, 72] (by decide +kernel) (by decide +kernel)
set_option maxRecDepth 20000 in
theorem gX6_unlikeLess_X6_by : GoodIn wsX6_unlikeLess (wsV RX6 135 RX6 yX6_by wsX6_by) := goodIn_app (goodIn_of _ (by decide +kernel)) ggX6_unlikeLess_X6_by
theorem dX6_unlikeLess_0 : decode cX6_unlikeLess 0 = .ok (.iconst 0, 1) := by decide +kernel
theorem dX6_unlikeLess_1 : decode cX6_unlikeLess 1 = .ok (.istore_n 3, 1) := by decide +kernel
theorem dX6_unlikeLess_2 : decode cX6_unlikeLess 2 = .ok (.iconst 0, 1) := by decide +kernel
theorem dX6_unlikeLess_3 : decode cX6_unlikeLess 3 = .ok (.istore 4, 2) := by decide +kernel
theorem dX6_unlikeLess_5 : decode cX6_unlikeLess 5 = .ok (.iload 4, 2) := by decide +kernel
theorem dX6_unlikeLess_7 : decode cX6_unlikeLess 7 = .ok (.iload_n 2, 1) := by decide +kernel
theorem dX6_unlikeLess_8 : decode cX6_unlikeLess 8 = .ok (.if_icmp .ge 72, 3) := by decide +kernel
theorem dX6_unlikeLess_11 : decode cX6_unlikeLess 11 = .ok (.aload_n 0, 1) := by decide +kernel
theorem dX6_unlikeLess_12 : decode cX6_unlikeLess 12 = .ok (.iload 4, 2) := by decide +kernel
theorem dX6_unlikeLess_14 : decode cX6_unlikeLess 14 = .ok (.iload_n 1, 1) := by decide +kernel
theorem dX6_unlikeLess_15 : decode cX6_unlikeLess 15 = .ok (.invokevirtual 138, 3) := by decide +kernel
theorem dX6_unlikeLess_18 : decode cX6_unlikeLess 18 = .ok (.istore 5, 2) := by decide +kernel
theorem dX6_unlikeLess_20 : decode cX6_unlikeLess 20 = .ok (.iconst 0, 1) := by decide +kernel
theorem dX6_unlikeLess_21 : decode cX6_unlikeLess 21 = .ok (.istore 6, 2) := by decide +kernel
theorem dX6_unlikeLess_23 : decode cX6_unlikeLess 23 = .ok (.iload 6, 2) := by decide +kernel
theorem dX6_unlikeLess_25 : decode cX6_unlikeLess 25 = .ok (.iload 4, 2) := by decide +kernel
theorem dX6_unlikeLess_27 : decode cX6_unlikeLess 27 = .ok (.if_icmp .ge 34, 3) := by decide +kernel
theorem dX6_unlikeLess_30 : decode cX6_unlikeLess 30 = .ok (.iload 5, 2) := by decide +kernel
theorem dX6_unlikeLess_32 : decode cX6_unlikeLess 32 = .ok (.ifCond .eq 29, 3) := by decide +kernel
theorem dX6_unlikeLess_35 : decode cX6_unlikeLess 35 = .ok (.aload_n 0, 1) := by decide +kernel
theorem dX6_unlikeLess_36 : decode cX6_unlikeLess 36 = .ok (.bipush 15, 2) := by decide +kernel
theorem dX6_unlikeLess_38 : decode cX6_unlikeLess 38 = .ok (.iload 6, 2) := by decide +kernel
theorem dX6_unlikeLess_40 : decode cX6_unlikeLess 40 = .ok (.iload 4, 2) := by decide +kernel
theorem dX6_unlikeLess_42 : decode cX6_unlikeLess 42 = .ok (.invokevirtual 135, 3) := by decide +kernel
theorem dX6_unlikeLess_45 : decode cX6_unlikeLess 45 = .ok (.ifCond .eq 7, 3) := by decide +kernel
theorem dX6_unlikeLess_48 : decode cX6_unlikeLess 48 = .ok (.iconst 1, 1) := by decide +kernel
theorem dX6_unlikeLess_49 : decode cX6_unlikeLess 49 = .ok (.goto 4, 3) := by decide +kernel
theorem dX6_unlikeLess_52 : decode cX6_unlikeLess 52 = .ok (.iconst 0, 1) := by decide +kernel
theorem dX6_unlikeLess_53 : decode cX6_unlikeLess 53 = .ok (.istore 5, 2) := by decide +kernel
theorem dX6_unlikeLess_55 : decode cX6_unlikeLess 55 = .ok (.iinc 6 1, 3) := by decide +kernel
theorem dX6_unlikeLess_58 : decode cX6_unlikeLess 58 = .ok (.goto (-35), 3) := by decide +kernel
theorem dX6_unlikeLess_61 : decode cX6_unlikeLess 61 = .ok (.iload_n 3, 1) := by decide +kernel
theorem dX6_unlikeLess_62 : decode cX6_unlikeLess 62 = .ok (.iload 5, 2) := by decide +kernel
theorem dX6_unlikeLess_64 : decode cX6_unlikeLess 64 = .ok (.ifCond .eq 7, 3) := by decide +kernel
theorem dX6_unlikeLess_67 : decode cX6_unlikeLess 67 = .ok (.iconst 1, 1) := by decide +kernel
theorem dX6_unlikeLess_68 : decode cX6_unlikeLess 68 = .ok (.goto 4, 3) := by decide +kernel
theorem dX6_unlikeLess_71 : decode cX6_unlikeLess 71 = .ok (.iconst 0, 1) := by decide +kernel
theorem dX6_unlikeLess_72 : decode cX6_unlikeLess 72 = .ok (.iadd, 1) := by decide +kernel
theorem dX6_unlikeLess_73 : decode cX6_unlikeLess 73 = .ok (.istore_n 3, 1) := by decide +kernel
theorem dX6_unlikeLess_74 : decode cX6_unlikeLess 74 = .ok (.iinc 4 1, 3) := by decide +kernel
theorem dX6_unlikeLess_77 : decode cX6_unlikeLess 77 = .ok (.goto (-72), 3) := by decide +kernel
theorem dX6_unlikeLess_80 : decode cX6_unlikeLess 80 = .ok (.iload_n 3, 1) := by decide +kernel
theorem dX6_unlikeLess_81 : decode cX6_unlikeLess 81 = .ok (.ireturn, 1) := by decide +kernel
set_option maxRecDepth 20000 in
theorem ggX6_placeAt_X6_position : GoodIn wsX6_placeAt wsX6_position := goodIn_r _ [5, 6, 7, 8, 4, 9, 10, 11, 12, 13, 14, 15, 16, 17, 18, 19, 20, 21, 22, 23, 24, 25, 26, 27, 28, 29, 30, 31, 32, 33, 34, 35, 36, 37, 38, 39, 40, 41, 42, 43, 44, 45, 46, 47, 48, 49, 50, 51, 52, 53, 54, 55, 56, 57, 58, 59, 60, 61, 62, 63, 64, 65, 66, 67, 68, 69, 70, 71, 72] (by decide +kernel) (by decide +kernel)
set_option maxRecDepth 20000 in
theorem gX6_placeAt_X6_position : GoodIn wsX6_placeAt (wsV RX6 141 RX6 yX6_position wsX6_position) := goodIn_app (goodIn_of _ (by decide +kernel)) ggX6_placeAt_X6_position
theorem dX6_placeAt_0 : decode cX6_placeAt 0 = .ok (.iconst 0, 1) := by decide +kernel
theorem dX6_placeAt_1 : decode cX6_placeAt 1 = .ok (.istore_n 3, 1) := by decide +kernel
theorem dX6_placeAt_2 : decode cX6_placeAt 2 = .ok (.aload_n 0, 1) := by decide +kernel
theorem dX6_placeAt_3 : decode cX6_placeAt 3 = .ok (.bipush 15, 2) := by decide +kernel
theorem dX6_placeAt_5 : decode cX6_placeAt 5 = .ok (.iload_n 3, 1) := by decide +kernel
theorem dX6_placeAt_6 : decode cX6_placeAt 6 = .ok (.iload_n 2, 1) := by decide +kernel
theorem dX6_placeAt_7 : decode cX6_placeAt 7 = .ok (.invokevirtual 141, 3) := by decide +kernel
theorem dX6_placeAt_10 : decode cX6_placeAt 10 = .ok (.iload_n 1, 1) := by decide +kernel
theorem dX6_placeAt_11 : decode cX6_placeAt 11 = .ok (.if_icmp .eq 9, 3) := by decide +kernel
theorem dX6_placeAt_14 : decode cX6_placeAt 14 = .ok (.iinc 3 1, 3) := by decide +kernel
theorem dX6_placeAt_17 : decode cX6_placeAt 17 = .ok (.goto (-15), 3) := by decide +kernel
theorem dX6_placeAt_20 : decode cX6_placeAt 20 = .ok (.iload_n 3, 1) := by decide +kernel
theorem dX6_placeAt_21 : decode cX6_placeAt 21 = .ok (.ireturn, 1) := by decide +kernel
set_option maxRecDepth 20000 in
theorem ggX6_rank_X6_isPlace : GoodIn wsX6_rank wsX6_isPlace := goodIn_r _ [7, 8, 9, 10, 6, 11, 12, 13, 14, 15, 16, 17, 18, 19, 20, 21, 22, 23, 24, 25, 26, 27, 28, 29, 30, 31, 32, 33, 34, 35, 36, 37, 38, 39, 40, 41, 42, 43, 44, 45, 46, 47, 48, 49, 50, 51, 52, 53, 54, 55, 56, 57, 121, 122, 123, 124, 125, 126, 127, 128, 129, 130, 131, 132] (by decide +kernel) (by decide +kernel)
set_option maxRecDepth 20000 in
theorem gX6_rank_X6_isPlace : GoodIn wsX6_rank (wsV RX6 212 RX6 yX6_isPlace wsX6_isPlace) := goodIn_app (goodIn_of _ (by decide +kernel)) ggX6_rank_X6_isPlace
set_option maxRecDepth 20000 in
theorem ggX6_rank_X6_places : GoodIn wsX6_rank wsX6_places := goodIn_r _ [11, 12, 13, 14, 6, 15, 16, 17, 18, 19, 20, 21, 22, 23, 24, 25, 26, 27, 28, 29, 30, 31, 32, 33, 34, 35, 36, 37, 38, 39, 40, 41, 42, 43, 44, 45, 46, 47, 48, 49, 50, 51, 52, 53, 54, 121, 122, 123, 124, 125, 126, 127, 128, 129, 130, 131, 132] (by decide +kernel) (by decide +kernel)
set_option maxRecDepth 20000 in
theorem gX6_rank_X6_places : GoodIn wsX6_rank (wsV RX6 116 RX6 yX6_places wsX6_places) := goodIn_app (goodIn_of _ (by decide +kernel)) ggX6_rank_X6_places
set_option maxRecDepth 20000 in
theorem ggX6_rank_X6_lessThan : GoodIn wsX6_rank wsX6_lessThan := goodIn_r _ [61, 62, 63, 64, 6, 65, 66, 67, 68, 69, 20, 21, 22, 23, 24, 29, 30, 31, 25, 26, 27, 28, 44, 45, 46, 47, 70, 71, 72, 73, 74, 75, 76, 77, 78, 79, 80, 81, 82, 83, 84, 85, 86, 87, 88, 89, 90, 91, 92, 93, 94, 95, 96, 97, 98, 99, 100, 101, 102, 103, 104, 121, 122, 123, 124, 125, 126, 127, 128, 129, 130, 131, 132] (by decide +kernel) (by decide +kernel)
set_option maxRecDepth 20000 in
theorem gX6_rank_X6_lessThan : GoodIn wsX6_rank (wsV RX6 215 RX6 yX6_lessThan wsX6_lessThan) := goodIn_app (goodIn_of _ (by decide +kernel)) ggX6_rank_X6_lessThan
set_option maxRecDepth 20000 in
theorem ggX6_rank_X6_unlikeLess : GoodIn wsX6_rank wsX6_unlikeLess := goodIn_r _ [108, 62, 63, 64, 6, 65, 66, 67, 68, 69, 20, 21, 22, 23, 24, 29, 30, 31, 25, 26, 27, 28, 44, 45, 46, 47, 70, 71, 72, 73, 74, 75, 76, 77, 78, 79, 80, 81, 82, 83, 84, 85, 86, 87, 88, 89, 90, 91, 92, 93, 94, 95, 96, 97, 98, 99, 100, 101, 102, 103, 104, 121, 122, 123, 124, 125, 126, 127, 128, 129, 130, 131, 132] (by decide +kernel) (by decide +kernel)
set_option maxRecDepth 20000 in
theorem gX6_rank_X6_unlikeLess : GoodIn wsX6_rank (wsV RX6 218 RX6 yX6_unlikeLess wsX6_unlikeLess) := goodIn_app (goodIn_of _ (by decide +kernel)) ggX6_rank_X6_unlikeLess
set_option maxRecDepth 20000 in
theorem ggX6_rank_X6_position : GoodIn wsX6_rank wsX6_position := goodIn_r _ [112, 66, 67, 68, 6, 69, 20, 21, 22, 23, 24, 29, 30, 31, 25, 26, 27, 28, 44, 45, 46, 47, 70, 71, 72, 73, 74, 75, 76, 77, 78, 79, 80, 81, 82, 83, 84, 85, 86, 87, 88, 89, 90, 91, 92, 93, 94, 95, 96, 97, 98, 99, 100, 101, 102, 103, 104, 121, 122, 123, 124, 125, 126, 127, 128, 129, 130, 131, 132] (by decide +kernel) (by decide +kernel)
set_option maxRecDepth 20000 in
theorem gX6_rank_X6_position : GoodIn wsX6_rank (wsV RX6 141 RX6 yX6_position wsX6_position) := goodIn_app (goodIn_of _ (by decide +kernel)) ggX6_rank_X6_position
set_option maxRecDepth 20000 in
theorem ggX6_rank_X6_alikeTo : GoodIn wsX6_rank wsX6_alikeTo := goodIn_r _ [116, 66, 67, 68, 6, 69, 20, 21, 22, 23, 24, 29, 30, 31, 25, 26, 27, 28, 44, 45, 46, 47, 70, 71, 72, 73, 74, 75, 76, 77, 78, 79, 80, 81, 82, 83, 84, 85, 86, 87, 88, 89, 90, 91, 92, 93, 94, 95, 96, 97, 98, 99, 100, 101, 102, 103, 104, 121, 122, 123, 124, 125, 126, 127, 128, 129, 130, 131, 132] (by decide +kernel) (by decide +kernel)
set_option maxRecDepth 20000 in
theorem gX6_rank_X6_alikeTo : GoodIn wsX6_rank (wsV RX6 221 RX6 yX6_alikeTo wsX6_alikeTo) := goodIn_app (goodIn_of _ (by decide +kernel)) ggX6_rank_X6_alikeTo
set_option maxRecDepth 20000 in
theorem ggX6_rank_X6_placeAt : GoodIn wsX6_rank wsX6_placeAt := goodIn_r _ [120, 109, 110, 111, 6, 112, 66, 67, 68, 69, 20, 21, 22, 23, 24, 29, 30, 31, 25, 26, 27, 28, 44, 45, 46, 47, 70, 71, 72, 73, 74, 75, 76, 77, 78, 79, 80, 81, 82, 83, 84, 85, 86, 87, 88, 89, 90, 91, 92, 93, 94, 95, 96, 97, 98, 99, 100, 101, 102, 103, 104, 121, 122, 123, 124, 125, 126, 127, 128, 129, 130, 131, 132] (by decide +kernel) (by decide +kernel)
set_option maxRecDepth 20000 in
theorem gX6_rank_X6_placeAt : GoodIn wsX6_rank (wsV RX6 224 RX6 yX6_placeAt wsX6_placeAt) := goodIn_app (goodIn_of _ (by decide +kernel)) ggX6_rank_X6_placeAt
theorem dX6_rank_0 : decode cX6_rank 0 = .ok (.aload_n 0, 1) := by decide +kernel
theorem dX6_rank_1 : decode cX6_rank 1 = .ok (.iload_n 1, 1) := by decide +kernel
theorem dX6_rank_2 : decode cX6_rank 2 = .ok (.invokevirtual 212, 3) := by decide +kernel
theorem dX6_rank_5 : decode cX6_rank 5 = .ok (.ifCond .ne 6, 3) := by decide +kernel
theorem dX6_rank_8 : decode cX6_rank 8 = .ok (.ldc 198, 2) := by decide +kernel
theorem dX6_rank_10 : decode cX6_rank 10 = .ok (.ireturn, 1) := by decide +kernel
theorem dX6_rank_11 : decode cX6_rank 11 = .ok (.aload_n 0, 1) := by decide +kernel
theorem dX6_rank_12 : decode cX6_rank 12 = .ok (.invokevirtual 116, 3) := by decide +kernel
theorem dX6_rank_15 : decode cX6_rank 15 = .ok (.istore_n 3, 1) := by decide +kernel
theorem dX6_rank_16 : decode cX6_rank 16 = .ok (.iload_n 2, 1) := by decide +kernel
theorem dX6_rank_17 : decode cX6_rank 17 = .ok (.tableswitch 72 0 4 #[35, 42, 49, 58, 65], 35) := by decide +kernel
theorem dX6_rank_52 : decode cX6_rank 52 = .ok (.aload_n 0, 1) := by decide +kernel
theorem dX6_rank_53 : decode cX6_rank 53 = .ok (.iload_n 1, 1) := by decide +kernel
theorem dX6_rank_54 : decode cX6_rank 54 = .ok (.iload_n 3, 1) := by decide +kernel
theorem dX6_rank_55 : decode cX6_rank 55 = .ok (.invokevirtual 215, 3) := by decide +kernel
theorem dX6_rank_58 : decode cX6_rank 58 = .ok (.ireturn, 1) := by decide +kernel
theorem dX6_rank_59 : decode cX6_rank 59 = .ok (.aload_n 0, 1) := by decide +kernel
theorem dX6_rank_60 : decode cX6_rank 60 = .ok (.iload_n 1, 1) := by decide +kernel
theorem dX6_rank_61 : decode cX6_rank 61 = .ok (.iload_n 3, 1) := by decide +kernel
theorem dX6_rank_62 : decode cX6_rank 62 = .ok (.invokevirtual 218, 3) := by decide +kernel
theorem dX6_rank_65 : decode cX6_rank 65 = .ok (.ireturn, 1) := by decide +kernel
theorem dX6_rank_66 : decode cX6_rank 66 = .ok (.aload_n 0, 1) := by decide +kernel
theorem dX6_rank_67 : decode cX6_rank 67 = .ok (.bipush 15, 2) := by decide +kernel
theorem dX6_rank_69 : decode cX6_rank 69 = .ok (.iload_n 1, 1) := by decide +kernel
theorem dX6_rank_70 : decode cX6_rank 70 = .ok (.iload_n 3, 1) := by decide +kernel
theorem dX6_rank_71 : decode cX6_rank 71 = .ok (.invokevirtual 141, 3) := by decide +kernel
theorem dX6_rank_74 : decode cX6_rank 74 = .ok (.ireturn, 1) := by decide +kernel
theorem dX6_rank_75 : decode cX6_rank 75 = .ok (.aload_n 0, 1) := by decide +kernel
theorem dX6_rank_76 : decode cX6_rank 76 = .ok (.iload_n 1, 1) := by decide +kernel
theorem dX6_rank_77 : decode cX6_rank 77 = .ok (.iload_n 3, 1) := by decide +kernel
theorem dX6_rank_78 : decode cX6_rank 78 = .ok (.invokevirtual 221, 3) := by decide +kernel
theorem dX6_rank_81 : decode cX6_rank 81 = .ok (.ireturn, 1) := by decide +kernel
theorem dX6_rank_82 : decode cX6_rank 82 = .ok (.aload_n 0, 1) := by decide +kernel
theorem dX6_rank_83 : decode cX6_rank 83 = .ok (.iload_n 1, 1) := by decide +kernel
theorem dX6_rank_84 : decode cX6_rank 84 = .ok (.iload_n 3, 1) := by decide +kernel
theorem dX6_rank_85 : decode cX6_rank 85 = .ok (.invokevirtual 224, 3) := by decide +kernel
theorem dX6_rank_88 : decode cX6_rank 88 = .ok (.ireturn, 1) := by decide +kernel
theorem dX6_rank_89 : decode cX6_rank 89 = .ok (.ldc 192, 2) := by decide +kernel
theorem dX6_rank_91 : decode cX6_rank 91 = .ok (.ireturn, 1) := by decide +kernel
set_option maxRecDepth 20000 in
theorem ggX6_compare_X6_isPlace : GoodIn wsX6_compare wsX6_isPlace := goodIn_r _ [6, 7, 8, 9, 5, 10, 11, 12, 13, 14, 15, 16, 17, 18, 19, 20, 21, 22, 23, 24, 25, 26, 27, 28, 29, 30, 31, 32, 33, 34, 35, 36, 37, 38, 39, 40, 41, 42, 43, 44, 45, 46, 47, 48, 49, 50, 51, 52, 53, 54, 55, 56, 96, 97, 98, 99, 100, 101, 102, 103, 104, 105, 106, 107] (by decide +kernel) (by decide +kernel)
set_option maxRecDepth 20000 in
theorem gX6_compare_X6_isPlace : GoodIn wsX6_compare (wsV RX6 212 RX6 yX6_isPlace wsX6_isPlace) := goodIn_app (goodIn_of _ (by decide +kernel)) ggX6_compare_X6_isPlace
set_option maxRecDepth 20000 in
theorem ggX6_compare_X6_by : GoodIn wsX6_compare wsX6_by := goodIn_r _ [60, 19, 20, 21, 22, 5, 23, 28, 29, 30, 24, 25, 26, 27, 43, 44, 45, 46, 61, 62, 63, 64, 65, 66, 67, 68, 69, 70, 71, 72, 73, 74, 75, 76, 77, 78, 79, 80, 81, 82, 83, 84, 85, 86, 87, 88, 89, 90, 91, 92, 93, 94, 95, 96, 97, 98, 99, 100, 101, 102, 103, 104, 105, 106, 107] (by decide +kernel) (by decide +kernel)
set_option maxRecDepth 20000 in
theorem gX6_compare_X6_by : GoodIn wsX6_compare (wsV RX6 135 RX6 yX6_by wsX6_by) := goodIn_app (goodIn_of _ (by decide +kernel)) ggX6_compare_X6_by
theorem dX6_compare_0 : decode cX6_compare 0 = .ok (.aload_n 0, 1) := by decide +kernel
theorem dX6_compare_1 : decode cX6_compare 1 = .ok (.iload_n 1, 1) := by decide +kernel
theorem dX6_compare_2 : decode cX6_compare 2 = .ok (.invokevirtual 212, 3) := by decide +kernel
theorem dX6_compare_5 : decode cX6_compare 5 = .ok (.ifCond .eq 24, 3) := by decide +kernel
theorem dX6_compare_8 : decode cX6_compare 8 = .ok (.aload_n 0, 1) := by decide +kernel
theorem dX6_compare_9 : decode cX6_compare 9 = .ok (.iload_n 2, 1) := by decide +kernel
theorem dX6_compare_10 : decode cX6_compare 10 = .ok (.invokevirtual 212, 3) := by decide +kernel
theorem dX6_compare_13 : decode cX6_compare 13 = .ok (.ifCond .eq 16, 3) := by decide +kernel
theorem dX6_compare_16 : decode cX6_compare 16 = .ok (.aload_n 0, 1) := by decide +kernel
theorem dX6_compare_17 : decode cX6_compare 17 = .ok (.bipush 15, 2) := by decide +kernel
theorem dX6_compare_19 : decode cX6_compare 19 = .ok (.iload_n 1, 1) := by decide +kernel
theorem dX6_compare_20 : decode cX6_compare 20 = .ok (.iload_n 2, 1) := by decide +kernel
theorem dX6_compare_21 : decode cX6_compare 21 = .ok (.invokevirtual 135, 3) := by decide +kernel
theorem dX6_compare_24 : decode cX6_compare 24 = .ok (.iconst 1, 1) := by decide +kernel
theorem dX6_compare_25 : decode cX6_compare 25 = .ok (.iadd, 1) := by decide +kernel
theorem dX6_compare_26 : decode cX6_compare 26 = .ok (.goto 5, 3) := by decide +kernel
theorem dX6_compare_29 : decode cX6_compare 29 = .ok (.ldc 198, 2) := by decide +kernel
theorem dX6_compare_31 : decode cX6_compare 31 = .ok (.ireturn, 1) := by decide +kernel
set_option maxRecDepth 20000 in
theorem ggX6_below_X6_isSlot : GoodIn wsX6_below wsX6_isSlot := goodIn_r _ [8, 9, 10, 11, 7, 12] (by decide +kernel) (by decide +kernel)
set_option maxRecDepth 20000 in
theorem gX6_below_X6_isSlot : GoodIn wsX6_below (va_wsS RX6 195 yX6_isSlot wsX6_isSlot) := goodIn_app (goodIn_of _ (by decide +kernel)) ggX6_below_X6_isSlot
set_option maxRecDepth 20000 in
theorem ggX6_below_X6_in : GoodIn wsX6_below wsX6_in := goodIn_r _ [12] (by decide +kernel) (by decide +kernel)
set_option maxRecDepth 20000 in
theorem gX6_below_X6_in : GoodIn wsX6_below (va_wsS RX6 74 yX6_in wsX6_in) := goodIn_app (goodIn_of _ (by decide +kernel)) ggX6_below_X6_in
set_option maxRecDepth 20000 in
theorem ggX6_below_X6_goes : GoodIn wsX6_below wsX6_goes := goodIn_r _ [15] (by decide +kernel) (by decide +kernel)
set_option maxRecDepth 20000 in
theorem gX6_below_X6_goes : GoodIn wsX6_below (va_wsS RX6 78 yX6_goes wsX6_goes) := goodIn_app (goodIn_of _ (by decide +kernel)) ggX6_below_X6_goes
set_option maxRecDepth 20000 in
theorem ggX6_below_X6_isRow : GoodIn wsX6_below wsX6_isRow := goodIn_r _ [19, 20, 21, 22, 7, 23, 4, 63, 64, 65, 66, 67, 68, 69, 70, 71, 72, 73, 74] (by decide +kernel) (by decide +kernel)
set_option maxRecDepth 20000 in
theorem gX6_below_X6_isRow : GoodIn wsX6_below (wsV RX6 67 RX6 yX6_isRow wsX6_isRow) := goodIn_app (goodIn_of _ (by decide +kernel)) ggX6_below_X6_isRow
set_option maxRecDepth 20000 in
theorem ggX6_below_X6_many : GoodIn wsX6_below wsX6_many := goodIn_r _ [27, 4, 63, 64, 65, 66, 67, 68, 69, 70, 71, 72, 73, 74] (by decide +kernel) (by decide +kernel)
set_option maxRecDepth 20000 in
theorem gX6_below_X6_many : GoodIn wsX6_below (wsV RX6 71 RX6 yX6_many wsX6_many) := goodIn_app (goodIn_of _ (by decide +kernel)) ggX6_below_X6_many
set_option maxRecDepth 20000 in
theorem ggX6_below_X6_reads : GoodIn wsX6_below wsX6_reads := goodIn_r _ [31, 20, 21, 22, 7, 23, 4, 13, 14, 15, 63, 64, 65, 66, 67, 68, 69, 70, 71, 72, 73, 74] (by decide +kernel) (by decide +kernel)
set_option maxRecDepth 20000 in
theorem gX6_below_X6_reads : GoodIn wsX6_below (wsV RX6 113 RX6 yX6_reads wsX6_reads) := goodIn_app (goodIn_of _ (by decide +kernel)) ggX6_below_X6_reads
set_option maxRecDepth 20000 in
theorem ggX6_below_X6_gone : GoodIn wsX6_below wsX6_gone := goodIn_r _ [34, 35, 36, 7, 37, 38] (by decide +kernel) (by decide +kernel)
set_option maxRecDepth 20000 in
theorem gX6_below_X6_gone : GoodIn wsX6_below (va_wsS RX6 85 yX6_gone wsX6_gone) := goodIn_app (goodIn_of _ (by decide +kernel)) ggX6_below_X6_gone
set_option maxRecDepth 20000 in
theorem ggX6_below_X6_sortRead : GoodIn wsX6_below wsX6_sortRead := goodIn_r _ [42, 43, 44, 45, 7, 46, 4, 47, 48, 49, 63, 64, 65, 66, 67, 68, 69, 70, 71, 72, 73, 74] (by decide +kernel) (by decide +kernel)
set_option maxRecDepth 20000 in
theorem gX6_below_X6_sortRead : GoodIn wsX6_below (wsV RX6 119 RX6 yX6_sortRead wsX6_sortRead) := goodIn_app (goodIn_of _ (by decide +kernel)) ggX6_below_X6_sortRead
set_option maxRecDepth 20000 in
theorem ggX6_below_X6_numberRead : GoodIn wsX6_below wsX6_numberRead := goodIn_r _ [53, 4, 47, 48, 7, 49, 32, 33, 34, 35, 36, 37, 38, 63, 64, 65, 66, 67, 68, 69, 70, 71, 72, 73, 74] (by decide +kernel) (by decide +kernel)
set_option maxRecDepth 20000 in
theorem gX6_below_X6_numberRead : GoodIn wsX6_below (wsV RX6 123 RX6 yX6_numberRead wsX6_numberRead) := goodIn_app (goodIn_of _ (by decide +kernel)) ggX6_below_X6_numberRead
set_option maxRecDepth 20000 in
theorem ggX6_below_X6_against : GoodIn wsX6_below wsX6_against := goodIn_r _ [57, 58, 59, 60, 7, 61, 62, 4, 38, 63, 64, 65, 66, 67, 68, 69, 70, 71, 72, 73, 74] (by decide +kernel) (by decide +kernel)
set_option maxRecDepth 20000 in
theorem gX6_below_X6_against : GoodIn wsX6_below (wsV RX6 127 RX6 yX6_against wsX6_against) := goodIn_app (goodIn_of _ (by decide +kernel)) ggX6_below_X6_against
theorem dX6_below_0 : decode cX6_below 0 = .ok (.iload_n 1, 1) := by decide +kernel
theorem dX6_below_1 : decode cX6_below 1 = .ok (.invokestatic 195, 3) := by decide +kernel
theorem dX6_below_4 : decode cX6_below 4 = .ok (.ifCond .ne 6, 3) := by decide +kernel
theorem dX6_below_7 : decode cX6_below 7 = .ok (.ldc 198, 2) := by decide +kernel
theorem dX6_below_9 : decode cX6_below 9 = .ok (.ireturn, 1) := by decide +kernel
theorem dX6_below_10 : decode cX6_below 10 = .ok (.iload_n 2, 1) := by decide +kernel
theorem dX6_below_11 : decode cX6_below 11 = .ok (.i2l, 1) := by decide +kernel
theorem dX6_below_12 : decode cX6_below 12 = .ok (.lconst 0, 1) := by decide +kernel
theorem dX6_below_13 : decode cX6_below 13 = .ok (.ldc2_w 227, 3) := by decide +kernel
theorem dX6_below_16 : decode cX6_below 16 = .ok (.invokestatic 74, 3) := by decide +kernel
theorem dX6_below_19 : decode cX6_below 19 = .ok (.ifCond .eq 13, 3) := by decide +kernel
theorem dX6_below_22 : decode cX6_below 22 = .ok (.iload_n 3, 1) := by decide +kernel
theorem dX6_below_23 : decode cX6_below 23 = .ok (.i2l, 1) := by decide +kernel
theorem dX6_below_24 : decode cX6_below 24 = .ok (.lconst 0, 1) := by decide +kernel
theorem dX6_below_25 : decode cX6_below 25 = .ok (.lconst 1, 1) := by decide +kernel
theorem dX6_below_26 : decode cX6_below 26 = .ok (.invokestatic 74, 3) := by decide +kernel
theorem dX6_below_29 : decode cX6_below 29 = .ok (.ifCond .ne 6, 3) := by decide +kernel
theorem dX6_below_32 : decode cX6_below 32 = .ok (.ldc 192, 2) := by decide +kernel
theorem dX6_below_34 : decode cX6_below 34 = .ok (.ireturn, 1) := by decide +kernel
theorem dX6_below_35 : decode cX6_below 35 = .ok (.aload_n 0, 1) := by decide +kernel
theorem dX6_below_36 : decode cX6_below 36 = .ok (.getfield 7, 3) := by decide +kernel
theorem dX6_below_39 : decode cX6_below 39 = .ok (.sipush 170, 3) := by decide +kernel
theorem dX6_below_42 : decode cX6_below 42 = .ok (.laload, 1) := by decide +kernel
theorem dX6_below_43 : decode cX6_below 43 = .ok (.l2i, 1) := by decide +kernel
theorem dX6_below_44 : decode cX6_below 44 = .ok (.istore 4, 2) := by decide +kernel
theorem dX6_below_46 : decode cX6_below 46 = .ok (.iload_n 2, 1) := by decide +kernel
theorem dX6_below_47 : decode cX6_below 47 = .ok (.bipush 8, 2) := by decide +kernel
theorem dX6_below_49 : decode cX6_below 49 = .ok (.if_icmp .eq 19, 3) := by decide +kernel
theorem dX6_below_52 : decode cX6_below 52 = .ok (.iload 4, 2) := by decide +kernel
theorem dX6_below_54 : decode cX6_below 54 = .ok (.bipush 7, 2) := by decide +kernel
theorem dX6_below_56 : decode cX6_below 56 = .ok (.if_icmp .gt 16, 3) := by decide +kernel
theorem dX6_below_59 : decode cX6_below 59 = .ok (.iload 4, 2) := by decide +kernel
theorem dX6_below_61 : decode cX6_below 61 = .ok (.iload_n 2, 1) := by decide +kernel
theorem dX6_below_62 : decode cX6_below 62 = .ok (.invokestatic 78, 3) := by decide +kernel
theorem dX6_below_65 : decode cX6_below 65 = .ok (.ifCond .eq 7, 3) := by decide +kernel
theorem dX6_below_68 : decode cX6_below 68 = .ok (.iconst 1, 1) := by decide +kernel
theorem dX6_below_69 : decode cX6_below 69 = .ok (.goto 4, 3) := by decide +kernel
theorem dX6_below_72 : decode cX6_below 72 = .ok (.iconst 0, 1) := by decide +kernel
theorem dX6_below_73 : decode cX6_below 73 = .ok (.istore 5, 2) := by decide +kernel
theorem dX6_below_75 : decode cX6_below 75 = .ok (.iload 5, 2) := by decide +kernel
theorem dX6_below_77 : decode cX6_below 77 = .ok (.ifCond .eq 28, 3) := by decide +kernel
theorem dX6_below_80 : decode cX6_below 80 = .ok (.aload_n 0, 1) := by decide +kernel
theorem dX6_below_81 : decode cX6_below 81 = .ok (.iload_n 1, 1) := by decide +kernel
theorem dX6_below_82 : decode cX6_below 82 = .ok (.invokevirtual 67, 3) := by decide +kernel
theorem dX6_below_85 : decode cX6_below 85 = .ok (.ifCond .eq 20, 3) := by decide +kernel
theorem dX6_below_88 : decode cX6_below 88 = .ok (.aload_n 0, 1) := by decide +kernel
theorem dX6_below_89 : decode cX6_below 89 = .ok (.iload_n 1, 1) := by decide +kernel
theorem dX6_below_90 : decode cX6_below 90 = .ok (.invokevirtual 71, 3) := by decide +kernel
theorem dX6_below_93 : decode cX6_below 93 = .ok (.ifCond .le 14, 3) := by decide +kernel
theorem dX6_below_96 : decode cX6_below 96 = .ok (.aload_n 0, 1) := by decide +kernel
theorem dX6_below_97 : decode cX6_below 97 = .ok (.iload_n 1, 1) := by decide +kernel
theorem dX6_below_98 : decode cX6_below 98 = .ok (.iload_n 2, 1) := by decide +kernel
theorem dX6_below_99 : decode cX6_below 99 = .ok (.invokevirtual 113, 3) := by decide +kernel
theorem dX6_below_102 : decode cX6_below 102 = .ok (.ifCond .ne 5, 3) := by decide +kernel
theorem dX6_below_105 : decode cX6_below 105 = .ok (.iconst (-1), 1) := by decide +kernel
theorem dX6_below_106 : decode cX6_below 106 = .ok (.ireturn, 1) := by decide +kernel
theorem dX6_below_107 : decode cX6_below 107 = .ok (.iload_n 2, 1) := by decide +kernel
theorem dX6_below_108 : decode cX6_below 108 = .ok (.bipush 8, 2) := by decide +kernel
theorem dX6_below_110 : decode cX6_below 110 = .ok (.if_icmp .ne 14, 3) := by decide +kernel
theorem dX6_below_113 : decode cX6_below 113 = .ok (.aload_n 0, 1) := by decide +kernel
theorem dX6_below_114 : decode cX6_below 114 = .ok (.getfield 7, 3) := by decide +kernel
theorem dX6_below_117 : decode cX6_below 117 = .ok (.sipush 171, 3) := by decide +kernel
theorem dX6_below_120 : decode cX6_below 120 = .ok (.laload, 1) := by decide +kernel
theorem dX6_below_121 : decode cX6_below 121 = .ok (.goto 15, 3) := by decide +kernel
theorem dX6_below_124 : decode cX6_below 124 = .ok (.aload_n 0, 1) := by decide +kernel
theorem dX6_below_125 : decode cX6_below 125 = .ok (.getfield 7, 3) := by decide +kernel
theorem dX6_below_128 : decode cX6_below 128 = .ok (.sipush 171, 3) := by decide +kernel
theorem dX6_below_131 : decode cX6_below 131 = .ok (.laload, 1) := by decide +kernel
theorem dX6_below_132 : decode cX6_below 132 = .ok (.iload_n 2, 1) := by decide +kernel
theorem dX6_below_133 : decode cX6_below 133 = .ok (.invokestatic 85, 3) := by decide +kernel
theorem dX6_below_136 : decode cX6_below 136 = .ok (.lstore 6, 2) := by decide +kernel
theorem dX6_below_138 : decode cX6_below 138 = .ok (.iload_n 2, 1) := by decide +kernel
theorem dX6_below_139 : decode cX6_below 139 = .ok (.bipush 8, 2) := by decide +kernel
theorem dX6_below_141 : decode cX6_below 141 = .ok (.if_icmp .ne 8, 3) := by decide +kernel
theorem dX6_below_144 : decode cX6_below 144 = .ok (.iload 4, 2) := by decide +kernel
theorem dX6_below_146 : decode cX6_below 146 = .ok (.goto 4, 3) := by decide +kernel
theorem dX6_below_149 : decode cX6_below 149 = .ok (.iload_n 2, 1) := by decide +kernel
theorem dX6_below_150 : decode cX6_below 150 = .ok (.istore 4, 2) := by decide +kernel
theorem dX6_below_152 : decode cX6_below 152 = .ok (.iconst 0, 1) := by decide +kernel
theorem dX6_below_153 : decode cX6_below 153 = .ok (.istore 8, 2) := by decide +kernel
theorem dX6_below_155 : decode cX6_below 155 = .ok (.iconst 0, 1) := by decide +kernel
theorem dX6_below_156 : decode cX6_below 156 = .ok (.istore 9, 2) := by decide +kernel
theorem dX6_below_158 : decode cX6_below 158 = .ok (.iload 9, 2) := by decide +kernel
theorem dX6_below_160 : decode cX6_below 160 = .ok (.aload_n 0, 1) := by decide +kernel
theorem dX6_below_161 : decode cX6_below 161 = .ok (.iload_n 1, 1) := by decide +kernel
theorem dX6_below_162 : decode cX6_below 162 = .ok (.invokevirtual 71, 3) := by decide +kernel
theorem dX6_below_165 : decode cX6_below 165 = .ok (.if_icmp .ge 49, 3) := by decide +kernel
theorem dX6_below_168 : decode cX6_below 168 = .ok (.iload 8, 2) := by decide +kernel
theorem dX6_below_170 : decode cX6_below 170 = .ok (.aload_n 0, 1) := by decide +kernel
theorem dX6_below_171 : decode cX6_below 171 = .ok (.aload_n 0, 1) := by decide +kernel
theorem dX6_below_172 : decode cX6_below 172 = .ok (.iload_n 1, 1) := by decide +kernel
theorem dX6_below_173 : decode cX6_below 173 = .ok (.iload 9, 2) := by decide +kernel
theorem dX6_below_175 : decode cX6_below 175 = .ok (.iload_n 2, 1) := by decide +kernel
theorem dX6_below_176 : decode cX6_below 176 = .ok (.invokevirtual 119, 3) := by decide +kernel
theorem dX6_below_179 : decode cX6_below 179 = .ok (.aload_n 0, 1) := by decide +kernel
theorem dX6_below_180 : decode cX6_below 180 = .ok (.iload_n 1, 1) := by decide +kernel
theorem dX6_below_181 : decode cX6_below 181 = .ok (.iload 9, 2) := by decide +kernel
theorem dX6_below_183 : decode cX6_below 183 = .ok (.iload_n 2, 1) := by decide +kernel
theorem dX6_below_184 : decode cX6_below 184 = .ok (.invokevirtual 123, 3) := by decide +kernel
theorem dX6_below_187 : decode cX6_below 187 = .ok (.iload 4, 2) := by decide +kernel
theorem dX6_below_189 : decode cX6_below 189 = .ok (.lload 6, 2) := by decide +kernel
theorem dX6_below_191 : decode cX6_below 191 = .ok (.invokevirtual 127, 3) := by decide +kernel
theorem dX6_below_194 : decode cX6_below 194 = .ok (.iload_n 3, 1) := by decide +kernel
theorem dX6_below_195 : decode cX6_below 195 = .ok (.iconst 1, 1) := by decide +kernel
theorem dX6_below_196 : decode cX6_below 196 = .ok (.isub, 1) := by decide +kernel
theorem dX6_below_197 : decode cX6_below 197 = .ok (.if_icmp .ne 7, 3) := by decide +kernel
theorem dX6_below_200 : decode cX6_below 200 = .ok (.iconst 1, 1) := by decide +kernel
theorem dX6_below_201 : decode cX6_below 201 = .ok (.goto 4, 3) := by decide +kernel
theorem dX6_below_204 : decode cX6_below 204 = .ok (.iconst 0, 1) := by decide +kernel
theorem dX6_below_205 : decode cX6_below 205 = .ok (.iadd, 1) := by decide +kernel
theorem dX6_below_206 : decode cX6_below 206 = .ok (.istore 8, 2) := by decide +kernel
theorem dX6_below_208 : decode cX6_below 208 = .ok (.iinc 9 1, 3) := by decide +kernel
theorem dX6_below_211 : decode cX6_below 211 = .ok (.goto (-53), 3) := by decide +kernel
theorem dX6_below_214 : decode cX6_below 214 = .ok (.iload 8, 2) := by decide +kernel
theorem dX6_below_216 : decode cX6_below 216 = .ok (.ireturn, 1) := by decide +kernel
set_option maxRecDepth 20000 in
theorem ggX6_would_X6_isSlot : GoodIn wsX6_would wsX6_isSlot := goodIn_r _ [6, 7, 8, 9, 5, 10] (by decide +kernel) (by decide +kernel)
set_option maxRecDepth 20000 in
theorem gX6_would_X6_isSlot : GoodIn wsX6_would (va_wsS RX6 195 yX6_isSlot wsX6_isSlot) := goodIn_app (goodIn_of _ (by decide +kernel)) ggX6_would_X6_isSlot
set_option maxRecDepth 20000 in
theorem ggX6_would_X6_isPlace : GoodIn wsX6_would wsX6_isPlace := goodIn_r _ [14, 15, 16, 17, 5, 18, 19, 20, 21, 22, 23, 24, 25, 26, 2, 27, 28, 29, 30, 31, 32, 33, 34, 35, 36, 37, 38, 39, 40, 41, 42, 43, 44, 45, 46, 47, 48, 49, 50, 51, 52, 53, 54, 55, 56, 57, 58, 59, 60, 8, 9, 10, 120, 121, 122, 123, 124, 125, 126, 127, 128, 129, 130, 131] (by decide +kernel) (by decide +kernel)
set_option maxRecDepth 20000 in
theorem gX6_would_X6_isPlace : GoodIn wsX6_would (wsV RX6 212 RX6 yX6_isPlace wsX6_isPlace) := goodIn_app (goodIn_of _ (by decide +kernel)) ggX6_would_X6_isPlace
set_option maxRecDepth 20000 in
theorem ggX6_would_X6_lacks : GoodIn wsX6_would wsX6_lacks := goodIn_r _ [64, 42, 43, 44, 5, 45, 2, 38, 39, 40, 41, 46, 47, 48, 49, 8, 9, 10, 120, 121, 122, 123, 124, 125, 126, 127, 128, 129, 130, 131] (by decide +kernel) (by decide +kernel)
set_option maxRecDepth 20000 in
theorem gX6_would_X6_lacks : GoodIn wsX6_would (wsV RX6 203 RX6 yX6_lacks wsX6_lacks) := goodIn_app (goodIn_of _ (by decide +kernel)) ggX6_would_X6_lacks
set_option maxRecDepth 20000 in
theorem ggX6_would_X6_takes : GoodIn wsX6_would wsX6_takes := goodIn_r _ [68, 69, 42, 43, 44, 5, 45, 2, 58, 59, 60, 120, 121, 122, 123, 124, 125, 126, 127, 128, 129, 130, 131] (by decide +kernel) (by decide +kernel)
set_option maxRecDepth 20000 in
theorem gX6_would_X6_takes : GoodIn wsX6_would (wsV RX6 229 RX6 yX6_takes wsX6_takes) := goodIn_app (goodIn_of _ (by decide +kernel)) ggX6_would_X6_takes
set_option maxRecDepth 20000 in
theorem ggX6_would_X6_at : GoodIn wsX6_would wsX6_at := goodIn_r _ [72] (by decide +kernel) (by decide +kernel)
set_option maxRecDepth 20000 in
theorem gX6_would_X6_at : GoodIn wsX6_would (va_wsS RX6 63 yX6_at wsX6_at) := goodIn_app (goodIn_of _ (by decide +kernel)) ggX6_would_X6_at
set_option maxRecDepth 20000 in
theorem ggX6_would_X6_sets : GoodIn wsX6_would wsX6_sets := goodIn_r _ [76, 2, 42, 43, 44, 5, 45, 70, 71, 72, 77, 78, 79, 80, 81, 82, 83, 120, 121, 122, 123, 124, 125, 126, 127, 128, 129, 130, 131] (by decide +kernel) (by decide +kernel)
set_option maxRecDepth 20000 in
theorem gX6_would_X6_sets : GoodIn wsX6_would (wsV RX6 233 RX6 yX6_sets wsX6_sets) := goodIn_app (goodIn_of _ (by decide +kernel)) ggX6_would_X6_sets
set_option maxRecDepth 20000 in
theorem ggX6_would_X6_places : GoodIn wsX6_would wsX6_places := goodIn_r _ [18, 19, 20, 21, 5, 22, 23, 24, 25, 26, 2, 27, 28, 29, 30, 31, 32, 33, 34, 35, 36, 37, 38, 39, 40, 41, 42, 43, 44, 45, 46, 47, 48, 49, 50, 51, 52, 53, 54, 55, 56, 57, 58, 59, 60, 120, 121, 122, 123, 124, 125, 126, 127, 128, 129, 130, 131] (by decide +kernel) (by decide +kernel)
set_option maxRecDepth 20000 in
theorem gX6_would_X6_places : GoodIn wsX6_would (wsV RX6 116 RX6 yX6_places wsX6_places) := goodIn_app (goodIn_of _ (by decide +kernel)) ggX6_would_X6_places
set_option maxRecDepth 20000 in
theorem ggX6_would_X6_lessThan : GoodIn wsX6_would wsX6_lessThan := goodIn_r _ [87, 88, 89, 90, 5, 91, 92, 93, 94, 95, 2, 27, 28, 29, 30, 35, 36, 37, 31, 32, 33, 34, 50, 51, 52, 53, 96, 97, 98, 99, 100, 101, 102, 103, 104, 105, 106, 107, 70, 71, 72, 108, 109, 110, 111, 77, 78, 79, 80, 81, 82, 83, 112, 113, 114, 115, 116, 117, 118, 119, 69, 120, 121, 122, 123, 124, 125, 126, 127, 128, 129, 130, 131] (by decide +kernel) (by decide +kernel)
set_option maxRecDepth 20000 in
theorem gX6_would_X6_lessThan : GoodIn wsX6_would (wsV RX6 215 RX6 yX6_lessThan wsX6_lessThan) := goodIn_app (goodIn_of _ (by decide +kernel)) ggX6_would_X6_lessThan
theorem dX6_would_0 : decode cX6_would 0 = .ok (.iload_n 1, 1) := by decide +kernel
theorem dX6_would_1 : decode cX6_would 1 = .ok (.invokestatic 195, 3) := by decide +kernel
theorem dX6_would_4 : decode cX6_would 4 = .ok (.ifCond .ne 6, 3) := by decide +kernel
theorem dX6_would_7 : decode cX6_would 7 = .ok (.ldc 198, 2) := by decide +kernel
theorem dX6_would_9 : decode cX6_would 9 = .ok (.ireturn, 1) := by decide +kernel
theorem dX6_would_10 : decode cX6_would 10 = .ok (.aload_n 0, 1) := by decide +kernel
theorem dX6_would_11 : decode cX6_would 11 = .ok (.getfield 7, 3) := by decide +kernel
theorem dX6_would_14 : decode cX6_would 14 = .ok (.sipush 170, 3) := by decide +kernel
theorem dX6_would_17 : decode cX6_would 17 = .ok (.laload, 1) := by decide +kernel
theorem dX6_would_18 : decode cX6_would 18 = .ok (.l2i, 1) := by decide +kernel
theorem dX6_would_19 : decode cX6_would 19 = .ok (.istore_n 3, 1) := by decide +kernel
theorem dX6_would_20 : decode cX6_would 20 = .ok (.aload_n 0, 1) := by decide +kernel
theorem dX6_would_21 : decode cX6_would 21 = .ok (.iload_n 2, 1) := by decide +kernel
theorem dX6_would_22 : decode cX6_would 22 = .ok (.invokevirtual 212, 3) := by decide +kernel
theorem dX6_would_25 : decode cX6_would 25 = .ok (.ifCond .eq 30, 3) := by decide +kernel
theorem dX6_would_28 : decode cX6_would 28 = .ok (.aload_n 0, 1) := by decide +kernel
theorem dX6_would_29 : decode cX6_would 29 = .ok (.iload_n 1, 1) := by decide +kernel
theorem dX6_would_30 : decode cX6_would 30 = .ok (.iload_n 2, 1) := by decide +kernel
theorem dX6_would_31 : decode cX6_would 31 = .ok (.i2l, 1) := by decide +kernel
theorem dX6_would_32 : decode cX6_would 32 = .ok (.invokevirtual 203, 3) := by decide +kernel
theorem dX6_would_35 : decode cX6_would 35 = .ok (.ifCond .gt 20, 3) := by decide +kernel
theorem dX6_would_38 : decode cX6_would 38 = .ok (.aload_n 0, 1) := by decide +kernel
theorem dX6_would_39 : decode cX6_would 39 = .ok (.iload_n 1, 1) := by decide +kernel
theorem dX6_would_40 : decode cX6_would 40 = .ok (.iload_n 3, 1) := by decide +kernel
theorem dX6_would_41 : decode cX6_would 41 = .ok (.aload_n 0, 1) := by decide +kernel
theorem dX6_would_42 : decode cX6_would 42 = .ok (.getfield 7, 3) := by decide +kernel
theorem dX6_would_45 : decode cX6_would 45 = .ok (.sipush 171, 3) := by decide +kernel
theorem dX6_would_48 : decode cX6_would 48 = .ok (.laload, 1) := by decide +kernel
theorem dX6_would_49 : decode cX6_would 49 = .ok (.invokevirtual 229, 3) := by decide +kernel
theorem dX6_would_52 : decode cX6_would 52 = .ok (.ifCond .ne 5, 3) := by decide +kernel
theorem dX6_would_55 : decode cX6_would 55 = .ok (.iconst (-1), 1) := by decide +kernel
theorem dX6_would_56 : decode cX6_would 56 = .ok (.ireturn, 1) := by decide +kernel
theorem dX6_would_57 : decode cX6_would 57 = .ok (.aload_n 0, 1) := by decide +kernel
theorem dX6_would_58 : decode cX6_would 58 = .ok (.getfield 7, 3) := by decide +kernel
theorem dX6_would_61 : decode cX6_would 61 = .ok (.bipush 12, 2) := by decide +kernel
theorem dX6_would_63 : decode cX6_would 63 = .ok (.iload_n 1, 1) := by decide +kernel
theorem dX6_would_64 : decode cX6_would 64 = .ok (.iload_n 2, 1) := by decide +kernel
theorem dX6_would_65 : decode cX6_would 65 = .ok (.invokestatic 63, 3) := by decide +kernel
theorem dX6_would_68 : decode cX6_would 68 = .ok (.iadd, 1) := by decide +kernel
theorem dX6_would_69 : decode cX6_would 69 = .ok (.laload, 1) := by decide +kernel
theorem dX6_would_70 : decode cX6_would 70 = .ok (.lstore 4, 2) := by decide +kernel
theorem dX6_would_72 : decode cX6_would 72 = .ok (.aload_n 0, 1) := by decide +kernel
theorem dX6_would_73 : decode cX6_would 73 = .ok (.getfield 7, 3) := by decide +kernel
theorem dX6_would_76 : decode cX6_would 76 = .ok (.bipush 84, 2) := by decide +kernel
theorem dX6_would_78 : decode cX6_would 78 = .ok (.iload_n 1, 1) := by decide +kernel
theorem dX6_would_79 : decode cX6_would 79 = .ok (.iload_n 2, 1) := by decide +kernel
theorem dX6_would_80 : decode cX6_would 80 = .ok (.invokestatic 63, 3) := by decide +kernel
theorem dX6_would_83 : decode cX6_would 83 = .ok (.iadd, 1) := by decide +kernel
theorem dX6_would_84 : decode cX6_would 84 = .ok (.laload, 1) := by decide +kernel
theorem dX6_would_85 : decode cX6_would 85 = .ok (.lstore 6, 2) := by decide +kernel
theorem dX6_would_87 : decode cX6_would 87 = .ok (.aload_n 0, 1) := by decide +kernel
theorem dX6_would_88 : decode cX6_would 88 = .ok (.iload_n 1, 1) := by decide +kernel
theorem dX6_would_89 : decode cX6_would 89 = .ok (.iload_n 2, 1) := by decide +kernel
theorem dX6_would_90 : decode cX6_would 90 = .ok (.iload_n 3, 1) := by decide +kernel
theorem dX6_would_91 : decode cX6_would 91 = .ok (.aload_n 0, 1) := by decide +kernel
theorem dX6_would_92 : decode cX6_would 92 = .ok (.getfield 7, 3) := by decide +kernel
theorem dX6_would_95 : decode cX6_would 95 = .ok (.sipush 171, 3) := by decide +kernel
theorem dX6_would_98 : decode cX6_would 98 = .ok (.laload, 1) := by decide +kernel
theorem dX6_would_99 : decode cX6_would 99 = .ok (.invokevirtual 233, 3) := by decide +kernel
theorem dX6_would_102 : decode cX6_would 102 = .ok (.aload_n 0, 1) := by decide +kernel
theorem dX6_would_103 : decode cX6_would 103 = .ok (.iload_n 2, 1) := by decide +kernel
theorem dX6_would_104 : decode cX6_would 104 = .ok (.aload_n 0, 1) := by decide +kernel
theorem dX6_would_105 : decode cX6_would 105 = .ok (.invokevirtual 116, 3) := by decide +kernel
theorem dX6_would_108 : decode cX6_would 108 = .ok (.invokevirtual 215, 3) := by decide +kernel
theorem dX6_would_111 : decode cX6_would 111 = .ok (.istore 8, 2) := by decide +kernel
theorem dX6_would_113 : decode cX6_would 113 = .ok (.aload_n 0, 1) := by decide +kernel
theorem dX6_would_114 : decode cX6_would 114 = .ok (.getfield 7, 3) := by decide +kernel
theorem dX6_would_117 : decode cX6_would 117 = .ok (.bipush 12, 2) := by decide +kernel
theorem dX6_would_119 : decode cX6_would 119 = .ok (.iload_n 1, 1) := by decide +kernel
theorem dX6_would_120 : decode cX6_would 120 = .ok (.iload_n 2, 1) := by decide +kernel
theorem dX6_would_121 : decode cX6_would 121 = .ok (.invokestatic 63, 3) := by decide +kernel
theorem dX6_would_124 : decode cX6_would 124 = .ok (.iadd, 1) := by decide +kernel
theorem dX6_would_125 : decode cX6_would 125 = .ok (.lload 4, 2) := by decide +kernel
theorem dX6_would_127 : decode cX6_would 127 = .ok (.lastore, 1) := by decide +kernel
theorem dX6_would_128 : decode cX6_would 128 = .ok (.aload_n 0, 1) := by decide +kernel
theorem dX6_would_129 : decode cX6_would 129 = .ok (.getfield 7, 3) := by decide +kernel
theorem dX6_would_132 : decode cX6_would 132 = .ok (.bipush 84, 2) := by decide +kernel
theorem dX6_would_134 : decode cX6_would 134 = .ok (.iload_n 1, 1) := by decide +kernel
theorem dX6_would_135 : decode cX6_would 135 = .ok (.iload_n 2, 1) := by decide +kernel
theorem dX6_would_136 : decode cX6_would 136 = .ok (.invokestatic 63, 3) := by decide +kernel
theorem dX6_would_139 : decode cX6_would 139 = .ok (.iadd, 1) := by decide +kernel
theorem dX6_would_140 : decode cX6_would 140 = .ok (.lload 6, 2) := by decide +kernel
theorem dX6_would_142 : decode cX6_would 142 = .ok (.lastore, 1) := by decide +kernel
theorem dX6_would_143 : decode cX6_would 143 = .ok (.iload 8, 2) := by decide +kernel
theorem dX6_would_145 : decode cX6_would 145 = .ok (.ireturn, 1) := by decide +kernel
set_option maxRecDepth 20000 in
theorem ggX6_lay_X6_isSlot : GoodIn wsX6_lay wsX6_isSlot := goodIn_r _ [10, 11, 12, 13, 9, 14] (by decide +kernel) (by decide +kernel)
set_option maxRecDepth 20000 in
theorem gX6_lay_X6_isSlot : GoodIn wsX6_lay (va_wsS RX6 195 yX6_isSlot wsX6_isSlot) := goodIn_app (goodIn_of _ (by decide +kernel)) ggX6_lay_X6_isSlot
set_option maxRecDepth 20000 in
theorem ggX6_lay_X6_in : GoodIn wsX6_lay wsX6_in := goodIn_r _ [14] (by decide +kernel) (by decide +kernel)
set_option maxRecDepth 20000 in
theorem gX6_lay_X6_in : GoodIn wsX6_lay (va_wsS RX6 74 yX6_in wsX6_in) := goodIn_app (goodIn_of _ (by decide +kernel)) ggX6_lay_X6_in
set_option maxRecDepth 20000 in
theorem ggX6_lay_X6_minds : GoodIn wsX6_lay wsX6_minds := goodIn_r _ [18, 19, 5, 20, 21, 22, 9, 23, 31, 32, 33, 34, 35, 36, 37, 38, 39, 40, 41, 42] (by decide +kernel) (by decide +kernel)
set_option maxRecDepth 20000 in
theorem gX6_lay_X6_minds : GoodIn wsX6_lay (wsV RX6 239 RX6 yX6_minds wsX6_minds) := goodIn_app (goodIn_of _ (by decide +kernel)) ggX6_lay_X6_minds
set_option maxRecDepth 20000 in
theorem ggX6_lay_X6_kind : GoodIn wsX6_lay wsX6_kind := goodIn_r _ [27, 5, 31, 32, 33, 34, 35, 36, 37, 38, 39, 40, 41, 42] (by decide +kernel) (by decide +kernel)
set_option maxRecDepth 20000 in
theorem gX6_lay_X6_kind : GoodIn wsX6_lay (wsV RX6 59 RX6 yX6_kind wsX6_kind) := goodIn_app (goodIn_of _ (by decide +kernel)) ggX6_lay_X6_kind
set_option maxRecDepth 20000 in
theorem ggX6_lay_X6_at : GoodIn wsX6_lay wsX6_at := goodIn_r _ [30] (by decide +kernel) (by decide +kernel)
set_option maxRecDepth 20000 in
theorem gX6_lay_X6_at : GoodIn wsX6_lay (va_wsS RX6 63 yX6_at wsX6_at) := goodIn_app (goodIn_of _ (by decide +kernel)) ggX6_lay_X6_at
theorem dX6_lay_0 : decode cX6_lay 0 = .ok (.iload_n 1, 1) := by decide +kernel
theorem dX6_lay_1 : decode cX6_lay 1 = .ok (.invokestatic 195, 3) := by decide +kernel
theorem dX6_lay_4 : decode cX6_lay 4 = .ok (.ifCond .ne 6, 3) := by decide +kernel
theorem dX6_lay_7 : decode cX6_lay 7 = .ok (.ldc 198, 2) := by decide +kernel
theorem dX6_lay_9 : decode cX6_lay 9 = .ok (.ireturn, 1) := by decide +kernel
theorem dX6_lay_10 : decode cX6_lay 10 = .ok (.iload_n 2, 1) := by decide +kernel
theorem dX6_lay_11 : decode cX6_lay 11 = .ok (.i2l, 1) := by decide +kernel
theorem dX6_lay_12 : decode cX6_lay 12 = .ok (.lconst 0, 1) := by decide +kernel
theorem dX6_lay_13 : decode cX6_lay 13 = .ok (.ldc2_w 39, 3) := by decide +kernel
theorem dX6_lay_16 : decode cX6_lay 16 = .ok (.invokestatic 74, 3) := by decide +kernel
theorem dX6_lay_19 : decode cX6_lay 19 = .ok (.ifCond .eq 15, 3) := by decide +kernel
theorem dX6_lay_22 : decode cX6_lay 22 = .ok (.iload_n 3, 1) := by decide +kernel
theorem dX6_lay_23 : decode cX6_lay 23 = .ok (.i2l, 1) := by decide +kernel
theorem dX6_lay_24 : decode cX6_lay 24 = .ok (.lconst 0, 1) := by decide +kernel
theorem dX6_lay_25 : decode cX6_lay 25 = .ok (.ldc2_w 237, 3) := by decide +kernel
theorem dX6_lay_28 : decode cX6_lay 28 = .ok (.invokestatic 74, 3) := by decide +kernel
theorem dX6_lay_31 : decode cX6_lay 31 = .ok (.ifCond .ne 6, 3) := by decide +kernel
theorem dX6_lay_34 : decode cX6_lay 34 = .ok (.ldc 192, 2) := by decide +kernel
theorem dX6_lay_36 : decode cX6_lay 36 = .ok (.ireturn, 1) := by decide +kernel
theorem dX6_lay_37 : decode cX6_lay 37 = .ok (.aload_n 0, 1) := by decide +kernel
theorem dX6_lay_38 : decode cX6_lay 38 = .ok (.invokevirtual 239, 3) := by decide +kernel
theorem dX6_lay_41 : decode cX6_lay 41 = .ok (.aload_n 0, 1) := by decide +kernel
theorem dX6_lay_42 : decode cX6_lay 42 = .ok (.iload_n 1, 1) := by decide +kernel
theorem dX6_lay_43 : decode cX6_lay 43 = .ok (.invokevirtual 59, 3) := by decide +kernel
theorem dX6_lay_46 : decode cX6_lay 46 = .ok (.istore 4, 2) := by decide +kernel
theorem dX6_lay_48 : decode cX6_lay 48 = .ok (.aload_n 0, 1) := by decide +kernel
theorem dX6_lay_49 : decode cX6_lay 49 = .ok (.getfield 7, 3) := by decide +kernel
theorem dX6_lay_52 : decode cX6_lay 52 = .ok (.iconst 0, 1) := by decide +kernel
theorem dX6_lay_53 : decode cX6_lay 53 = .ok (.iload_n 1, 1) := by decide +kernel
theorem dX6_lay_54 : decode cX6_lay 54 = .ok (.iadd, 1) := by decide +kernel
theorem dX6_lay_55 : decode cX6_lay 55 = .ok (.iload_n 2, 1) := by decide +kernel
theorem dX6_lay_56 : decode cX6_lay 56 = .ok (.i2l, 1) := by decide +kernel
theorem dX6_lay_57 : decode cX6_lay 57 = .ok (.lastore, 1) := by decide +kernel
theorem dX6_lay_58 : decode cX6_lay 58 = .ok (.aload_n 0, 1) := by decide +kernel
theorem dX6_lay_59 : decode cX6_lay 59 = .ok (.getfield 7, 3) := by decide +kernel
theorem dX6_lay_62 : decode cX6_lay 62 = .ok (.bipush 6, 2) := by decide +kernel
theorem dX6_lay_64 : decode cX6_lay 64 = .ok (.iload_n 1, 1) := by decide +kernel
theorem dX6_lay_65 : decode cX6_lay 65 = .ok (.iadd, 1) := by decide +kernel
theorem dX6_lay_66 : decode cX6_lay 66 = .ok (.iload_n 3, 1) := by decide +kernel
theorem dX6_lay_67 : decode cX6_lay 67 = .ok (.i2l, 1) := by decide +kernel
theorem dX6_lay_68 : decode cX6_lay 68 = .ok (.lastore, 1) := by decide +kernel
theorem dX6_lay_69 : decode cX6_lay 69 = .ok (.iconst 0, 1) := by decide +kernel
theorem dX6_lay_70 : decode cX6_lay 70 = .ok (.istore 5, 2) := by decide +kernel
theorem dX6_lay_72 : decode cX6_lay 72 = .ok (.iload 5, 2) := by decide +kernel
theorem dX6_lay_74 : decode cX6_lay 74 = .ok (.bipush 12, 2) := by decide +kernel
theorem dX6_lay_76 : decode cX6_lay 76 = .ok (.if_icmp .ge 52, 3) := by decide +kernel
theorem dX6_lay_79 : decode cX6_lay 79 = .ok (.aload_n 0, 1) := by decide +kernel
theorem dX6_lay_80 : decode cX6_lay 80 = .ok (.getfield 7, 3) := by decide +kernel
theorem dX6_lay_83 : decode cX6_lay 83 = .ok (.bipush 12, 2) := by decide +kernel
theorem dX6_lay_85 : decode cX6_lay 85 = .ok (.iload_n 1, 1) := by decide +kernel
theorem dX6_lay_86 : decode cX6_lay 86 = .ok (.iload 5, 2) := by decide +kernel
theorem dX6_lay_88 : decode cX6_lay 88 = .ok (.invokestatic 63, 3) := by decide +kernel
theorem dX6_lay_91 : decode cX6_lay 91 = .ok (.iadd, 1) := by decide +kernel
theorem dX6_lay_92 : decode cX6_lay 92 = .ok (.iload_n 2, 1) := by decide +kernel
theorem dX6_lay_93 : decode cX6_lay 93 = .ok (.bipush 7, 2) := by decide +kernel
theorem dX6_lay_95 : decode cX6_lay 95 = .ok (.if_icmp .gt 8, 3) := by decide +kernel
theorem dX6_lay_98 : decode cX6_lay 98 = .ok (.iload_n 2, 1) := by decide +kernel
theorem dX6_lay_99 : decode cX6_lay 99 = .ok (.i2l, 1) := by decide +kernel
theorem dX6_lay_100 : decode cX6_lay 100 = .ok (.goto 6, 3) := by decide +kernel
theorem dX6_lay_103 : decode cX6_lay 103 = .ok (.ldc2_w 41, 3) := by decide +kernel
theorem dX6_lay_106 : decode cX6_lay 106 = .ok (.lastore, 1) := by decide +kernel
theorem dX6_lay_107 : decode cX6_lay 107 = .ok (.aload_n 0, 1) := by decide +kernel
theorem dX6_lay_108 : decode cX6_lay 108 = .ok (.getfield 7, 3) := by decide +kernel
theorem dX6_lay_111 : decode cX6_lay 111 = .ok (.bipush 84, 2) := by decide +kernel
theorem dX6_lay_113 : decode cX6_lay 113 = .ok (.iload_n 1, 1) := by decide +kernel
theorem dX6_lay_114 : decode cX6_lay 114 = .ok (.iload 5, 2) := by decide +kernel
theorem dX6_lay_116 : decode cX6_lay 116 = .ok (.invokestatic 63, 3) := by decide +kernel
theorem dX6_lay_119 : decode cX6_lay 119 = .ok (.iadd, 1) := by decide +kernel
theorem dX6_lay_120 : decode cX6_lay 120 = .ok (.lconst 0, 1) := by decide +kernel
theorem dX6_lay_121 : decode cX6_lay 121 = .ok (.lastore, 1) := by decide +kernel
theorem dX6_lay_122 : decode cX6_lay 122 = .ok (.iinc 5 1, 3) := by decide +kernel
theorem dX6_lay_125 : decode cX6_lay 125 = .ok (.goto (-53), 3) := by decide +kernel
theorem dX6_lay_128 : decode cX6_lay 128 = .ok (.iload 4, 2) := by decide +kernel
theorem dX6_lay_130 : decode cX6_lay 130 = .ok (.ireturn, 1) := by decide +kernel
set_option maxRecDepth 20000 in
theorem ggX6_take_X6_in : GoodIn wsX6_take wsX6_in := goodIn_r _ [9] (by decide +kernel) (by decide +kernel)
set_option maxRecDepth 20000 in
theorem gX6_take_X6_in : GoodIn wsX6_take (va_wsS RX6 74 yX6_in wsX6_in) := goodIn_app (goodIn_of _ (by decide +kernel)) ggX6_take_X6_in
set_option maxRecDepth 20000 in
theorem ggX6_take_X6_minds : GoodIn wsX6_take wsX6_minds := goodIn_r _ [13, 14, 5, 15, 16, 17, 8, 18, 27, 28, 29, 30, 31, 32, 33, 34, 35, 36, 37, 38] (by decide +kernel) (by decide +kernel)
set_option maxRecDepth 20000 in
theorem gX6_take_X6_minds : GoodIn wsX6_take (wsV RX6 239 RX6 yX6_minds wsX6_minds) := goodIn_app (goodIn_of _ (by decide +kernel)) ggX6_take_X6_minds
set_option maxRecDepth 20000 in
theorem ggX6_take_X6_madeOf : GoodIn wsX6_take wsX6_madeOf := goodIn_r _ [21, 22, 23, 24, 8, 25, 26] (by decide +kernel) (by decide +kernel)
set_option maxRecDepth 20000 in
theorem gX6_take_X6_madeOf : GoodIn wsX6_take (va_wsS RX6 242 yX6_madeOf wsX6_madeOf) := goodIn_app (goodIn_of _ (by decide +kernel)) ggX6_take_X6_madeOf
theorem dX6_take_0 : decode cX6_take 0 = .ok (.iload_n 1, 1) := by decide +kernel
theorem dX6_take_1 : decode cX6_take 1 = .ok (.i2l, 1) := by decide +kernel
theorem dX6_take_2 : decode cX6_take 2 = .ok (.lconst 0, 1) := by decide +kernel
theorem dX6_take_3 : decode cX6_take 3 = .ok (.ldc2_w 41, 3) := by decide +kernel
theorem dX6_take_6 : decode cX6_take 6 = .ok (.invokestatic 74, 3) := by decide +kernel
theorem dX6_take_9 : decode cX6_take 9 = .ok (.ifCond .ne 6, 3) := by decide +kernel
theorem dX6_take_12 : decode cX6_take 12 = .ok (.ldc 192, 2) := by decide +kernel
theorem dX6_take_14 : decode cX6_take 14 = .ok (.ireturn, 1) := by decide +kernel
theorem dX6_take_15 : decode cX6_take 15 = .ok (.iload_n 1, 1) := by decide +kernel
theorem dX6_take_16 : decode cX6_take 16 = .ok (.bipush 8, 2) := by decide +kernel
theorem dX6_take_18 : decode cX6_take 18 = .ok (.if_icmp .ne 17, 3) := by decide +kernel
theorem dX6_take_21 : decode cX6_take 21 = .ok (.lload_n 2, 1) := by decide +kernel
theorem dX6_take_22 : decode cX6_take 22 = .ok (.lconst 0, 1) := by decide +kernel
theorem dX6_take_23 : decode cX6_take 23 = .ok (.ldc2_w 207, 3) := by decide +kernel
theorem dX6_take_26 : decode cX6_take 26 = .ok (.invokestatic 74, 3) := by decide +kernel
theorem dX6_take_29 : decode cX6_take 29 = .ok (.ifCond .ne 6, 3) := by decide +kernel
theorem dX6_take_32 : decode cX6_take 32 = .ok (.ldc 198, 2) := by decide +kernel
theorem dX6_take_34 : decode cX6_take 34 = .ok (.ireturn, 1) := by decide +kernel
theorem dX6_take_35 : decode cX6_take 35 = .ok (.aload_n 0, 1) := by decide +kernel
theorem dX6_take_36 : decode cX6_take 36 = .ok (.invokevirtual 239, 3) := by decide +kernel
theorem dX6_take_39 : decode cX6_take 39 = .ok (.aload_n 0, 1) := by decide +kernel
theorem dX6_take_40 : decode cX6_take 40 = .ok (.getfield 7, 3) := by decide +kernel
theorem dX6_take_43 : decode cX6_take 43 = .ok (.sipush 170, 3) := by decide +kernel
theorem dX6_take_46 : decode cX6_take 46 = .ok (.laload, 1) := by decide +kernel
theorem dX6_take_47 : decode cX6_take 47 = .ok (.l2i, 1) := by decide +kernel
theorem dX6_take_48 : decode cX6_take 48 = .ok (.istore 4, 2) := by decide +kernel
theorem dX6_take_50 : decode cX6_take 50 = .ok (.aload_n 0, 1) := by decide +kernel
theorem dX6_take_51 : decode cX6_take 51 = .ok (.getfield 7, 3) := by decide +kernel
theorem dX6_take_54 : decode cX6_take 54 = .ok (.sipush 170, 3) := by decide +kernel
theorem dX6_take_57 : decode cX6_take 57 = .ok (.iload_n 1, 1) := by decide +kernel
theorem dX6_take_58 : decode cX6_take 58 = .ok (.i2l, 1) := by decide +kernel
theorem dX6_take_59 : decode cX6_take 59 = .ok (.lastore, 1) := by decide +kernel
theorem dX6_take_60 : decode cX6_take 60 = .ok (.aload_n 0, 1) := by decide +kernel
theorem dX6_take_61 : decode cX6_take 61 = .ok (.getfield 7, 3) := by decide +kernel
theorem dX6_take_64 : decode cX6_take 64 = .ok (.sipush 171, 3) := by decide +kernel
theorem dX6_take_67 : decode cX6_take 67 = .ok (.iload_n 1, 1) := by decide +kernel
theorem dX6_take_68 : decode cX6_take 68 = .ok (.bipush 9, 2) := by decide +kernel
theorem dX6_take_70 : decode cX6_take 70 = .ok (.if_icmp .ne 7, 3) := by decide +kernel
theorem dX6_take_73 : decode cX6_take 73 = .ok (.lconst 0, 1) := by decide +kernel
theorem dX6_take_74 : decode cX6_take 74 = .ok (.goto 8, 3) := by decide +kernel
theorem dX6_take_77 : decode cX6_take 77 = .ok (.iload_n 1, 1) := by decide +kernel
theorem dX6_take_78 : decode cX6_take 78 = .ok (.lload_n 2, 1) := by decide +kernel
theorem dX6_take_79 : decode cX6_take 79 = .ok (.invokestatic 242, 3) := by decide +kernel
theorem dX6_take_82 : decode cX6_take 82 = .ok (.lastore, 1) := by decide +kernel
theorem dX6_take_83 : decode cX6_take 83 = .ok (.iload 4, 2) := by decide +kernel
theorem dX6_take_85 : decode cX6_take 85 = .ok (.ireturn, 1) := by decide +kernel
set_option maxRecDepth 20000 in
theorem ggX6_pick_X6_isSlot : GoodIn wsX6_pick wsX6_isSlot := goodIn_r _ [8, 9, 10, 11, 7, 12] (by decide +kernel) (by decide +kernel)
set_option maxRecDepth 20000 in
theorem gX6_pick_X6_isSlot : GoodIn wsX6_pick (va_wsS RX6 195 yX6_isSlot wsX6_isSlot) := goodIn_app (goodIn_of _ (by decide +kernel)) ggX6_pick_X6_isSlot
set_option maxRecDepth 20000 in
theorem ggX6_pick_X6_in : GoodIn wsX6_pick wsX6_in := goodIn_r _ [12] (by decide +kernel) (by decide +kernel)
set_option maxRecDepth 20000 in
theorem gX6_pick_X6_in : GoodIn wsX6_pick (va_wsS RX6 74 yX6_in wsX6_in) := goodIn_app (goodIn_of _ (by decide +kernel)) ggX6_pick_X6_in
set_option maxRecDepth 20000 in
theorem ggX6_pick_X6_lacks : GoodIn wsX6_pick wsX6_lacks := goodIn_r _ [16, 17, 18, 19, 7, 20, 4, 21, 22, 23, 24, 25, 26, 27, 28, 10, 11, 12, 67, 68, 69, 70, 71, 72, 73, 74, 75, 76, 77, 78] (by decide +kernel) (by decide +kernel)
set_option maxRecDepth 20000 in
theorem gX6_pick_X6_lacks : GoodIn wsX6_pick (wsV RX6 203 RX6 yX6_lacks wsX6_lacks) := goodIn_app (goodIn_of _ (by decide +kernel)) ggX6_pick_X6_lacks
set_option maxRecDepth 20000 in
theorem ggX6_pick_X6_reads : GoodIn wsX6_pick wsX6_reads := goodIn_r _ [32, 17, 18, 19, 7, 20, 4, 33, 34, 35, 67, 68, 69, 70, 71, 72, 73, 74, 75, 76, 77, 78] (by decide +kernel) (by decide +kernel)
set_option maxRecDepth 20000 in
theorem gX6_pick_X6_reads : GoodIn wsX6_pick (wsV RX6 113 RX6 yX6_reads wsX6_reads) := goodIn_app (goodIn_of _ (by decide +kernel)) ggX6_pick_X6_reads
set_option maxRecDepth 20000 in
theorem ggX6_pick_X6_minds : GoodIn wsX6_pick wsX6_minds := goodIn_r _ [39, 40, 4, 41, 42, 43, 7, 44, 67, 68, 69, 70, 71, 72, 73, 74, 75, 76, 77, 78] (by decide +kernel) (by decide +kernel)
set_option maxRecDepth 20000 in
theorem gX6_pick_X6_minds : GoodIn wsX6_pick (wsV RX6 239 RX6 yX6_minds wsX6_minds) := goodIn_app (goodIn_of _ (by decide +kernel)) ggX6_pick_X6_minds
set_option maxRecDepth 20000 in
theorem ggX6_pick_X6_sortRead : GoodIn wsX6_pick wsX6_sortRead := goodIn_r _ [48, 49, 50, 51, 7, 52, 4, 53, 54, 55, 67, 68, 69, 70, 71, 72, 73, 74, 75, 76, 77, 78] (by decide +kernel) (by decide +kernel)
set_option maxRecDepth 20000 in
theorem gX6_pick_X6_sortRead : GoodIn wsX6_pick (wsV RX6 119 RX6 yX6_sortRead wsX6_sortRead) := goodIn_app (goodIn_of _ (by decide +kernel)) ggX6_pick_X6_sortRead
set_option maxRecDepth 20000 in
theorem ggX6_pick_X6_numberRead : GoodIn wsX6_pick wsX6_numberRead := goodIn_r _ [59, 4, 53, 54, 7, 55, 60, 61, 62, 63, 64, 65, 66, 67, 68, 69, 70, 71, 72, 73, 74, 75, 76, 77, 78] (by decide +kernel) (by decide +kernel)
set_option maxRecDepth 20000 in
theorem gX6_pick_X6_numberRead : GoodIn wsX6_pick (wsV RX6 123 RX6 yX6_numberRead wsX6_numberRead) := goodIn_app (goodIn_of _ (by decide +kernel)) ggX6_pick_X6_numberRead
theorem dX6_pick_0 : decode cX6_pick 0 = .ok (.iload_n 1, 1) := by decide +kernel
theorem dX6_pick_1 : decode cX6_pick 1 = .ok (.invokestatic 195, 3) := by decide +kernel
theorem dX6_pick_4 : decode cX6_pick 4 = .ok (.ifCond .ne 6, 3) := by decide +kernel
theorem dX6_pick_7 : decode cX6_pick 7 = .ok (.ldc 198, 2) := by decide +kernel
theorem dX6_pick_9 : decode cX6_pick 9 = .ok (.ireturn, 1) := by decide +kernel
theorem dX6_pick_10 : decode cX6_pick 10 = .ok (.iload_n 3, 1) := by decide +kernel
theorem dX6_pick_11 : decode cX6_pick 11 = .ok (.i2l, 1) := by decide +kernel
theorem dX6_pick_12 : decode cX6_pick 12 = .ok (.lconst 0, 1) := by decide +kernel
theorem dX6_pick_13 : decode cX6_pick 13 = .ok (.ldc2_w 227, 3) := by decide +kernel
theorem dX6_pick_16 : decode cX6_pick 16 = .ok (.invokestatic 74, 3) := by decide +kernel
theorem dX6_pick_19 : decode cX6_pick 19 = .ok (.ifCond .ne 6, 3) := by decide +kernel
theorem dX6_pick_22 : decode cX6_pick 22 = .ok (.ldc 192, 2) := by decide +kernel
theorem dX6_pick_24 : decode cX6_pick 24 = .ok (.ireturn, 1) := by decide +kernel
theorem dX6_pick_25 : decode cX6_pick 25 = .ok (.aload_n 0, 1) := by decide +kernel
theorem dX6_pick_26 : decode cX6_pick 26 = .ok (.iload_n 1, 1) := by decide +kernel
theorem dX6_pick_27 : decode cX6_pick 27 = .ok (.iload_n 2, 1) := by decide +kernel
theorem dX6_pick_28 : decode cX6_pick 28 = .ok (.i2l, 1) := by decide +kernel
theorem dX6_pick_29 : decode cX6_pick 29 = .ok (.invokevirtual 203, 3) := by decide +kernel
theorem dX6_pick_32 : decode cX6_pick 32 = .ok (.istore 4, 2) := by decide +kernel
theorem dX6_pick_34 : decode cX6_pick 34 = .ok (.iload 4, 2) := by decide +kernel
theorem dX6_pick_36 : decode cX6_pick 36 = .ok (.ifCond .ne 16, 3) := by decide +kernel
theorem dX6_pick_39 : decode cX6_pick 39 = .ok (.aload_n 0, 1) := by decide +kernel
theorem dX6_pick_40 : decode cX6_pick 40 = .ok (.iload_n 1, 1) := by decide +kernel
theorem dX6_pick_41 : decode cX6_pick 41 = .ok (.iload_n 3, 1) := by decide +kernel
theorem dX6_pick_42 : decode cX6_pick 42 = .ok (.invokevirtual 113, 3) := by decide +kernel
theorem dX6_pick_45 : decode cX6_pick 45 = .ok (.ifCond .ne 7, 3) := by decide +kernel
theorem dX6_pick_48 : decode cX6_pick 48 = .ok (.iconst 4, 1) := by decide +kernel
theorem dX6_pick_49 : decode cX6_pick 49 = .ok (.goto 5, 3) := by decide +kernel
theorem dX6_pick_52 : decode cX6_pick 52 = .ok (.iload 4, 2) := by decide +kernel
theorem dX6_pick_54 : decode cX6_pick 54 = .ok (.istore 4, 2) := by decide +kernel
theorem dX6_pick_56 : decode cX6_pick 56 = .ok (.iload 4, 2) := by decide +kernel
theorem dX6_pick_58 : decode cX6_pick 58 = .ok (.ifCond .ne 38, 3) := by decide +kernel
theorem dX6_pick_61 : decode cX6_pick 61 = .ok (.aload_n 0, 1) := by decide +kernel
theorem dX6_pick_62 : decode cX6_pick 62 = .ok (.invokevirtual 239, 3) := by decide +kernel
theorem dX6_pick_65 : decode cX6_pick 65 = .ok (.aload_n 0, 1) := by decide +kernel
theorem dX6_pick_66 : decode cX6_pick 66 = .ok (.getfield 7, 3) := by decide +kernel
theorem dX6_pick_69 : decode cX6_pick 69 = .ok (.sipush 170, 3) := by decide +kernel
theorem dX6_pick_72 : decode cX6_pick 72 = .ok (.aload_n 0, 1) := by decide +kernel
theorem dX6_pick_73 : decode cX6_pick 73 = .ok (.iload_n 1, 1) := by decide +kernel
theorem dX6_pick_74 : decode cX6_pick 74 = .ok (.iload_n 2, 1) := by decide +kernel
theorem dX6_pick_75 : decode cX6_pick 75 = .ok (.iload_n 3, 1) := by decide +kernel
theorem dX6_pick_76 : decode cX6_pick 76 = .ok (.invokevirtual 119, 3) := by decide +kernel
theorem dX6_pick_79 : decode cX6_pick 79 = .ok (.i2l, 1) := by decide +kernel
theorem dX6_pick_80 : decode cX6_pick 80 = .ok (.lastore, 1) := by decide +kernel
theorem dX6_pick_81 : decode cX6_pick 81 = .ok (.aload_n 0, 1) := by decide +kernel
theorem dX6_pick_82 : decode cX6_pick 82 = .ok (.getfield 7, 3) := by decide +kernel
theorem dX6_pick_85 : decode cX6_pick 85 = .ok (.sipush 171, 3) := by decide +kernel
theorem dX6_pick_88 : decode cX6_pick 88 = .ok (.aload_n 0, 1) := by decide +kernel
theorem dX6_pick_89 : decode cX6_pick 89 = .ok (.iload_n 1, 1) := by decide +kernel
theorem dX6_pick_90 : decode cX6_pick 90 = .ok (.iload_n 2, 1) := by decide +kernel
theorem dX6_pick_91 : decode cX6_pick 91 = .ok (.iload_n 3, 1) := by decide +kernel
theorem dX6_pick_92 : decode cX6_pick 92 = .ok (.invokevirtual 123, 3) := by decide +kernel
theorem dX6_pick_95 : decode cX6_pick 95 = .ok (.lastore, 1) := by decide +kernel
theorem dX6_pick_96 : decode cX6_pick 96 = .ok (.iload 4, 2) := by decide +kernel
theorem dX6_pick_98 : decode cX6_pick 98 = .ok (.ireturn, 1) := by decide +kernel
set_option maxRecDepth 20000 in
theorem ggX6_put_X6_isSlot : GoodIn wsX6_put wsX6_isSlot := goodIn_r _ [8, 9, 10, 11, 7, 12] (by decide +kernel) (by decide +kernel)
set_option maxRecDepth 20000 in
theorem gX6_put_X6_isSlot : GoodIn wsX6_put (va_wsS RX6 195 yX6_isSlot wsX6_isSlot) := goodIn_app (goodIn_of _ (by decide +kernel)) ggX6_put_X6_isSlot
set_option maxRecDepth 20000 in
theorem ggX6_put_X6_in : GoodIn wsX6_put wsX6_in := goodIn_r _ [12] (by decide +kernel) (by decide +kernel)
set_option maxRecDepth 20000 in
theorem gX6_put_X6_in : GoodIn wsX6_put (va_wsS RX6 74 yX6_in wsX6_in) := goodIn_app (goodIn_of _ (by decide +kernel)) ggX6_put_X6_in
set_option maxRecDepth 20000 in
theorem ggX6_put_X6_lacks : GoodIn wsX6_put wsX6_lacks := goodIn_r _ [16, 17, 18, 19, 7, 20, 3, 21, 22, 23, 24, 25, 26, 27, 28, 10, 11, 12, 60, 61, 62, 63, 64, 65, 66, 67, 68, 69, 70, 71] (by decide +kernel) (by decide +kernel)
set_option maxRecDepth 20000 in
theorem gX6_put_X6_lacks : GoodIn wsX6_put (wsV RX6 203 RX6 yX6_lacks wsX6_lacks) := goodIn_app (goodIn_of _ (by decide +kernel)) ggX6_put_X6_lacks
set_option maxRecDepth 20000 in
theorem ggX6_put_X6_kind : GoodIn wsX6_put wsX6_kind := goodIn_r _ [20, 3, 60, 61, 62, 63, 64, 65, 66, 67, 68, 69, 70, 71] (by decide +kernel) (by decide +kernel)
set_option maxRecDepth 20000 in
theorem gX6_put_X6_kind : GoodIn wsX6_put (wsV RX6 59 RX6 yX6_kind wsX6_kind) := goodIn_app (goodIn_of _ (by decide +kernel)) ggX6_put_X6_kind
set_option maxRecDepth 20000 in
theorem ggX6_put_X6_takes : GoodIn wsX6_put wsX6_takes := goodIn_r _ [32, 33, 17, 18, 19, 7, 20, 3, 34, 35, 36, 60, 61, 62, 63, 64, 65, 66, 67, 68, 69, 70, 71] (by decide +kernel) (by decide +kernel)
set_option maxRecDepth 20000 in
theorem gX6_put_X6_takes : GoodIn wsX6_put (wsV RX6 229 RX6 yX6_takes wsX6_takes) := goodIn_app (goodIn_of _ (by decide +kernel)) ggX6_put_X6_takes
set_option maxRecDepth 20000 in
theorem ggX6_put_X6_minds : GoodIn wsX6_put wsX6_minds := goodIn_r _ [40, 41, 3, 42, 43, 44, 7, 45, 60, 61, 62, 63, 64, 65, 66, 67, 68, 69, 70, 71] (by decide +kernel) (by decide +kernel)
set_option maxRecDepth 20000 in
theorem gX6_put_X6_minds : GoodIn wsX6_put (wsV RX6 239 RX6 yX6_minds wsX6_minds) := goodIn_app (goodIn_of _ (by decide +kernel)) ggX6_put_X6_minds
set_option maxRecDepth 20000 in
theorem ggX6_put_X6_sets : GoodIn wsX6_put wsX6_sets := goodIn_r _ [49, 3, 17, 18, 19, 7, 20, 50, 51, 52, 53, 54, 55, 56, 57, 58, 59, 60, 61, 62, 63, 64, 65, 66, 67, 68, 69, 70, 71] (by decide +kernel) (by decide +kernel)
set_option maxRecDepth 20000 in
theorem gX6_put_X6_sets : GoodIn wsX6_put (wsV RX6 233 RX6 yX6_sets wsX6_sets) := goodIn_app (goodIn_of _ (by decide +kernel)) ggX6_put_X6_sets
theorem dX6_put_0 : decode cX6_put 0 = .ok (.iload_n 1, 1) := by decide +kernel
theorem dX6_put_1 : decode cX6_put 1 = .ok (.invokestatic 195, 3) := by decide +kernel
theorem dX6_put_4 : decode cX6_put 4 = .ok (.ifCond .ne 6, 3) := by decide +kernel
theorem dX6_put_7 : decode cX6_put 7 = .ok (.ldc 198, 2) := by decide +kernel
theorem dX6_put_9 : decode cX6_put 9 = .ok (.ireturn, 1) := by decide +kernel
theorem dX6_put_10 : decode cX6_put 10 = .ok (.iload_n 3, 1) := by decide +kernel
theorem dX6_put_11 : decode cX6_put 11 = .ok (.i2l, 1) := by decide +kernel
theorem dX6_put_12 : decode cX6_put 12 = .ok (.lconst 0, 1) := by decide +kernel
theorem dX6_put_13 : decode cX6_put 13 = .ok (.lconst 1, 1) := by decide +kernel
theorem dX6_put_14 : decode cX6_put 14 = .ok (.invokestatic 74, 3) := by decide +kernel
theorem dX6_put_17 : decode cX6_put 17 = .ok (.ifCond .ne 6, 3) := by decide +kernel
theorem dX6_put_20 : decode cX6_put 20 = .ok (.ldc 192, 2) := by decide +kernel
theorem dX6_put_22 : decode cX6_put 22 = .ok (.ireturn, 1) := by decide +kernel
theorem dX6_put_23 : decode cX6_put 23 = .ok (.aload_n 0, 1) := by decide +kernel
theorem dX6_put_24 : decode cX6_put 24 = .ok (.getfield 7, 3) := by decide +kernel
theorem dX6_put_27 : decode cX6_put 27 = .ok (.sipush 170, 3) := by decide +kernel
theorem dX6_put_30 : decode cX6_put 30 = .ok (.laload, 1) := by decide +kernel
theorem dX6_put_31 : decode cX6_put 31 = .ok (.l2i, 1) := by decide +kernel
theorem dX6_put_32 : decode cX6_put 32 = .ok (.istore 4, 2) := by decide +kernel
theorem dX6_put_34 : decode cX6_put 34 = .ok (.iload_n 3, 1) := by decide +kernel
theorem dX6_put_35 : decode cX6_put 35 = .ok (.iconst 1, 1) := by decide +kernel
theorem dX6_put_36 : decode cX6_put 36 = .ok (.if_icmp .ne 13, 3) := by decide +kernel
theorem dX6_put_39 : decode cX6_put 39 = .ok (.iload 4, 2) := by decide +kernel
theorem dX6_put_41 : decode cX6_put 41 = .ok (.bipush 7, 2) := by decide +kernel
theorem dX6_put_43 : decode cX6_put 43 = .ok (.if_icmp .le 6, 3) := by decide +kernel
theorem dX6_put_46 : decode cX6_put 46 = .ok (.ldc 246, 2) := by decide +kernel
theorem dX6_put_48 : decode cX6_put 48 = .ok (.ireturn, 1) := by decide +kernel
theorem dX6_put_49 : decode cX6_put 49 = .ok (.aload_n 0, 1) := by decide +kernel
theorem dX6_put_50 : decode cX6_put 50 = .ok (.iload_n 1, 1) := by decide +kernel
theorem dX6_put_51 : decode cX6_put 51 = .ok (.iload_n 2, 1) := by decide +kernel
theorem dX6_put_52 : decode cX6_put 52 = .ok (.i2l, 1) := by decide +kernel
theorem dX6_put_53 : decode cX6_put 53 = .ok (.invokevirtual 203, 3) := by decide +kernel
theorem dX6_put_56 : decode cX6_put 56 = .ok (.istore 5, 2) := by decide +kernel
theorem dX6_put_58 : decode cX6_put 58 = .ok (.iload 5, 2) := by decide +kernel
theorem dX6_put_60 : decode cX6_put 60 = .ok (.ifCond .ne 40, 3) := by decide +kernel
theorem dX6_put_63 : decode cX6_put 63 = .ok (.iload_n 3, 1) := by decide +kernel
theorem dX6_put_64 : decode cX6_put 64 = .ok (.iconst 1, 1) := by decide +kernel
theorem dX6_put_65 : decode cX6_put 65 = .ok (.if_icmp .ne 13, 3) := by decide +kernel
theorem dX6_put_68 : decode cX6_put 68 = .ok (.aload_n 0, 1) := by decide +kernel
theorem dX6_put_69 : decode cX6_put 69 = .ok (.iload_n 1, 1) := by decide +kernel
theorem dX6_put_70 : decode cX6_put 70 = .ok (.invokevirtual 59, 3) := by decide +kernel
theorem dX6_put_73 : decode cX6_put 73 = .ok (.bipush 7, 2) := by decide +kernel
theorem dX6_put_75 : decode cX6_put 75 = .ok (.if_icmp .gt 21, 3) := by decide +kernel
theorem dX6_put_78 : decode cX6_put 78 = .ok (.aload_n 0, 1) := by decide +kernel
theorem dX6_put_79 : decode cX6_put 79 = .ok (.iload_n 1, 1) := by decide +kernel
theorem dX6_put_80 : decode cX6_put 80 = .ok (.iload 4, 2) := by decide +kernel
theorem dX6_put_82 : decode cX6_put 82 = .ok (.aload_n 0, 1) := by decide +kernel
theorem dX6_put_83 : decode cX6_put 83 = .ok (.getfield 7, 3) := by decide +kernel
theorem dX6_put_86 : decode cX6_put 86 = .ok (.sipush 171, 3) := by decide +kernel
theorem dX6_put_89 : decode cX6_put 89 = .ok (.laload, 1) := by decide +kernel
theorem dX6_put_90 : decode cX6_put 90 = .ok (.invokevirtual 229, 3) := by decide +kernel
theorem dX6_put_93 : decode cX6_put 93 = .ok (.ifCond .ne 7, 3) := by decide +kernel
theorem dX6_put_96 : decode cX6_put 96 = .ok (.iconst 4, 1) := by decide +kernel
theorem dX6_put_97 : decode cX6_put 97 = .ok (.goto 5, 3) := by decide +kernel
theorem dX6_put_100 : decode cX6_put 100 = .ok (.iload 5, 2) := by decide +kernel
theorem dX6_put_102 : decode cX6_put 102 = .ok (.istore 5, 2) := by decide +kernel
theorem dX6_put_104 : decode cX6_put 104 = .ok (.iload 5, 2) := by decide +kernel
theorem dX6_put_106 : decode cX6_put 106 = .ok (.ifCond .ne 23, 3) := by decide +kernel
theorem dX6_put_109 : decode cX6_put 109 = .ok (.aload_n 0, 1) := by decide +kernel
theorem dX6_put_110 : decode cX6_put 110 = .ok (.invokevirtual 239, 3) := by decide +kernel
theorem dX6_put_113 : decode cX6_put 113 = .ok (.aload_n 0, 1) := by decide +kernel
theorem dX6_put_114 : decode cX6_put 114 = .ok (.iload_n 1, 1) := by decide +kernel
theorem dX6_put_115 : decode cX6_put 115 = .ok (.iload_n 2, 1) := by decide +kernel
theorem dX6_put_116 : decode cX6_put 116 = .ok (.iload 4, 2) := by decide +kernel
theorem dX6_put_118 : decode cX6_put 118 = .ok (.aload_n 0, 1) := by decide +kernel
theorem dX6_put_119 : decode cX6_put 119 = .ok (.getfield 7, 3) := by decide +kernel
theorem dX6_put_122 : decode cX6_put 122 = .ok (.sipush 171, 3) := by decide +kernel
theorem dX6_put_125 : decode cX6_put 125 = .ok (.laload, 1) := by decide +kernel
theorem dX6_put_126 : decode cX6_put 126 = .ok (.invokevirtual 233, 3) := by decide +kernel
theorem dX6_put_129 : decode cX6_put 129 = .ok (.iload 5, 2) := by decide +kernel
theorem dX6_put_131 : decode cX6_put 131 = .ok (.ireturn, 1) := by decide +kernel
set_option maxRecDepth 20000 in
theorem ggX6_pour_X6_isSlot : GoodIn wsX6_pour wsX6_isSlot := goodIn_r _ [8, 9, 10, 11, 7, 12] (by decide +kernel) (by decide +kernel)
set_option maxRecDepth 20000 in
theorem gX6_pour_X6_isSlot : GoodIn wsX6_pour (va_wsS RX6 195 yX6_isSlot wsX6_isSlot) := goodIn_app (goodIn_of _ (by decide +kernel)) ggX6_pour_X6_isSlot
set_option maxRecDepth 20000 in
theorem ggX6_pour_X6_in : GoodIn wsX6_pour wsX6_in := goodIn_r _ [12] (by decide +kernel) (by decide +kernel)
set_option maxRecDepth 20000 in
theorem gX6_pour_X6_in : GoodIn wsX6_pour (va_wsS RX6 74 yX6_in wsX6_in) := goodIn_app (goodIn_of _ (by decide +kernel)) ggX6_pour_X6_in
set_option maxRecDepth 20000 in
theorem ggX6_pour_X6_minds : GoodIn wsX6_pour wsX6_minds := goodIn_r _ [16, 17, 4, 18, 19, 20, 7, 21, 64, 65, 66, 67, 68, 69, 70, 71, 72, 73, 74, 75] (by decide +kernel) (by decide +kernel)
set_option maxRecDepth 20000 in
theorem gX6_pour_X6_minds : GoodIn wsX6_pour (wsV RX6 239 RX6 yX6_minds wsX6_minds) := goodIn_app (goodIn_of _ (by decide +kernel)) ggX6_pour_X6_minds
set_option maxRecDepth 20000 in
theorem ggX6_pour_X6_lacks : GoodIn wsX6_pour wsX6_lacks := goodIn_r _ [25, 26, 27, 28, 7, 29, 4, 30, 31, 32, 33, 34, 35, 36, 37, 10, 11, 12, 64, 65, 66, 67, 68, 69, 70, 71, 72, 73, 74, 75] (by decide +kernel) (by decide +kernel)
set_option maxRecDepth 20000 in
theorem gX6_pour_X6_lacks : GoodIn wsX6_pour (wsV RX6 203 RX6 yX6_lacks wsX6_lacks) := goodIn_app (goodIn_of _ (by decide +kernel)) ggX6_pour_X6_lacks
set_option maxRecDepth 20000 in
theorem ggX6_pour_X6_sortAt : GoodIn wsX6_pour wsX6_sortAt := goodIn_r _ [41, 4, 42, 43, 7, 44, 64, 65, 66, 67, 68, 69, 70, 71, 72, 73, 74, 75] (by decide +kernel) (by decide +kernel)
set_option maxRecDepth 20000 in
theorem gX6_pour_X6_sortAt : GoodIn wsX6_pour (wsV RX6 82 RX6 yX6_sortAt wsX6_sortAt) := goodIn_app (goodIn_of _ (by decide +kernel)) ggX6_pour_X6_sortAt
set_option maxRecDepth 20000 in
theorem ggX6_pour_X6_at : GoodIn wsX6_pour wsX6_at := goodIn_r _ [44] (by decide +kernel) (by decide +kernel)
set_option maxRecDepth 20000 in
theorem gX6_pour_X6_at : GoodIn wsX6_pour (va_wsS RX6 63 yX6_at wsX6_at) := goodIn_app (goodIn_of _ (by decide +kernel)) ggX6_pour_X6_at
set_option maxRecDepth 20000 in
theorem ggX6_pour_X6_takes : GoodIn wsX6_pour wsX6_takes := goodIn_r _ [48, 49, 26, 27, 28, 7, 29, 4, 50, 51, 52, 64, 65, 66, 67, 68, 69, 70, 71, 72, 73, 74, 75] (by decide +kernel) (by decide +kernel)
set_option maxRecDepth 20000 in
theorem gX6_pour_X6_takes : GoodIn wsX6_pour (wsV RX6 229 RX6 yX6_takes wsX6_takes) := goodIn_app (goodIn_of _ (by decide +kernel)) ggX6_pour_X6_takes
set_option maxRecDepth 20000 in
theorem ggX6_pour_X6_sets : GoodIn wsX6_pour wsX6_sets := goodIn_r _ [56, 4, 26, 27, 28, 7, 29, 42, 43, 44, 57, 58, 59, 60, 61, 62, 63, 64, 65, 66, 67, 68, 69, 70, 71, 72, 73, 74, 75] (by decide +kernel) (by decide +kernel)
set_option maxRecDepth 20000 in
theorem gX6_pour_X6_sets : GoodIn wsX6_pour (wsV RX6 233 RX6 yX6_sets wsX6_sets) := goodIn_app (goodIn_of _ (by decide +kernel)) ggX6_pour_X6_sets
theorem dX6_pour_0 : decode cX6_pour 0 = .ok (.iload_n 1, 1) := by decide +kernel
theorem dX6_pour_1 : decode cX6_pour 1 = .ok (.invokestatic 195, 3) := by decide +kernel
theorem dX6_pour_4 : decode cX6_pour 4 = .ok (.ifCond .eq 10, 3) := by decide +kernel
theorem dX6_pour_7 : decode cX6_pour 7 = .ok (.iload_n 3, 1) := by decide +kernel
theorem dX6_pour_8 : decode cX6_pour 8 = .ok (.invokestatic 195, 3) := by decide +kernel
theorem dX6_pour_11 : decode cX6_pour 11 = .ok (.ifCond .ne 6, 3) := by decide +kernel
theorem dX6_pour_14 : decode cX6_pour 14 = .ok (.ldc 198, 2) := by decide +kernel
theorem dX6_pour_16 : decode cX6_pour 16 = .ok (.ireturn, 1) := by decide +kernel
theorem dX6_pour_17 : decode cX6_pour 17 = .ok (.iload 5, 2) := by decide +kernel
theorem dX6_pour_19 : decode cX6_pour 19 = .ok (.i2l, 1) := by decide +kernel
theorem dX6_pour_20 : decode cX6_pour 20 = .ok (.lconst 0, 1) := by decide +kernel
theorem dX6_pour_21 : decode cX6_pour 21 = .ok (.ldc2_w 237, 3) := by decide +kernel
theorem dX6_pour_24 : decode cX6_pour 24 = .ok (.invokestatic 74, 3) := by decide +kernel
theorem dX6_pour_27 : decode cX6_pour 27 = .ok (.ifCond .ne 6, 3) := by decide +kernel
theorem dX6_pour_30 : decode cX6_pour 30 = .ok (.ldc 192, 2) := by decide +kernel
theorem dX6_pour_32 : decode cX6_pour 32 = .ok (.ireturn, 1) := by decide +kernel
theorem dX6_pour_33 : decode cX6_pour 33 = .ok (.aload_n 0, 1) := by decide +kernel
theorem dX6_pour_34 : decode cX6_pour 34 = .ok (.invokevirtual 239, 3) := by decide +kernel
theorem dX6_pour_37 : decode cX6_pour 37 = .ok (.iconst 0, 1) := by decide +kernel
theorem dX6_pour_38 : decode cX6_pour 38 = .ok (.istore 6, 2) := by decide +kernel
theorem dX6_pour_40 : decode cX6_pour 40 = .ok (.iload 6, 2) := by decide +kernel
theorem dX6_pour_42 : decode cX6_pour 42 = .ok (.iload 5, 2) := by decide +kernel
theorem dX6_pour_44 : decode cX6_pour 44 = .ok (.if_icmp .ge 106, 3) := by decide +kernel
theorem dX6_pour_47 : decode cX6_pour 47 = .ok (.aload_n 0, 1) := by decide +kernel
theorem dX6_pour_48 : decode cX6_pour 48 = .ok (.iload_n 1, 1) := by decide +kernel
theorem dX6_pour_49 : decode cX6_pour 49 = .ok (.iload_n 2, 1) := by decide +kernel
theorem dX6_pour_50 : decode cX6_pour 50 = .ok (.i2l, 1) := by decide +kernel
theorem dX6_pour_51 : decode cX6_pour 51 = .ok (.iload 6, 2) := by decide +kernel
theorem dX6_pour_53 : decode cX6_pour 53 = .ok (.i2l, 1) := by decide +kernel
theorem dX6_pour_54 : decode cX6_pour 54 = .ok (.ladd, 1) := by decide +kernel
theorem dX6_pour_55 : decode cX6_pour 55 = .ok (.invokevirtual 203, 3) := by decide +kernel
theorem dX6_pour_58 : decode cX6_pour 58 = .ok (.ifCond .ne 92, 3) := by decide +kernel
theorem dX6_pour_61 : decode cX6_pour 61 = .ok (.aload_n 0, 1) := by decide +kernel
theorem dX6_pour_62 : decode cX6_pour 62 = .ok (.iload_n 3, 1) := by decide +kernel
theorem dX6_pour_63 : decode cX6_pour 63 = .ok (.iload 4, 2) := by decide +kernel
theorem dX6_pour_65 : decode cX6_pour 65 = .ok (.i2l, 1) := by decide +kernel
theorem dX6_pour_66 : decode cX6_pour 66 = .ok (.iload 6, 2) := by decide +kernel
theorem dX6_pour_68 : decode cX6_pour 68 = .ok (.i2l, 1) := by decide +kernel
theorem dX6_pour_69 : decode cX6_pour 69 = .ok (.ladd, 1) := by decide +kernel
theorem dX6_pour_70 : decode cX6_pour 70 = .ok (.invokevirtual 203, 3) := by decide +kernel
theorem dX6_pour_73 : decode cX6_pour 73 = .ok (.ifCond .ne 77, 3) := by decide +kernel
theorem dX6_pour_76 : decode cX6_pour 76 = .ok (.aload_n 0, 1) := by decide +kernel
theorem dX6_pour_77 : decode cX6_pour 77 = .ok (.iload_n 3, 1) := by decide +kernel
theorem dX6_pour_78 : decode cX6_pour 78 = .ok (.aload_n 0, 1) := by decide +kernel
theorem dX6_pour_79 : decode cX6_pour 79 = .ok (.iload_n 1, 1) := by decide +kernel
theorem dX6_pour_80 : decode cX6_pour 80 = .ok (.iload_n 2, 1) := by decide +kernel
theorem dX6_pour_81 : decode cX6_pour 81 = .ok (.iload 6, 2) := by decide +kernel
theorem dX6_pour_83 : decode cX6_pour 83 = .ok (.iadd, 1) := by decide +kernel
theorem dX6_pour_84 : decode cX6_pour 84 = .ok (.invokevirtual 82, 3) := by decide +kernel
theorem dX6_pour_87 : decode cX6_pour 87 = .ok (.aload_n 0, 1) := by decide +kernel
theorem dX6_pour_88 : decode cX6_pour 88 = .ok (.getfield 7, 3) := by decide +kernel
theorem dX6_pour_91 : decode cX6_pour 91 = .ok (.bipush 84, 2) := by decide +kernel
theorem dX6_pour_93 : decode cX6_pour 93 = .ok (.iload_n 1, 1) := by decide +kernel
theorem dX6_pour_94 : decode cX6_pour 94 = .ok (.iload_n 2, 1) := by decide +kernel
theorem dX6_pour_95 : decode cX6_pour 95 = .ok (.iload 6, 2) := by decide +kernel
theorem dX6_pour_97 : decode cX6_pour 97 = .ok (.iadd, 1) := by decide +kernel
theorem dX6_pour_98 : decode cX6_pour 98 = .ok (.invokestatic 63, 3) := by decide +kernel
theorem dX6_pour_101 : decode cX6_pour 101 = .ok (.iadd, 1) := by decide +kernel
theorem dX6_pour_102 : decode cX6_pour 102 = .ok (.laload, 1) := by decide +kernel
theorem dX6_pour_103 : decode cX6_pour 103 = .ok (.invokevirtual 229, 3) := by decide +kernel
theorem dX6_pour_106 : decode cX6_pour 106 = .ok (.ifCond .eq 44, 3) := by decide +kernel
theorem dX6_pour_109 : decode cX6_pour 109 = .ok (.aload_n 0, 1) := by decide +kernel
theorem dX6_pour_110 : decode cX6_pour 110 = .ok (.iload_n 3, 1) := by decide +kernel
theorem dX6_pour_111 : decode cX6_pour 111 = .ok (.iload 4, 2) := by decide +kernel
theorem dX6_pour_113 : decode cX6_pour 113 = .ok (.iload 6, 2) := by decide +kernel
theorem dX6_pour_115 : decode cX6_pour 115 = .ok (.iadd, 1) := by decide +kernel
theorem dX6_pour_116 : decode cX6_pour 116 = .ok (.aload_n 0, 1) := by decide +kernel
theorem dX6_pour_117 : decode cX6_pour 117 = .ok (.iload_n 1, 1) := by decide +kernel
theorem dX6_pour_118 : decode cX6_pour 118 = .ok (.iload_n 2, 1) := by decide +kernel
theorem dX6_pour_119 : decode cX6_pour 119 = .ok (.iload 6, 2) := by decide +kernel
theorem dX6_pour_121 : decode cX6_pour 121 = .ok (.iadd, 1) := by decide +kernel
theorem dX6_pour_122 : decode cX6_pour 122 = .ok (.invokevirtual 82, 3) := by decide +kernel
theorem dX6_pour_125 : decode cX6_pour 125 = .ok (.aload_n 0, 1) := by decide +kernel
theorem dX6_pour_126 : decode cX6_pour 126 = .ok (.getfield 7, 3) := by decide +kernel
theorem dX6_pour_129 : decode cX6_pour 129 = .ok (.bipush 84, 2) := by decide +kernel
theorem dX6_pour_131 : decode cX6_pour 131 = .ok (.iload_n 1, 1) := by decide +kernel
theorem dX6_pour_132 : decode cX6_pour 132 = .ok (.iload_n 2, 1) := by decide +kernel
theorem dX6_pour_133 : decode cX6_pour 133 = .ok (.iload 6, 2) := by decide +kernel
theorem dX6_pour_135 : decode cX6_pour 135 = .ok (.iadd, 1) := by decide +kernel
theorem dX6_pour_136 : decode cX6_pour 136 = .ok (.invokestatic 63, 3) := by decide +kernel
theorem dX6_pour_139 : decode cX6_pour 139 = .ok (.iadd, 1) := by decide +kernel
theorem dX6_pour_140 : decode cX6_pour 140 = .ok (.laload, 1) := by decide +kernel
theorem dX6_pour_141 : decode cX6_pour 141 = .ok (.invokevirtual 233, 3) := by decide +kernel
theorem dX6_pour_144 : decode cX6_pour 144 = .ok (.iinc 6 1, 3) := by decide +kernel
theorem dX6_pour_147 : decode cX6_pour 147 = .ok (.goto (-107), 3) := by decide +kernel
theorem dX6_pour_150 : decode cX6_pour 150 = .ok (.iload 6, 2) := by decide +kernel
theorem dX6_pour_152 : decode cX6_pour 152 = .ok (.ireturn, 1) := by decide +kernel
set_option maxRecDepth 20000 in
theorem ggX6_weigh_X6_in : GoodIn wsX6_weigh wsX6_in := goodIn_r _ [10] (by decide +kernel) (by decide +kernel)
set_option maxRecDepth 20000 in
theorem gX6_weigh_X6_in : GoodIn wsX6_weigh (va_wsS RX6 74 yX6_in wsX6_in) := goodIn_app (goodIn_of _ (by decide +kernel)) ggX6_weigh_X6_in
set_option maxRecDepth 20000 in
theorem ggX6_weigh_X6_minds : GoodIn wsX6_weigh wsX6_minds := goodIn_r _ [14, 15, 6, 16, 17, 18, 9, 19, 20, 21, 22, 23, 24, 25, 26, 27, 28, 29, 30, 31] (by decide +kernel) (by decide +kernel)
set_option maxRecDepth 20000 in
theorem gX6_weigh_X6_minds : GoodIn wsX6_weigh (wsV RX6 239 RX6 yX6_minds wsX6_minds) := goodIn_app (goodIn_of _ (by decide +kernel)) ggX6_weigh_X6_minds
theorem dX6_weigh_0 : decode cX6_weigh 0 = .ok (.iload_n 1, 1) := by decide +kernel
theorem dX6_weigh_1 : decode cX6_weigh 1 = .ok (.i2l, 1) := by decide +kernel
theorem dX6_weigh_2 : decode cX6_weigh 2 = .ok (.lconst 0, 1) := by decide +kernel
theorem dX6_weigh_3 : decode cX6_weigh 3 = .ok (.ldc2_w 207, 3) := by decide +kernel
theorem dX6_weigh_6 : decode cX6_weigh 6 = .ok (.invokestatic 74, 3) := by decide +kernel
theorem dX6_weigh_9 : decode cX6_weigh 9 = .ok (.ifCond .ne 6, 3) := by decide +kernel
theorem dX6_weigh_12 : decode cX6_weigh 12 = .ok (.ldc 198, 2) := by decide +kernel
theorem dX6_weigh_14 : decode cX6_weigh 14 = .ok (.ireturn, 1) := by decide +kernel
theorem dX6_weigh_15 : decode cX6_weigh 15 = .ok (.iload_n 2, 1) := by decide +kernel
theorem dX6_weigh_16 : decode cX6_weigh 16 = .ok (.i2l, 1) := by decide +kernel
theorem dX6_weigh_17 : decode cX6_weigh 17 = .ok (.ldc2_w 247, 3) := by decide +kernel
theorem dX6_weigh_20 : decode cX6_weigh 20 = .ok (.ldc2_w 249, 3) := by decide +kernel
theorem dX6_weigh_23 : decode cX6_weigh 23 = .ok (.invokestatic 74, 3) := by decide +kernel
theorem dX6_weigh_26 : decode cX6_weigh 26 = .ok (.ifCond .ne 6, 3) := by decide +kernel
theorem dX6_weigh_29 : decode cX6_weigh 29 = .ok (.ldc 192, 2) := by decide +kernel
theorem dX6_weigh_31 : decode cX6_weigh 31 = .ok (.ireturn, 1) := by decide +kernel
theorem dX6_weigh_32 : decode cX6_weigh 32 = .ok (.aload_n 0, 1) := by decide +kernel
theorem dX6_weigh_33 : decode cX6_weigh 33 = .ok (.invokevirtual 239, 3) := by decide +kernel
theorem dX6_weigh_36 : decode cX6_weigh 36 = .ok (.aload_n 0, 1) := by decide +kernel
theorem dX6_weigh_37 : decode cX6_weigh 37 = .ok (.getfield 7, 3) := by decide +kernel
theorem dX6_weigh_40 : decode cX6_weigh 40 = .ok (.sipush 172, 3) := by decide +kernel
theorem dX6_weigh_43 : decode cX6_weigh 43 = .ok (.iload_n 1, 1) := by decide +kernel
theorem dX6_weigh_44 : decode cX6_weigh 44 = .ok (.iadd, 1) := by decide +kernel
theorem dX6_weigh_45 : decode cX6_weigh 45 = .ok (.laload, 1) := by decide +kernel
theorem dX6_weigh_46 : decode cX6_weigh 46 = .ok (.l2i, 1) := by decide +kernel
theorem dX6_weigh_47 : decode cX6_weigh 47 = .ok (.istore_n 3, 1) := by decide +kernel
theorem dX6_weigh_48 : decode cX6_weigh 48 = .ok (.aload_n 0, 1) := by decide +kernel
theorem dX6_weigh_49 : decode cX6_weigh 49 = .ok (.getfield 7, 3) := by decide +kernel
theorem dX6_weigh_52 : decode cX6_weigh 52 = .ok (.sipush 172, 3) := by decide +kernel
theorem dX6_weigh_55 : decode cX6_weigh 55 = .ok (.iload_n 1, 1) := by decide +kernel
theorem dX6_weigh_56 : decode cX6_weigh 56 = .ok (.iadd, 1) := by decide +kernel
theorem dX6_weigh_57 : decode cX6_weigh 57 = .ok (.iload_n 2, 1) := by decide +kernel
theorem dX6_weigh_58 : decode cX6_weigh 58 = .ok (.i2l, 1) := by decide +kernel
theorem dX6_weigh_59 : decode cX6_weigh 59 = .ok (.lastore, 1) := by decide +kernel
theorem dX6_weigh_60 : decode cX6_weigh 60 = .ok (.iload_n 3, 1) := by decide +kernel
theorem dX6_weigh_61 : decode cX6_weigh 61 = .ok (.ireturn, 1) := by decide +kernel
set_option maxRecDepth 20000 in
theorem ggX6_key_X6_isSlot : GoodIn wsX6_key wsX6_isSlot := goodIn_r _ [9, 10, 11, 12, 8, 13] (by decide +kernel) (by decide +kernel)
set_option maxRecDepth 20000 in
theorem gX6_key_X6_isSlot : GoodIn wsX6_key (va_wsS RX6 195 yX6_isSlot wsX6_isSlot) := goodIn_app (goodIn_of _ (by decide +kernel)) ggX6_key_X6_isSlot
set_option maxRecDepth 20000 in
theorem ggX6_key_X6_in : GoodIn wsX6_key wsX6_in := goodIn_r _ [13] (by decide +kernel) (by decide +kernel)
set_option maxRecDepth 20000 in
theorem gX6_key_X6_in : GoodIn wsX6_key (va_wsS RX6 74 yX6_in wsX6_in) := goodIn_app (goodIn_of _ (by decide +kernel)) ggX6_key_X6_in
set_option maxRecDepth 20000 in
theorem ggX6_key_X6_keys : GoodIn wsX6_key wsX6_keys := goodIn_r _ [17, 5, 27, 28, 29, 30, 31, 32, 33, 34, 35, 36, 37, 38] (by decide +kernel) (by decide +kernel)
set_option maxRecDepth 20000 in
theorem gX6_key_X6_keys : GoodIn wsX6_key (wsV RX6 98 RX6 yX6_keys wsX6_keys) := goodIn_app (goodIn_of _ (by decide +kernel)) ggX6_key_X6_keys
set_option maxRecDepth 20000 in
theorem ggX6_key_X6_minds : GoodIn wsX6_key wsX6_minds := goodIn_r _ [21, 22, 5, 23, 24, 25, 8, 26, 27, 28, 29, 30, 31, 32, 33, 34, 35, 36, 37, 38] (by decide +kernel) (by decide +kernel)
set_option maxRecDepth 20000 in
theorem gX6_key_X6_minds : GoodIn wsX6_key (wsV RX6 239 RX6 yX6_minds wsX6_minds) := goodIn_app (goodIn_of _ (by decide +kernel)) ggX6_key_X6_minds
theorem dX6_key_0 : decode cX6_key 0 = .ok (.iload_n 1, 1) := by decide +kernel
theorem dX6_key_1 : decode cX6_key 1 = .ok (.invokestatic 195, 3) := by decide +kernel
theorem dX6_key_4 : decode cX6_key 4 = .ok (.ifCond .ne 6, 3) := by decide +kernel
theorem dX6_key_7 : decode cX6_key 7 = .ok (.ldc 198, 2) := by decide +kernel
theorem dX6_key_9 : decode cX6_key 9 = .ok (.ireturn, 1) := by decide +kernel
theorem dX6_key_10 : decode cX6_key 10 = .ok (.iload_n 2, 1) := by decide +kernel
theorem dX6_key_11 : decode cX6_key 11 = .ok (.i2l, 1) := by decide +kernel
theorem dX6_key_12 : decode cX6_key 12 = .ok (.lconst 0, 1) := by decide +kernel
theorem dX6_key_13 : decode cX6_key 13 = .ok (.ldc2_w 227, 3) := by decide +kernel
theorem dX6_key_16 : decode cX6_key 16 = .ok (.invokestatic 74, 3) := by decide +kernel
theorem dX6_key_19 : decode cX6_key 19 = .ok (.ifCond .eq 13, 3) := by decide +kernel
theorem dX6_key_22 : decode cX6_key 22 = .ok (.iload_n 3, 1) := by decide +kernel
theorem dX6_key_23 : decode cX6_key 23 = .ok (.i2l, 1) := by decide +kernel
theorem dX6_key_24 : decode cX6_key 24 = .ok (.lconst 0, 1) := by decide +kernel
theorem dX6_key_25 : decode cX6_key 25 = .ok (.lconst 1, 1) := by decide +kernel
theorem dX6_key_26 : decode cX6_key 26 = .ok (.invokestatic 74, 3) := by decide +kernel
theorem dX6_key_29 : decode cX6_key 29 = .ok (.ifCond .ne 6, 3) := by decide +kernel
theorem dX6_key_32 : decode cX6_key 32 = .ok (.ldc 192, 2) := by decide +kernel
theorem dX6_key_34 : decode cX6_key 34 = .ok (.ireturn, 1) := by decide +kernel
theorem dX6_key_35 : decode cX6_key 35 = .ok (.aload_n 0, 1) := by decide +kernel
theorem dX6_key_36 : decode cX6_key 36 = .ok (.invokevirtual 98, 3) := by decide +kernel
theorem dX6_key_39 : decode cX6_key 39 = .ok (.iconst 4, 1) := by decide +kernel
theorem dX6_key_40 : decode cX6_key 40 = .ok (.if_icmp .ne 6, 3) := by decide +kernel
theorem dX6_key_43 : decode cX6_key 43 = .ok (.ldc 251, 2) := by decide +kernel
theorem dX6_key_45 : decode cX6_key 45 = .ok (.ireturn, 1) := by decide +kernel
theorem dX6_key_46 : decode cX6_key 46 = .ok (.aload_n 0, 1) := by decide +kernel
theorem dX6_key_47 : decode cX6_key 47 = .ok (.invokevirtual 239, 3) := by decide +kernel
theorem dX6_key_50 : decode cX6_key 50 = .ok (.sipush 157, 3) := by decide +kernel
theorem dX6_key_53 : decode cX6_key 53 = .ok (.iconst 3, 1) := by decide +kernel
theorem dX6_key_54 : decode cX6_key 54 = .ok (.aload_n 0, 1) := by decide +kernel
theorem dX6_key_55 : decode cX6_key 55 = .ok (.invokevirtual 98, 3) := by decide +kernel
theorem dX6_key_58 : decode cX6_key 58 = .ok (.imul, 1) := by decide +kernel
theorem dX6_key_59 : decode cX6_key 59 = .ok (.iadd, 1) := by decide +kernel
theorem dX6_key_60 : decode cX6_key 60 = .ok (.istore 4, 2) := by decide +kernel
theorem dX6_key_62 : decode cX6_key 62 = .ok (.aload_n 0, 1) := by decide +kernel
theorem dX6_key_63 : decode cX6_key 63 = .ok (.getfield 7, 3) := by decide +kernel
theorem dX6_key_66 : decode cX6_key 66 = .ok (.iload 4, 2) := by decide +kernel
theorem dX6_key_68 : decode cX6_key 68 = .ok (.iload_n 1, 1) := by decide +kernel
theorem dX6_key_69 : decode cX6_key 69 = .ok (.i2l, 1) := by decide +kernel
theorem dX6_key_70 : decode cX6_key 70 = .ok (.lastore, 1) := by decide +kernel
theorem dX6_key_71 : decode cX6_key 71 = .ok (.aload_n 0, 1) := by decide +kernel
theorem dX6_key_72 : decode cX6_key 72 = .ok (.getfield 7, 3) := by decide +kernel
theorem dX6_key_75 : decode cX6_key 75 = .ok (.iload 4, 2) := by decide +kernel
theorem dX6_key_77 : decode cX6_key 77 = .ok (.iconst 1, 1) := by decide +kernel
theorem dX6_key_78 : decode cX6_key 78 = .ok (.iadd, 1) := by decide +kernel
theorem dX6_key_79 : decode cX6_key 79 = .ok (.iload_n 2, 1) := by decide +kernel
theorem dX6_key_80 : decode cX6_key 80 = .ok (.i2l, 1) := by decide +kernel
theorem dX6_key_81 : decode cX6_key 81 = .ok (.lastore, 1) := by decide +kernel
theorem dX6_key_82 : decode cX6_key 82 = .ok (.aload_n 0, 1) := by decide +kernel
theorem dX6_key_83 : decode cX6_key 83 = .ok (.getfield 7, 3) := by decide +kernel
theorem dX6_key_86 : decode cX6_key 86 = .ok (.iload 4, 2) := by decide +kernel
theorem dX6_key_88 : decode cX6_key 88 = .ok (.iconst 2, 1) := by decide +kernel
theorem dX6_key_89 : decode cX6_key 89 = .ok (.iadd, 1) := by decide +kernel
theorem dX6_key_90 : decode cX6_key 90 = .ok (.iload_n 3, 1) := by decide +kernel
theorem dX6_key_91 : decode cX6_key 91 = .ok (.i2l, 1) := by decide +kernel
theorem dX6_key_92 : decode cX6_key 92 = .ok (.lastore, 1) := by decide +kernel
theorem dX6_key_93 : decode cX6_key 93 = .ok (.aload_n 0, 1) := by decide +kernel
theorem dX6_key_94 : decode cX6_key 94 = .ok (.getfield 7, 3) := by decide +kernel
theorem dX6_key_97 : decode cX6_key 97 = .ok (.sipush 156, 3) := by decide +kernel
theorem dX6_key_100 : decode cX6_key 100 = .ok (.dup2, 1) := by decide +kernel
theorem dX6_key_101 : decode cX6_key 101 = .ok (.laload, 1) := by decide +kernel
theorem dX6_key_102 : decode cX6_key 102 = .ok (.lconst 1, 1) := by decide +kernel
theorem dX6_key_103 : decode cX6_key 103 = .ok (.ladd, 1) := by decide +kernel
theorem dX6_key_104 : decode cX6_key 104 = .ok (.lastore, 1) := by decide +kernel
theorem dX6_key_105 : decode cX6_key 105 = .ok (.aload_n 0, 1) := by decide +kernel
theorem dX6_key_106 : decode cX6_key 106 = .ok (.invokevirtual 98, 3) := by decide +kernel
theorem dX6_key_109 : decode cX6_key 109 = .ok (.ireturn, 1) := by decide +kernel
set_option maxRecDepth 20000 in
theorem ggX6_unkey_X6_keys : GoodIn wsX6_unkey wsX6_keys := goodIn_r _ [7, 2, 17, 18, 19, 20, 21, 22, 23, 24, 25, 26, 27, 28] (by decide +kernel) (by decide +kernel)
set_option maxRecDepth 20000 in
theorem gX6_unkey_X6_keys : GoodIn wsX6_unkey (wsV RX6 98 RX6 yX6_keys wsX6_keys) := goodIn_app (goodIn_of _ (by decide +kernel)) ggX6_unkey_X6_keys
set_option maxRecDepth 20000 in
theorem ggX6_unkey_X6_minds : GoodIn wsX6_unkey wsX6_minds := goodIn_r _ [11, 12, 2, 13, 14, 15, 6, 16, 17, 18, 19, 20, 21, 22, 23, 24, 25, 26, 27, 28] (by decide +kernel) (by decide +kernel)
set_option maxRecDepth 20000 in
theorem gX6_unkey_X6_minds : GoodIn wsX6_unkey (wsV RX6 239 RX6 yX6_minds wsX6_minds) := goodIn_app (goodIn_of _ (by decide +kernel)) ggX6_unkey_X6_minds
theorem dX6_unkey_0 : decode cX6_unkey 0 = .ok (.aload_n 0, 1) := by decide +kernel
theorem dX6_unkey_1 : decode cX6_unkey 1 = .ok (.invokevirtual 98, 3) := by decide +kernel
theorem dX6_unkey_4 : decode cX6_unkey 4 = .ok (.ifCond .ne 6, 3) := by decide +kernel
theorem dX6_unkey_7 : decode cX6_unkey 7 = .ok (.ldc 246, 2) := by decide +kernel
theorem dX6_unkey_9 : decode cX6_unkey 9 = .ok (.ireturn, 1) := by decide +kernel
theorem dX6_unkey_10 : decode cX6_unkey 10 = .ok (.aload_n 0, 1) := by decide +kernel
theorem dX6_unkey_11 : decode cX6_unkey 11 = .ok (.invokevirtual 239, 3) := by decide +kernel
theorem dX6_unkey_14 : decode cX6_unkey 14 = .ok (.aload_n 0, 1) := by decide +kernel
theorem dX6_unkey_15 : decode cX6_unkey 15 = .ok (.getfield 7, 3) := by decide +kernel
theorem dX6_unkey_18 : decode cX6_unkey 18 = .ok (.sipush 156, 3) := by decide +kernel
theorem dX6_unkey_21 : decode cX6_unkey 21 = .ok (.dup2, 1) := by decide +kernel
theorem dX6_unkey_22 : decode cX6_unkey 22 = .ok (.laload, 1) := by decide +kernel
theorem dX6_unkey_23 : decode cX6_unkey 23 = .ok (.lconst 1, 1) := by decide +kernel
theorem dX6_unkey_24 : decode cX6_unkey 24 = .ok (.lsub, 1) := by decide +kernel
theorem dX6_unkey_25 : decode cX6_unkey 25 = .ok (.lastore, 1) := by decide +kernel
theorem dX6_unkey_26 : decode cX6_unkey 26 = .ok (.aload_n 0, 1) := by decide +kernel
theorem dX6_unkey_27 : decode cX6_unkey 27 = .ok (.invokevirtual 98, 3) := by decide +kernel
theorem dX6_unkey_30 : decode cX6_unkey 30 = .ok (.ireturn, 1) := by decide +kernel
set_option maxRecDepth 20000 in
theorem ggX6_sheet_X6_in : GoodIn wsX6_sheet wsX6_in := goodIn_r _ [7] (by decide +kernel) (by decide +kernel)
set_option maxRecDepth 20000 in
theorem gX6_sheet_X6_in : GoodIn wsX6_sheet (va_wsS RX6 74 yX6_in wsX6_in) := goodIn_app (goodIn_of _ (by decide +kernel)) ggX6_sheet_X6_in
set_option maxRecDepth 20000 in
theorem ggX6_sheet_X6_minds : GoodIn wsX6_sheet wsX6_minds := goodIn_r _ [11, 12, 3, 13, 14, 15, 6, 16, 21, 22, 23, 24, 25, 26, 27, 28, 29, 30, 31, 32] (by decide +kernel) (by decide +kernel)
set_option maxRecDepth 20000 in
theorem gX6_sheet_X6_minds : GoodIn wsX6_sheet (wsV RX6 239 RX6 yX6_minds wsX6_minds) := goodIn_app (goodIn_of _ (by decide +kernel)) ggX6_sheet_X6_minds
set_option maxRecDepth 20000 in
theorem ggX6_sheet_X6_sheetNow : GoodIn wsX6_sheet wsX6_sheetNow := goodIn_r _ [20, 3, 21, 22, 23, 24, 25, 26, 27, 28, 29, 30, 31, 32] (by decide +kernel) (by decide +kernel)
set_option maxRecDepth 20000 in
theorem gX6_sheet_X6_sheetNow : GoodIn wsX6_sheet (wsV RX6 94 RX6 yX6_sheetNow wsX6_sheetNow) := goodIn_app (goodIn_of _ (by decide +kernel)) ggX6_sheet_X6_sheetNow
theorem dX6_sheet_0 : decode cX6_sheet 0 = .ok (.iload_n 1, 1) := by decide +kernel
theorem dX6_sheet_1 : decode cX6_sheet 1 = .ok (.i2l, 1) := by decide +kernel
theorem dX6_sheet_2 : decode cX6_sheet 2 = .ok (.lconst 0, 1) := by decide +kernel
theorem dX6_sheet_3 : decode cX6_sheet 3 = .ok (.ldc2_w 252, 3) := by decide +kernel
theorem dX6_sheet_6 : decode cX6_sheet 6 = .ok (.invokestatic 74, 3) := by decide +kernel
theorem dX6_sheet_9 : decode cX6_sheet 9 = .ok (.ifCond .ne 6, 3) := by decide +kernel
theorem dX6_sheet_12 : decode cX6_sheet 12 = .ok (.ldc 192, 2) := by decide +kernel
theorem dX6_sheet_14 : decode cX6_sheet 14 = .ok (.ireturn, 1) := by decide +kernel
theorem dX6_sheet_15 : decode cX6_sheet 15 = .ok (.aload_n 0, 1) := by decide +kernel
theorem dX6_sheet_16 : decode cX6_sheet 16 = .ok (.invokevirtual 239, 3) := by decide +kernel
theorem dX6_sheet_19 : decode cX6_sheet 19 = .ok (.aload_n 0, 1) := by decide +kernel
theorem dX6_sheet_20 : decode cX6_sheet 20 = .ok (.invokevirtual 94, 3) := by decide +kernel
theorem dX6_sheet_23 : decode cX6_sheet 23 = .ok (.istore_n 2, 1) := by decide +kernel
theorem dX6_sheet_24 : decode cX6_sheet 24 = .ok (.aload_n 0, 1) := by decide +kernel
theorem dX6_sheet_25 : decode cX6_sheet 25 = .ok (.getfield 7, 3) := by decide +kernel
theorem dX6_sheet_28 : decode cX6_sheet 28 = .ok (.sipush 169, 3) := by decide +kernel
theorem dX6_sheet_31 : decode cX6_sheet 31 = .ok (.iload_n 1, 1) := by decide +kernel
theorem dX6_sheet_32 : decode cX6_sheet 32 = .ok (.i2l, 1) := by decide +kernel
theorem dX6_sheet_33 : decode cX6_sheet 33 = .ok (.lastore, 1) := by decide +kernel
theorem dX6_sheet_34 : decode cX6_sheet 34 = .ok (.iload_n 2, 1) := by decide +kernel
theorem dX6_sheet_35 : decode cX6_sheet 35 = .ok (.ireturn, 1) := by decide +kernel
set_option maxRecDepth 20000 in
theorem ggX6_moves_X6_at : GoodIn wsX6_moves wsX6_at := goodIn_r _ [8] (by decide +kernel) (by decide +kernel)
set_option maxRecDepth 20000 in
theorem gX6_moves_X6_at : GoodIn wsX6_moves (va_wsS RX6 63 yX6_at wsX6_at) := goodIn_app (goodIn_of _ (by decide +kernel)) ggX6_moves_X6_at
set_option maxRecDepth 20000 in
theorem ggX6_moves_X6_sheetNow : GoodIn wsX6_moves wsX6_sheetNow := goodIn_r _ [12, 2, 16, 17, 18, 19, 20, 21, 22, 23, 24, 25, 26, 27] (by decide +kernel) (by decide +kernel)
set_option maxRecDepth 20000 in
theorem gX6_moves_X6_sheetNow : GoodIn wsX6_moves (wsV RX6 94 RX6 yX6_sheetNow wsX6_sheetNow) := goodIn_app (goodIn_of _ (by decide +kernel)) ggX6_moves_X6_sheetNow
set_option maxRecDepth 20000 in
theorem ggX6_moves_X6_has : GoodIn wsX6_moves wsX6_has := goodIn_r _ [15] (by decide +kernel) (by decide +kernel)
set_option maxRecDepth 20000 in
theorem gX6_moves_X6_has : GoodIn wsX6_moves (va_wsS RX6 107 yX6_has wsX6_has) := goodIn_app (goodIn_of _ (by decide +kernel)) ggX6_moves_X6_has
theorem dX6_moves_0 : decode cX6_moves 0 = .ok (.iconst 0, 1) := by decide +kernel
theorem dX6_moves_1 : decode cX6_moves 1 = .ok (.istore_n 2, 1) := by decide +kernel
theorem dX6_moves_2 : decode cX6_moves 2 = .ok (.iconst 0, 1) := by decide +kernel
theorem dX6_moves_3 : decode cX6_moves 3 = .ok (.istore_n 3, 1) := by decide +kernel
theorem dX6_moves_4 : decode cX6_moves 4 = .ok (.iload_n 3, 1) := by decide +kernel
theorem dX6_moves_5 : decode cX6_moves 5 = .ok (.bipush 6, 2) := by decide +kernel
theorem dX6_moves_7 : decode cX6_moves 7 = .ok (.if_icmp .ge 144, 3) := by decide +kernel
theorem dX6_moves_10 : decode cX6_moves 10 = .ok (.iconst 0, 1) := by decide +kernel
theorem dX6_moves_11 : decode cX6_moves 11 = .ok (.istore 4, 2) := by decide +kernel
theorem dX6_moves_13 : decode cX6_moves 13 = .ok (.iload 4, 2) := by decide +kernel
theorem dX6_moves_15 : decode cX6_moves 15 = .ok (.iload_n 1, 1) := by decide +kernel
theorem dX6_moves_16 : decode cX6_moves 16 = .ok (.if_icmp .ge 51, 3) := by decide +kernel
theorem dX6_moves_19 : decode cX6_moves 19 = .ok (.aload_n 0, 1) := by decide +kernel
theorem dX6_moves_20 : decode cX6_moves 20 = .ok (.getfield 33, 3) := by decide +kernel
theorem dX6_moves_23 : decode cX6_moves 23 = .ok (.iload 4, 2) := by decide +kernel
theorem dX6_moves_25 : decode cX6_moves 25 = .ok (.aload_n 0, 1) := by decide +kernel
theorem dX6_moves_26 : decode cX6_moves 26 = .ok (.getfield 7, 3) := by decide +kernel
theorem dX6_moves_29 : decode cX6_moves 29 = .ok (.bipush 12, 2) := by decide +kernel
theorem dX6_moves_31 : decode cX6_moves 31 = .ok (.iload_n 3, 1) := by decide +kernel
theorem dX6_moves_32 : decode cX6_moves 32 = .ok (.iload 4, 2) := by decide +kernel
theorem dX6_moves_34 : decode cX6_moves 34 = .ok (.invokestatic 63, 3) := by decide +kernel
theorem dX6_moves_37 : decode cX6_moves 37 = .ok (.iadd, 1) := by decide +kernel
theorem dX6_moves_38 : decode cX6_moves 38 = .ok (.laload, 1) := by decide +kernel
theorem dX6_moves_39 : decode cX6_moves 39 = .ok (.lastore, 1) := by decide +kernel
theorem dX6_moves_40 : decode cX6_moves 40 = .ok (.aload_n 0, 1) := by decide +kernel
theorem dX6_moves_41 : decode cX6_moves 41 = .ok (.getfield 36, 3) := by decide +kernel
theorem dX6_moves_44 : decode cX6_moves 44 = .ok (.iload 4, 2) := by decide +kernel
theorem dX6_moves_46 : decode cX6_moves 46 = .ok (.aload_n 0, 1) := by decide +kernel
theorem dX6_moves_47 : decode cX6_moves 47 = .ok (.getfield 7, 3) := by decide +kernel
theorem dX6_moves_50 : decode cX6_moves 50 = .ok (.bipush 84, 2) := by decide +kernel
theorem dX6_moves_52 : decode cX6_moves 52 = .ok (.iload_n 3, 1) := by decide +kernel
theorem dX6_moves_53 : decode cX6_moves 53 = .ok (.iload 4, 2) := by decide +kernel
theorem dX6_moves_55 : decode cX6_moves 55 = .ok (.invokestatic 63, 3) := by decide +kernel
theorem dX6_moves_58 : decode cX6_moves 58 = .ok (.iadd, 1) := by decide +kernel
theorem dX6_moves_59 : decode cX6_moves 59 = .ok (.laload, 1) := by decide +kernel
theorem dX6_moves_60 : decode cX6_moves 60 = .ok (.lastore, 1) := by decide +kernel
theorem dX6_moves_61 : decode cX6_moves 61 = .ok (.iinc 4 1, 3) := by decide +kernel
theorem dX6_moves_64 : decode cX6_moves 64 = .ok (.goto (-51), 3) := by decide +kernel
theorem dX6_moves_67 : decode cX6_moves 67 = .ok (.iconst 0, 1) := by decide +kernel
theorem dX6_moves_68 : decode cX6_moves 68 = .ok (.istore 4, 2) := by decide +kernel
theorem dX6_moves_70 : decode cX6_moves 70 = .ok (.iload 4, 2) := by decide +kernel
theorem dX6_moves_72 : decode cX6_moves 72 = .ok (.iload_n 1, 1) := by decide +kernel
theorem dX6_moves_73 : decode cX6_moves 73 = .ok (.if_icmp .ge 72, 3) := by decide +kernel
theorem dX6_moves_76 : decode cX6_moves 76 = .ok (.aload_n 0, 1) := by decide +kernel
theorem dX6_moves_77 : decode cX6_moves 77 = .ok (.invokevirtual 94, 3) := by decide +kernel
theorem dX6_moves_80 : decode cX6_moves 80 = .ok (.iload_n 3, 1) := by decide +kernel
theorem dX6_moves_81 : decode cX6_moves 81 = .ok (.invokestatic 107, 3) := by decide +kernel
theorem dX6_moves_84 : decode cX6_moves 84 = .ok (.ifCond .eq 61, 3) := by decide +kernel
theorem dX6_moves_87 : decode cX6_moves 87 = .ok (.aload_n 0, 1) := by decide +kernel
theorem dX6_moves_88 : decode cX6_moves 88 = .ok (.getfield 7, 3) := by decide +kernel
theorem dX6_moves_91 : decode cX6_moves 91 = .ok (.bipush 12, 2) := by decide +kernel
theorem dX6_moves_93 : decode cX6_moves 93 = .ok (.iload_n 3, 1) := by decide +kernel
theorem dX6_moves_94 : decode cX6_moves 94 = .ok (.iload 4, 2) := by decide +kernel
theorem dX6_moves_96 : decode cX6_moves 96 = .ok (.invokestatic 63, 3) := by decide +kernel
theorem dX6_moves_99 : decode cX6_moves 99 = .ok (.iadd, 1) := by decide +kernel
theorem dX6_moves_100 : decode cX6_moves 100 = .ok (.aload_n 0, 1) := by decide +kernel
theorem dX6_moves_101 : decode cX6_moves 101 = .ok (.getfield 33, 3) := by decide +kernel
theorem dX6_moves_104 : decode cX6_moves 104 = .ok (.aload_n 0, 1) := by decide +kernel
theorem dX6_moves_105 : decode cX6_moves 105 = .ok (.getfield 30, 3) := by decide +kernel
theorem dX6_moves_108 : decode cX6_moves 108 = .ok (.iload 4, 2) := by decide +kernel
theorem dX6_moves_110 : decode cX6_moves 110 = .ok (.iaload, 1) := by decide +kernel
theorem dX6_moves_111 : decode cX6_moves 111 = .ok (.laload, 1) := by decide +kernel
theorem dX6_moves_112 : decode cX6_moves 112 = .ok (.lastore, 1) := by decide +kernel
theorem dX6_moves_113 : decode cX6_moves 113 = .ok (.aload_n 0, 1) := by decide +kernel
theorem dX6_moves_114 : decode cX6_moves 114 = .ok (.getfield 7, 3) := by decide +kernel
theorem dX6_moves_117 : decode cX6_moves 117 = .ok (.bipush 84, 2) := by decide +kernel
theorem dX6_moves_119 : decode cX6_moves 119 = .ok (.iload_n 3, 1) := by decide +kernel
theorem dX6_moves_120 : decode cX6_moves 120 = .ok (.iload 4, 2) := by decide +kernel
theorem dX6_moves_122 : decode cX6_moves 122 = .ok (.invokestatic 63, 3) := by decide +kernel
theorem dX6_moves_125 : decode cX6_moves 125 = .ok (.iadd, 1) := by decide +kernel
theorem dX6_moves_126 : decode cX6_moves 126 = .ok (.aload_n 0, 1) := by decide +kernel
theorem dX6_moves_127 : decode cX6_moves 127 = .ok (.getfield 36, 3) := by decide +kernel
theorem dX6_moves_130 : decode cX6_moves 130 = .ok (.aload_n 0, 1) := by decide +kernel
theorem dX6_moves_131 : decode cX6_moves 131 = .ok (.getfield 30, 3) := by decide +kernel
theorem dX6_moves_134 : decode cX6_moves 134 = .ok (.iload 4, 2) := by decide +kernel
theorem dX6_moves_136 : decode cX6_moves 136 = .ok (.iaload, 1) := by decide +kernel
theorem dX6_moves_137 : decode cX6_moves 137 = .ok (.laload, 1) := by decide +kernel
theorem dX6_moves_138 : decode cX6_moves 138 = .ok (.lastore, 1) := by decide +kernel
theorem dX6_moves_139 : decode cX6_moves 139 = .ok (.iinc 4 1, 3) := by decide +kernel
theorem dX6_moves_142 : decode cX6_moves 142 = .ok (.goto (-72), 3) := by decide +kernel
theorem dX6_moves_145 : decode cX6_moves 145 = .ok (.iinc 3 1, 3) := by decide +kernel
theorem dX6_moves_148 : decode cX6_moves 148 = .ok (.goto (-144), 3) := by decide +kernel
theorem dX6_moves_151 : decode cX6_moves 151 = .ok (.iconst 0, 1) := by decide +kernel
theorem dX6_moves_152 : decode cX6_moves 152 = .ok (.istore_n 3, 1) := by decide +kernel
theorem dX6_moves_153 : decode cX6_moves 153 = .ok (.iload_n 3, 1) := by decide +kernel
theorem dX6_moves_154 : decode cX6_moves 154 = .ok (.iload_n 1, 1) := by decide +kernel
theorem dX6_moves_155 : decode cX6_moves 155 = .ok (.if_icmp .ge 27, 3) := by decide +kernel
theorem dX6_moves_158 : decode cX6_moves 158 = .ok (.iload_n 2, 1) := by decide +kernel
theorem dX6_moves_159 : decode cX6_moves 159 = .ok (.aload_n 0, 1) := by decide +kernel
theorem dX6_moves_160 : decode cX6_moves 160 = .ok (.getfield 30, 3) := by decide +kernel
theorem dX6_moves_163 : decode cX6_moves 163 = .ok (.iload_n 3, 1) := by decide +kernel
theorem dX6_moves_164 : decode cX6_moves 164 = .ok (.iaload, 1) := by decide +kernel
theorem dX6_moves_165 : decode cX6_moves 165 = .ok (.iload_n 3, 1) := by decide +kernel
theorem dX6_moves_166 : decode cX6_moves 166 = .ok (.if_icmp .eq 7, 3) := by decide +kernel
theorem dX6_moves_169 : decode cX6_moves 169 = .ok (.iconst 1, 1) := by decide +kernel
theorem dX6_moves_170 : decode cX6_moves 170 = .ok (.goto 4, 3) := by decide +kernel
theorem dX6_moves_173 : decode cX6_moves 173 = .ok (.iconst 0, 1) := by decide +kernel
theorem dX6_moves_174 : decode cX6_moves 174 = .ok (.iadd, 1) := by decide +kernel
theorem dX6_moves_175 : decode cX6_moves 175 = .ok (.istore_n 2, 1) := by decide +kernel
theorem dX6_moves_176 : decode cX6_moves 176 = .ok (.iinc 3 1, 3) := by decide +kernel
theorem dX6_moves_179 : decode cX6_moves 179 = .ok (.goto (-26), 3) := by decide +kernel
theorem dX6_moves_182 : decode cX6_moves 182 = .ok (.iload_n 2, 1) := by decide +kernel
theorem dX6_moves_183 : decode cX6_moves 183 = .ok (.ireturn, 1) := by decide +kernel
theorem dX6_stays_0 : decode cX6_stays 0 = .ok (.iconst 0, 1) := by decide +kernel
theorem dX6_stays_1 : decode cX6_stays 1 = .ok (.istore_n 2, 1) := by decide +kernel
theorem dX6_stays_2 : decode cX6_stays 2 = .ok (.iload_n 2, 1) := by decide +kernel
theorem dX6_stays_3 : decode cX6_stays 3 = .ok (.iload_n 1, 1) := by decide +kernel
theorem dX6_stays_4 : decode cX6_stays 4 = .ok (.if_icmp .ge 16, 3) := by decide +kernel
theorem dX6_stays_7 : decode cX6_stays 7 = .ok (.aload_n 0, 1) := by decide +kernel
theorem dX6_stays_8 : decode cX6_stays 8 = .ok (.getfield 30, 3) := by decide +kernel
theorem dX6_stays_11 : decode cX6_stays 11 = .ok (.iload_n 2, 1) := by decide +kernel
theorem dX6_stays_12 : decode cX6_stays 12 = .ok (.iload_n 2, 1) := by decide +kernel
theorem dX6_stays_13 : decode cX6_stays 13 = .ok (.iastore, 1) := by decide +kernel
theorem dX6_stays_14 : decode cX6_stays 14 = .ok (.iinc 2 1, 3) := by decide +kernel
theorem dX6_stays_17 : decode cX6_stays 17 = .ok (.goto (-15), 3) := by decide +kernel
theorem dX6_stays_20 : decode cX6_stays 20 = .ok (.return_, 1) := by decide +kernel
set_option maxRecDepth 20000 in
theorem ggX6_settle_X6_places : GoodIn wsX6_settle wsX6_places := goodIn_r _ [7, 8, 9, 10, 6, 11, 12, 13, 14, 15, 16, 17, 18, 19, 20, 21, 22, 23, 24, 25, 26, 27, 28, 29, 30, 31, 32, 33, 34, 35, 36, 37, 38, 39, 40, 41, 42, 43, 44, 45, 46, 47, 48, 49, 50, 109, 110, 111, 112, 113, 114, 115, 116, 117, 118, 119, 120] (by decide +kernel) (by decide +kernel)
set_option maxRecDepth 20000 in
theorem gX6_settle_X6_places : GoodIn wsX6_settle (wsV RX6 116 RX6 yX6_places wsX6_places) := goodIn_app (goodIn_of _ (by decide +kernel)) ggX6_settle_X6_places
set_option maxRecDepth 20000 in
theorem ggX6_settle_X6_minds : GoodIn wsX6_settle wsX6_minds := goodIn_r _ [54, 55, 16, 56, 57, 58, 6, 59, 109, 110, 111, 112, 113, 114, 115, 116, 117, 118, 119, 120] (by decide +kernel) (by decide +kernel)
set_option maxRecDepth 20000 in
theorem gX6_settle_X6_minds : GoodIn wsX6_settle (wsV RX6 239 RX6 yX6_minds wsX6_minds) := goodIn_app (goodIn_of _ (by decide +kernel)) ggX6_settle_X6_minds
set_option maxRecDepth 20000 in
theorem ggX6_settle_X6_position : GoodIn wsX6_settle wsX6_position := goodIn_r _ [63, 64, 65, 66, 6, 67, 16, 17, 18, 19, 20, 25, 26, 27, 21, 22, 23, 24, 40, 41, 42, 43, 68, 69, 70, 71, 72, 73, 74, 75, 76, 77, 78, 79, 80, 81, 82, 83, 84, 85, 86, 87, 88, 89, 90, 91, 92, 93, 94, 95, 96, 97, 98, 99, 100, 101, 102, 109, 110, 111, 112, 113, 114, 115, 116, 117, 118, 119, 120] (by decide +kernel) (by decide +kernel)
set_option maxRecDepth 20000 in
theorem gX6_settle_X6_position : GoodIn wsX6_settle (wsV RX6 141 RX6 yX6_position wsX6_position) := goodIn_app (goodIn_of _ (by decide +kernel)) ggX6_settle_X6_position
set_option maxRecDepth 20000 in
theorem ggX6_settle_X6_moves : GoodIn wsX6_settle wsX6_moves := goodIn_r _ [106, 107, 16, 108, 2, 80, 81, 6, 82, 12, 13, 14, 15, 25, 26, 27, 109, 110, 111, 112, 113, 114, 115, 116, 117, 118, 119, 120] (by decide +kernel) (by decide +kernel)
set_option maxRecDepth 20000 in
theorem gX6_settle_X6_moves : GoodIn wsX6_settle (wsV RX6 254 RX6 yX6_moves wsX6_moves) := goodIn_app (goodIn_of _ (by decide +kernel)) ggX6_settle_X6_moves
theorem dX6_settle_0 : decode cX6_settle 0 = .ok (.aload_n 0, 1) := by decide +kernel
theorem dX6_settle_1 : decode cX6_settle 1 = .ok (.invokevirtual 116, 3) := by decide +kernel
theorem dX6_settle_4 : decode cX6_settle 4 = .ok (.istore_n 1, 1) := by decide +kernel
theorem dX6_settle_5 : decode cX6_settle 5 = .ok (.iload_n 1, 1) := by decide +kernel
theorem dX6_settle_6 : decode cX6_settle 6 = .ok (.iconst (-1), 1) := by decide +kernel
theorem dX6_settle_7 : decode cX6_settle 7 = .ok (.if_icmp .ne 6, 3) := by decide +kernel
theorem dX6_settle_10 : decode cX6_settle 10 = .ok (.ldc 246, 2) := by decide +kernel
theorem dX6_settle_12 : decode cX6_settle 12 = .ok (.ireturn, 1) := by decide +kernel
theorem dX6_settle_13 : decode cX6_settle 13 = .ok (.aload_n 0, 1) := by decide +kernel
theorem dX6_settle_14 : decode cX6_settle 14 = .ok (.invokevirtual 239, 3) := by decide +kernel
theorem dX6_settle_17 : decode cX6_settle 17 = .ok (.iconst 0, 1) := by decide +kernel
theorem dX6_settle_18 : decode cX6_settle 18 = .ok (.istore_n 2, 1) := by decide +kernel
theorem dX6_settle_19 : decode cX6_settle 19 = .ok (.iload_n 2, 1) := by decide +kernel
theorem dX6_settle_20 : decode cX6_settle 20 = .ok (.iload_n 1, 1) := by decide +kernel
theorem dX6_settle_21 : decode cX6_settle 21 = .ok (.if_icmp .ge 23, 3) := by decide +kernel
theorem dX6_settle_24 : decode cX6_settle 24 = .ok (.aload_n 0, 1) := by decide +kernel
theorem dX6_settle_25 : decode cX6_settle 25 = .ok (.getfield 30, 3) := by decide +kernel
theorem dX6_settle_28 : decode cX6_settle 28 = .ok (.aload_n 0, 1) := by decide +kernel
theorem dX6_settle_29 : decode cX6_settle 29 = .ok (.bipush 15, 2) := by decide +kernel
theorem dX6_settle_31 : decode cX6_settle 31 = .ok (.iload_n 2, 1) := by decide +kernel
theorem dX6_settle_32 : decode cX6_settle 32 = .ok (.iload_n 1, 1) := by decide +kernel
theorem dX6_settle_33 : decode cX6_settle 33 = .ok (.invokevirtual 141, 3) := by decide +kernel
theorem dX6_settle_36 : decode cX6_settle 36 = .ok (.iload_n 2, 1) := by decide +kernel
theorem dX6_settle_37 : decode cX6_settle 37 = .ok (.iastore, 1) := by decide +kernel
theorem dX6_settle_38 : decode cX6_settle 38 = .ok (.iinc 2 1, 3) := by decide +kernel
theorem dX6_settle_41 : decode cX6_settle 41 = .ok (.goto (-22), 3) := by decide +kernel
theorem dX6_settle_44 : decode cX6_settle 44 = .ok (.aload_n 0, 1) := by decide +kernel
theorem dX6_settle_45 : decode cX6_settle 45 = .ok (.iload_n 1, 1) := by decide +kernel
theorem dX6_settle_46 : decode cX6_settle 46 = .ok (.invokevirtual 254, 3) := by decide +kernel
theorem dX6_settle_49 : decode cX6_settle 49 = .ok (.ireturn, 1) := by decide +kernel
set_option maxRecDepth 20000 in
theorem ggX6_pass_X6_places : GoodIn wsX6_pass wsX6_places := goodIn_r _ [7, 8, 9, 10, 6, 11, 12, 13, 14, 15, 16, 17, 18, 19, 20, 21, 22, 23, 24, 25, 26, 27, 28, 29, 30, 31, 32, 33, 34, 35, 36, 37, 38, 39, 40, 41, 42, 43, 44, 45, 46, 47, 48, 49, 50, 113, 114, 115, 116, 117, 118, 119, 120, 121, 122, 123, 124] (by decide +kernel) (by decide +kernel)
set_option maxRecDepth 20000 in
theorem gX6_pass_X6_places : GoodIn wsX6_pass (wsV RX6 116 RX6 yX6_places wsX6_places) := goodIn_app (goodIn_of _ (by decide +kernel)) ggX6_pass_X6_places
set_option maxRecDepth 20000 in
theorem ggX6_pass_X6_minds : GoodIn wsX6_pass wsX6_minds := goodIn_r _ [54, 55, 16, 56, 57, 58, 6, 59, 113, 114, 115, 116, 117, 118, 119, 120, 121, 122, 123, 124] (by decide +kernel) (by decide +kernel)
set_option maxRecDepth 20000 in
theorem gX6_pass_X6_minds : GoodIn wsX6_pass (wsV RX6 239 RX6 yX6_minds wsX6_minds) := goodIn_app (goodIn_of _ (by decide +kernel)) ggX6_pass_X6_minds
set_option maxRecDepth 20000 in
theorem ggX6_pass_X6_isLess : GoodIn wsX6_pass wsX6_isLess := goodIn_r _ [63, 64, 65, 66, 6, 67, 16, 17, 18, 19, 20, 25, 26, 27, 21, 22, 23, 24, 40, 41, 42, 43, 68, 69, 70, 71, 72, 73, 74, 75, 76, 77, 78, 79, 80, 81, 82, 83, 84, 85, 86, 87, 88, 89, 90, 91, 92, 93, 94, 95, 96, 97, 98, 99, 100, 101, 102, 113, 114, 115, 116, 117, 118, 119, 120, 121, 122, 123, 124] (by decide +kernel) (by decide +kernel)
set_option maxRecDepth 20000 in
theorem gX6_pass_X6_isLess : GoodIn wsX6_pass (wsV RX6 138 RX6 yX6_isLess wsX6_isLess) := goodIn_app (goodIn_of _ (by decide +kernel)) ggX6_pass_X6_isLess
set_option maxRecDepth 20000 in
theorem ggX6_pass_X6_stays : GoodIn wsX6_pass wsX6_stays := goodIn_r _ [106, 2, 113, 114, 115, 116, 117, 118, 119, 120, 121, 122, 123, 124] (by decide +kernel) (by decide +kernel)
set_option maxRecDepth 20000 in
theorem gX6_pass_X6_stays : GoodIn wsX6_pass (wsV RX6 257 RX6 yX6_stays wsX6_stays) := goodIn_app (goodIn_of _ (by decide +kernel)) ggX6_pass_X6_stays
set_option maxRecDepth 20000 in
theorem ggX6_pass_X6_moves : GoodIn wsX6_pass wsX6_moves := goodIn_r _ [110, 111, 16, 112, 2, 80, 81, 6, 82, 12, 13, 14, 15, 25, 26, 27, 113, 114, 115, 116, 117, 118, 119, 120, 121, 122, 123, 124] (by decide +kernel) (by decide +kernel)
set_option maxRecDepth 20000 in
theorem gX6_pass_X6_moves : GoodIn wsX6_pass (wsV RX6 254 RX6 yX6_moves wsX6_moves) := goodIn_app (goodIn_of _ (by decide +kernel)) ggX6_pass_X6_moves
theorem dX6_pass_0 : decode cX6_pass 0 = .ok (.aload_n 0, 1) := by decide +kernel
theorem dX6_pass_1 : decode cX6_pass 1 = .ok (.invokevirtual 116, 3) := by decide +kernel
theorem dX6_pass_4 : decode cX6_pass 4 = .ok (.istore_n 1, 1) := by decide +kernel
theorem dX6_pass_5 : decode cX6_pass 5 = .ok (.iload_n 1, 1) := by decide +kernel
theorem dX6_pass_6 : decode cX6_pass 6 = .ok (.iconst (-1), 1) := by decide +kernel
theorem dX6_pass_7 : decode cX6_pass 7 = .ok (.if_icmp .ne 6, 3) := by decide +kernel
theorem dX6_pass_10 : decode cX6_pass 10 = .ok (.ldc 246, 2) := by decide +kernel
theorem dX6_pass_12 : decode cX6_pass 12 = .ok (.ireturn, 1) := by decide +kernel
theorem dX6_pass_13 : decode cX6_pass 13 = .ok (.aload_n 0, 1) := by decide +kernel
theorem dX6_pass_14 : decode cX6_pass 14 = .ok (.invokevirtual 239, 3) := by decide +kernel
theorem dX6_pass_17 : decode cX6_pass 17 = .ok (.iconst 0, 1) := by decide +kernel
theorem dX6_pass_18 : decode cX6_pass 18 = .ok (.istore_n 2, 1) := by decide +kernel
theorem dX6_pass_19 : decode cX6_pass 19 = .ok (.iconst 0, 1) := by decide +kernel
theorem dX6_pass_20 : decode cX6_pass 20 = .ok (.istore_n 3, 1) := by decide +kernel
theorem dX6_pass_21 : decode cX6_pass 21 = .ok (.iload_n 3, 1) := by decide +kernel
theorem dX6_pass_22 : decode cX6_pass 22 = .ok (.iconst 1, 1) := by decide +kernel
theorem dX6_pass_23 : decode cX6_pass 23 = .ok (.iadd, 1) := by decide +kernel
theorem dX6_pass_24 : decode cX6_pass 24 = .ok (.iload_n 1, 1) := by decide +kernel
theorem dX6_pass_25 : decode cX6_pass 25 = .ok (.if_icmp .ge 52, 3) := by decide +kernel
theorem dX6_pass_28 : decode cX6_pass 28 = .ok (.aload_n 0, 1) := by decide +kernel
theorem dX6_pass_29 : decode cX6_pass 29 = .ok (.iload_n 3, 1) := by decide +kernel
theorem dX6_pass_30 : decode cX6_pass 30 = .ok (.iconst 1, 1) := by decide +kernel
theorem dX6_pass_31 : decode cX6_pass 31 = .ok (.iadd, 1) := by decide +kernel
theorem dX6_pass_32 : decode cX6_pass 32 = .ok (.iload_n 3, 1) := by decide +kernel
theorem dX6_pass_33 : decode cX6_pass 33 = .ok (.invokevirtual 138, 3) := by decide +kernel
theorem dX6_pass_36 : decode cX6_pass 36 = .ok (.ifCond .eq 35, 3) := by decide +kernel
theorem dX6_pass_39 : decode cX6_pass 39 = .ok (.aload_n 0, 1) := by decide +kernel
theorem dX6_pass_40 : decode cX6_pass 40 = .ok (.iload_n 1, 1) := by decide +kernel
theorem dX6_pass_41 : decode cX6_pass 41 = .ok (.invokevirtual 257, 3) := by decide +kernel
theorem dX6_pass_44 : decode cX6_pass 44 = .ok (.aload_n 0, 1) := by decide +kernel
theorem dX6_pass_45 : decode cX6_pass 45 = .ok (.getfield 30, 3) := by decide +kernel
theorem dX6_pass_48 : decode cX6_pass 48 = .ok (.iload_n 3, 1) := by decide +kernel
theorem dX6_pass_49 : decode cX6_pass 49 = .ok (.iload_n 3, 1) := by decide +kernel
theorem dX6_pass_50 : decode cX6_pass 50 = .ok (.iconst 1, 1) := by decide +kernel
theorem dX6_pass_51 : decode cX6_pass 51 = .ok (.iadd, 1) := by decide +kernel
theorem dX6_pass_52 : decode cX6_pass 52 = .ok (.iastore, 1) := by decide +kernel
theorem dX6_pass_53 : decode cX6_pass 53 = .ok (.aload_n 0, 1) := by decide +kernel
theorem dX6_pass_54 : decode cX6_pass 54 = .ok (.getfield 30, 3) := by decide +kernel
theorem dX6_pass_57 : decode cX6_pass 57 = .ok (.iload_n 3, 1) := by decide +kernel
theorem dX6_pass_58 : decode cX6_pass 58 = .ok (.iconst 1, 1) := by decide +kernel
theorem dX6_pass_59 : decode cX6_pass 59 = .ok (.iadd, 1) := by decide +kernel
theorem dX6_pass_60 : decode cX6_pass 60 = .ok (.iload_n 3, 1) := by decide +kernel
theorem dX6_pass_61 : decode cX6_pass 61 = .ok (.iastore, 1) := by decide +kernel
theorem dX6_pass_62 : decode cX6_pass 62 = .ok (.aload_n 0, 1) := by decide +kernel
theorem dX6_pass_63 : decode cX6_pass 63 = .ok (.iload_n 1, 1) := by decide +kernel
theorem dX6_pass_64 : decode cX6_pass 64 = .ok (.invokevirtual 254, 3) := by decide +kernel
theorem dX6_pass_67 : decode cX6_pass 67 = .ok (.pop, 1) := by decide +kernel
theorem dX6_pass_68 : decode cX6_pass 68 = .ok (.iinc 2 1, 3) := by decide +kernel
theorem dX6_pass_71 : decode cX6_pass 71 = .ok (.iinc 3 1, 3) := by decide +kernel
theorem dX6_pass_74 : decode cX6_pass 74 = .ok (.goto (-53), 3) := by decide +kernel
theorem dX6_pass_77 : decode cX6_pass 77 = .ok (.iload_n 2, 1) := by decide +kernel
theorem dX6_pass_78 : decode cX6_pass 78 = .ok (.ireturn, 1) := by decide +kernel
set_option maxRecDepth 20000 in
theorem ggX6_move_X6_isPlace : GoodIn wsX6_move wsX6_isPlace := goodIn_r _ [9, 10, 11, 12, 8, 13, 14, 15, 16, 17, 18, 19, 20, 21, 22, 23, 24, 25, 26, 27, 28, 29, 30, 31, 32, 33, 34, 35, 36, 37, 38, 39, 40, 41, 42, 43, 44, 45, 46, 47, 48, 49, 50, 51, 52, 53, 54, 55, 56, 57, 58, 59, 82, 83, 84, 85, 86, 87, 88, 89, 90, 91, 92, 93] (by decide +kernel) (by decide +kernel)
set_option maxRecDepth 20000 in
theorem gX6_move_X6_isPlace : GoodIn wsX6_move (wsV RX6 212 RX6 yX6_isPlace wsX6_isPlace) := goodIn_app (goodIn_of _ (by decide +kernel)) ggX6_move_X6_isPlace
set_option maxRecDepth 20000 in
theorem ggX6_move_X6_in : GoodIn wsX6_move wsX6_in := goodIn_r _ [59] (by decide +kernel) (by decide +kernel)
set_option maxRecDepth 20000 in
theorem gX6_move_X6_in : GoodIn wsX6_move (va_wsS RX6 74 yX6_in wsX6_in) := goodIn_app (goodIn_of _ (by decide +kernel)) ggX6_move_X6_in
set_option maxRecDepth 20000 in
theorem ggX6_move_X6_minds : GoodIn wsX6_move wsX6_minds := goodIn_r _ [63, 64, 22, 65, 66, 67, 8, 68, 82, 83, 84, 85, 86, 87, 88, 89, 90, 91, 92, 93] (by decide +kernel) (by decide +kernel)
set_option maxRecDepth 20000 in
theorem gX6_move_X6_minds : GoodIn wsX6_move (wsV RX6 239 RX6 yX6_minds wsX6_minds) := goodIn_app (goodIn_of _ (by decide +kernel)) ggX6_move_X6_minds
set_option maxRecDepth 20000 in
theorem ggX6_move_X6_places : GoodIn wsX6_move wsX6_places := goodIn_r _ [13, 14, 15, 16, 8, 17, 18, 19, 20, 21, 22, 23, 24, 25, 26, 27, 28, 29, 30, 31, 32, 33, 34, 35, 36, 37, 38, 39, 40, 41, 42, 43, 44, 45, 46, 47, 48, 49, 50, 51, 52, 53, 54, 55, 56, 82, 83, 84, 85, 86, 87, 88, 89, 90, 91, 92, 93] (by decide +kernel) (by decide +kernel)
set_option maxRecDepth 20000 in
theorem gX6_move_X6_places : GoodIn wsX6_move (wsV RX6 116 RX6 yX6_places wsX6_places) := goodIn_app (goodIn_of _ (by decide +kernel)) ggX6_move_X6_places
set_option maxRecDepth 20000 in
theorem ggX6_move_X6_stays : GoodIn wsX6_move wsX6_stays := goodIn_r _ [72, 4, 82, 83, 84, 85, 86, 87, 88, 89, 90, 91, 92, 93] (by decide +kernel) (by decide +kernel)
set_option maxRecDepth 20000 in
theorem gX6_move_X6_stays : GoodIn wsX6_move (wsV RX6 257 RX6 yX6_stays wsX6_stays) := goodIn_app (goodIn_of _ (by decide +kernel)) ggX6_move_X6_stays
set_option maxRecDepth 20000 in
theorem ggX6_move_X6_moves : GoodIn wsX6_move wsX6_moves := goodIn_r _ [76, 77, 22, 78, 4, 79, 80, 8, 81, 18, 19, 20, 21, 31, 32, 33, 82, 83, 84, 85, 86, 87, 88, 89, 90, 91, 92, 93] (by decide +kernel) (by decide +kernel)
set_option maxRecDepth 20000 in
theorem gX6_move_X6_moves : GoodIn wsX6_move (wsV RX6 254 RX6 yX6_moves wsX6_moves) := goodIn_app (goodIn_of _ (by decide +kernel)) ggX6_move_X6_moves
theorem dX6_move_0 : decode cX6_move 0 = .ok (.aload_n 0, 1) := by decide +kernel
theorem dX6_move_1 : decode cX6_move 1 = .ok (.iload_n 1, 1) := by decide +kernel
theorem dX6_move_2 : decode cX6_move 2 = .ok (.invokevirtual 212, 3) := by decide +kernel
theorem dX6_move_5 : decode cX6_move 5 = .ok (.ifCond .eq 11, 3) := by decide +kernel
theorem dX6_move_8 : decode cX6_move 8 = .ok (.aload_n 0, 1) := by decide +kernel
theorem dX6_move_9 : decode cX6_move 9 = .ok (.iload_n 2, 1) := by decide +kernel
theorem dX6_move_10 : decode cX6_move 10 = .ok (.invokevirtual 212, 3) := by decide +kernel
theorem dX6_move_13 : decode cX6_move 13 = .ok (.ifCond .ne 6, 3) := by decide +kernel
theorem dX6_move_16 : decode cX6_move 16 = .ok (.ldc 198, 2) := by decide +kernel
theorem dX6_move_18 : decode cX6_move 18 = .ok (.ireturn, 1) := by decide +kernel
theorem dX6_move_19 : decode cX6_move 19 = .ok (.iload_n 3, 1) := by decide +kernel
theorem dX6_move_20 : decode cX6_move 20 = .ok (.i2l, 1) := by decide +kernel
theorem dX6_move_21 : decode cX6_move 21 = .ok (.lconst 0, 1) := by decide +kernel
theorem dX6_move_22 : decode cX6_move 22 = .ok (.ldc2_w 51, 3) := by decide +kernel
theorem dX6_move_25 : decode cX6_move 25 = .ok (.invokestatic 74, 3) := by decide +kernel
theorem dX6_move_28 : decode cX6_move 28 = .ok (.ifCond .ne 6, 3) := by decide +kernel
theorem dX6_move_31 : decode cX6_move 31 = .ok (.ldc 192, 2) := by decide +kernel
theorem dX6_move_33 : decode cX6_move 33 = .ok (.ireturn, 1) := by decide +kernel
theorem dX6_move_34 : decode cX6_move 34 = .ok (.aload_n 0, 1) := by decide +kernel
theorem dX6_move_35 : decode cX6_move 35 = .ok (.invokevirtual 239, 3) := by decide +kernel
theorem dX6_move_38 : decode cX6_move 38 = .ok (.aload_n 0, 1) := by decide +kernel
theorem dX6_move_39 : decode cX6_move 39 = .ok (.invokevirtual 116, 3) := by decide +kernel
theorem dX6_move_42 : decode cX6_move 42 = .ok (.istore 4, 2) := by decide +kernel
theorem dX6_move_44 : decode cX6_move 44 = .ok (.iload_n 1, 1) := by decide +kernel
theorem dX6_move_45 : decode cX6_move 45 = .ok (.iload_n 2, 1) := by decide +kernel
theorem dX6_move_46 : decode cX6_move 46 = .ok (.if_icmp .ge 7, 3) := by decide +kernel
theorem dX6_move_49 : decode cX6_move 49 = .ok (.iload_n 1, 1) := by decide +kernel
theorem dX6_move_50 : decode cX6_move 50 = .ok (.goto 4, 3) := by decide +kernel
theorem dX6_move_53 : decode cX6_move 53 = .ok (.iload_n 2, 1) := by decide +kernel
theorem dX6_move_54 : decode cX6_move 54 = .ok (.istore 5, 2) := by decide +kernel
theorem dX6_move_56 : decode cX6_move 56 = .ok (.iload_n 1, 1) := by decide +kernel
theorem dX6_move_57 : decode cX6_move 57 = .ok (.iload_n 2, 1) := by decide +kernel
theorem dX6_move_58 : decode cX6_move 58 = .ok (.if_icmp .ge 7, 3) := by decide +kernel
theorem dX6_move_61 : decode cX6_move 61 = .ok (.iload_n 2, 1) := by decide +kernel
theorem dX6_move_62 : decode cX6_move 62 = .ok (.goto 4, 3) := by decide +kernel
theorem dX6_move_65 : decode cX6_move 65 = .ok (.iload_n 1, 1) := by decide +kernel
theorem dX6_move_66 : decode cX6_move 66 = .ok (.istore 6, 2) := by decide +kernel
theorem dX6_move_68 : decode cX6_move 68 = .ok (.aload_n 0, 1) := by decide +kernel
theorem dX6_move_69 : decode cX6_move 69 = .ok (.iload 4, 2) := by decide +kernel
theorem dX6_move_71 : decode cX6_move 71 = .ok (.invokevirtual 257, 3) := by decide +kernel
theorem dX6_move_74 : decode cX6_move 74 = .ok (.iload 5, 2) := by decide +kernel
theorem dX6_move_76 : decode cX6_move 76 = .ok (.istore 7, 2) := by decide +kernel
theorem dX6_move_78 : decode cX6_move 78 = .ok (.iload 7, 2) := by decide +kernel
theorem dX6_move_80 : decode cX6_move 80 = .ok (.iload 6, 2) := by decide +kernel
theorem dX6_move_82 : decode cX6_move 82 = .ok (.if_icmp .gt 82, 3) := by decide +kernel
theorem dX6_move_85 : decode cX6_move 85 = .ok (.iload 7, 2) := by decide +kernel
theorem dX6_move_87 : decode cX6_move 87 = .ok (.iload_n 2, 1) := by decide +kernel
theorem dX6_move_88 : decode cX6_move 88 = .ok (.if_icmp .ne 7, 3) := by decide +kernel
theorem dX6_move_91 : decode cX6_move 91 = .ok (.iload_n 1, 1) := by decide +kernel
theorem dX6_move_92 : decode cX6_move 92 = .ok (.goto 19, 3) := by decide +kernel
theorem dX6_move_95 : decode cX6_move 95 = .ok (.iload_n 1, 1) := by decide +kernel
theorem dX6_move_96 : decode cX6_move 96 = .ok (.iload_n 2, 1) := by decide +kernel
theorem dX6_move_97 : decode cX6_move 97 = .ok (.if_icmp .ge 10, 3) := by decide +kernel
theorem dX6_move_100 : decode cX6_move 100 = .ok (.iload 7, 2) := by decide +kernel
theorem dX6_move_102 : decode cX6_move 102 = .ok (.iconst 1, 1) := by decide +kernel
theorem dX6_move_103 : decode cX6_move 103 = .ok (.iadd, 1) := by decide +kernel
theorem dX6_move_104 : decode cX6_move 104 = .ok (.goto 7, 3) := by decide +kernel
theorem dX6_move_107 : decode cX6_move 107 = .ok (.iload 7, 2) := by decide +kernel
theorem dX6_move_109 : decode cX6_move 109 = .ok (.iconst 1, 1) := by decide +kernel
theorem dX6_move_110 : decode cX6_move 110 = .ok (.isub, 1) := by decide +kernel
theorem dX6_move_111 : decode cX6_move 111 = .ok (.istore 8, 2) := by decide +kernel
theorem dX6_move_113 : decode cX6_move 113 = .ok (.aload_n 0, 1) := by decide +kernel
theorem dX6_move_114 : decode cX6_move 114 = .ok (.getfield 30, 3) := by decide +kernel
theorem dX6_move_117 : decode cX6_move 117 = .ok (.iload 7, 2) := by decide +kernel
theorem dX6_move_119 : decode cX6_move 119 = .ok (.iload_n 3, 1) := by decide +kernel
theorem dX6_move_120 : decode cX6_move 120 = .ok (.iconst 2, 1) := by decide +kernel
theorem dX6_move_121 : decode cX6_move 121 = .ok (.if_icmp .ne 8, 3) := by decide +kernel
theorem dX6_move_124 : decode cX6_move 124 = .ok (.iload 8, 2) := by decide +kernel
theorem dX6_move_126 : decode cX6_move 126 = .ok (.goto 31, 3) := by decide +kernel
theorem dX6_move_129 : decode cX6_move 129 = .ok (.iload_n 3, 1) := by decide +kernel
theorem dX6_move_130 : decode cX6_move 130 = .ok (.iconst 1, 1) := by decide +kernel
theorem dX6_move_131 : decode cX6_move 131 = .ok (.if_icmp .eq 15, 3) := by decide +kernel
theorem dX6_move_134 : decode cX6_move 134 = .ok (.iload 7, 2) := by decide +kernel
theorem dX6_move_136 : decode cX6_move 136 = .ok (.iload_n 1, 1) := by decide +kernel
theorem dX6_move_137 : decode cX6_move 137 = .ok (.if_icmp .eq 9, 3) := by decide +kernel
theorem dX6_move_140 : decode cX6_move 140 = .ok (.iload 7, 2) := by decide +kernel
theorem dX6_move_142 : decode cX6_move 142 = .ok (.iload_n 2, 1) := by decide +kernel
theorem dX6_move_143 : decode cX6_move 143 = .ok (.if_icmp .ne 12, 3) := by decide +kernel
theorem dX6_move_146 : decode cX6_move 146 = .ok (.iload_n 1, 1) := by decide +kernel
theorem dX6_move_147 : decode cX6_move 147 = .ok (.iload_n 2, 1) := by decide +kernel
theorem dX6_move_148 : decode cX6_move 148 = .ok (.iadd, 1) := by decide +kernel
theorem dX6_move_149 : decode cX6_move 149 = .ok (.iload 7, 2) := by decide +kernel
theorem dX6_move_151 : decode cX6_move 151 = .ok (.isub, 1) := by decide +kernel
theorem dX6_move_152 : decode cX6_move 152 = .ok (.goto 5, 3) := by decide +kernel
theorem dX6_move_155 : decode cX6_move 155 = .ok (.iload 7, 2) := by decide +kernel
theorem dX6_move_157 : decode cX6_move 157 = .ok (.iastore, 1) := by decide +kernel
theorem dX6_move_158 : decode cX6_move 158 = .ok (.iinc 7 1, 3) := by decide +kernel
theorem dX6_move_161 : decode cX6_move 161 = .ok (.goto (-83), 3) := by decide +kernel
theorem dX6_move_164 : decode cX6_move 164 = .ok (.aload_n 0, 1) := by decide +kernel
theorem dX6_move_165 : decode cX6_move 165 = .ok (.iload 4, 2) := by decide +kernel
theorem dX6_move_167 : decode cX6_move 167 = .ok (.invokevirtual 254, 3) := by decide +kernel
theorem dX6_move_170 : decode cX6_move 170 = .ok (.pop, 1) := by decide +kernel
theorem dX6_move_171 : decode cX6_move 171 = .ok (.iconst 1, 1) := by decide +kernel
theorem dX6_move_172 : decode cX6_move 172 = .ok (.ireturn, 1) := by decide +kernel
set_option maxRecDepth 20000 in
theorem ggX6_part_X6_isPlace : GoodIn wsX6_part wsX6_isPlace := goodIn_r _ [7, 8, 9, 10, 6, 11, 12, 13, 14, 15, 16, 17, 18, 19, 20, 21, 22, 23, 24, 25, 26, 27, 28, 29, 30, 31, 32, 33, 34, 35, 36, 37, 38, 39, 40, 41, 42, 43, 44, 45, 46, 47, 48, 49, 50, 51, 52, 53, 54, 55, 56, 57, 124, 125, 126, 127, 128, 129, 130, 131, 132, 133, 134, 135] (by decide +kernel) (by decide +kernel)
set_option maxRecDepth 20000 in
theorem gX6_part_X6_isPlace : GoodIn wsX6_part (wsV RX6 212 RX6 yX6_isPlace wsX6_isPlace) := goodIn_app (goodIn_of _ (by decide +kernel)) ggX6_part_X6_isPlace
set_option maxRecDepth 20000 in
theorem ggX6_part_X6_minds : GoodIn wsX6_part wsX6_minds := goodIn_r _ [61, 62, 20, 63, 64, 65, 6, 66, 124, 125, 126, 127, 128, 129, 130, 131, 132, 133, 134, 135] (by decide +kernel) (by decide +kernel)
set_option maxRecDepth 20000 in
theorem gX6_part_X6_minds : GoodIn wsX6_part (wsV RX6 239 RX6 yX6_minds wsX6_minds) := goodIn_app (goodIn_of _ (by decide +kernel)) ggX6_part_X6_minds
set_option maxRecDepth 20000 in
theorem ggX6_part_X6_places : GoodIn wsX6_part wsX6_places := goodIn_r _ [11, 12, 13, 14, 6, 15, 16, 17, 18, 19, 20, 21, 22, 23, 24, 25, 26, 27, 28, 29, 30, 31, 32, 33, 34, 35, 36, 37, 38, 39, 40, 41, 42, 43, 44, 45, 46, 47, 48, 49, 50, 51, 52, 53, 54, 124, 125, 126, 127, 128, 129, 130, 131, 132, 133, 134, 135] (by decide +kernel) (by decide +kernel)
set_option maxRecDepth 20000 in
theorem gX6_part_X6_places : GoodIn wsX6_part (wsV RX6 116 RX6 yX6_places wsX6_places) := goodIn_app (goodIn_of _ (by decide +kernel)) ggX6_part_X6_places
set_option maxRecDepth 20000 in
theorem ggX6_part_X6_by : GoodIn wsX6_part wsX6_by := goodIn_r _ [70, 20, 21, 22, 23, 6, 24, 29, 30, 31, 25, 26, 27, 28, 44, 45, 46, 47, 71, 72, 73, 74, 75, 76, 77, 78, 79, 80, 81, 82, 83, 84, 85, 86, 87, 88, 89, 90, 91, 92, 93, 94, 95, 96, 97, 98, 99, 100, 101, 102, 103, 104, 105, 124, 125, 126, 127, 128, 129, 130, 131, 132, 133, 134, 135] (by decide +kernel) (by decide +kernel)
set_option maxRecDepth 20000 in
theorem gX6_part_X6_by : GoodIn wsX6_part (wsV RX6 135 RX6 yX6_by wsX6_by) := goodIn_app (goodIn_of _ (by decide +kernel)) ggX6_part_X6_by
set_option maxRecDepth 20000 in
theorem ggX6_part_X6_lessThan : GoodIn wsX6_part wsX6_lessThan := goodIn_r _ [109, 110, 111, 112, 6, 113, 67, 68, 69, 70, 20, 21, 22, 23, 24, 29, 30, 31, 25, 26, 27, 28, 44, 45, 46, 47, 71, 72, 73, 74, 75, 76, 77, 78, 79, 80, 81, 82, 83, 84, 85, 86, 87, 88, 89, 90, 91, 92, 93, 94, 95, 96, 97, 98, 99, 100, 101, 102, 103, 104, 105, 124, 125, 126, 127, 128, 129, 130, 131, 132, 133, 134, 135] (by decide +kernel) (by decide +kernel)
set_option maxRecDepth 20000 in
theorem gX6_part_X6_lessThan : GoodIn wsX6_part (wsV RX6 215 RX6 yX6_lessThan wsX6_lessThan) := goodIn_app (goodIn_of _ (by decide +kernel)) ggX6_part_X6_lessThan
set_option maxRecDepth 20000 in
theorem ggX6_part_X6_alikeTo : GoodIn wsX6_part wsX6_alikeTo := goodIn_r _ [117, 67, 68, 69, 6, 70, 20, 21, 22, 23, 24, 29, 30, 31, 25, 26, 27, 28, 44, 45, 46, 47, 71, 72, 73, 74, 75, 76, 77, 78, 79, 80, 81, 82, 83, 84, 85, 86, 87, 88, 89, 90, 91, 92, 93, 94, 95, 96, 97, 98, 99, 100, 101, 102, 103, 104, 105, 124, 125, 126, 127, 128, 129, 130, 131, 132, 133, 134, 135] (by decide +kernel) (by decide +kernel)
set_option maxRecDepth 20000 in
theorem gX6_part_X6_alikeTo : GoodIn wsX6_part (wsV RX6 221 RX6 yX6_alikeTo wsX6_alikeTo) := goodIn_app (goodIn_of _ (by decide +kernel)) ggX6_part_X6_alikeTo
set_option maxRecDepth 20000 in
theorem ggX6_part_X6_moves : GoodIn wsX6_part wsX6_moves := goodIn_r _ [121, 122, 20, 123, 2, 83, 84, 6, 85, 16, 17, 18, 19, 29, 30, 31, 124, 125, 126, 127, 128, 129, 130, 131, 132, 133, 134, 135] (by decide +kernel) (by decide +kernel)
set_option maxRecDepth 20000 in
theorem gX6_part_X6_moves : GoodIn wsX6_part (wsV RX6 254 RX6 yX6_moves wsX6_moves) := goodIn_app (goodIn_of _ (by decide +kernel)) ggX6_part_X6_moves
theorem dX6_part_0 : decode cX6_part 0 = .ok (.aload_n 0, 1) := by decide +kernel
theorem dX6_part_1 : decode cX6_part 1 = .ok (.iload_n 1, 1) := by decide +kernel
theorem dX6_part_2 : decode cX6_part 2 = .ok (.invokevirtual 212, 3) := by decide +kernel
theorem dX6_part_5 : decode cX6_part 5 = .ok (.ifCond .ne 6, 3) := by decide +kernel
theorem dX6_part_8 : decode cX6_part 8 = .ok (.ldc 198, 2) := by decide +kernel
theorem dX6_part_10 : decode cX6_part 10 = .ok (.ireturn, 1) := by decide +kernel
theorem dX6_part_11 : decode cX6_part 11 = .ok (.aload_n 0, 1) := by decide +kernel
theorem dX6_part_12 : decode cX6_part 12 = .ok (.invokevirtual 239, 3) := by decide +kernel
theorem dX6_part_15 : decode cX6_part 15 = .ok (.aload_n 0, 1) := by decide +kernel
theorem dX6_part_16 : decode cX6_part 16 = .ok (.invokevirtual 116, 3) := by decide +kernel
theorem dX6_part_19 : decode cX6_part 19 = .ok (.istore_n 2, 1) := by decide +kernel
theorem dX6_part_20 : decode cX6_part 20 = .ok (.iconst 0, 1) := by decide +kernel
theorem dX6_part_21 : decode cX6_part 21 = .ok (.istore_n 3, 1) := by decide +kernel
theorem dX6_part_22 : decode cX6_part 22 = .ok (.iconst (-1), 1) := by decide +kernel
theorem dX6_part_23 : decode cX6_part 23 = .ok (.istore 4, 2) := by decide +kernel
theorem dX6_part_25 : decode cX6_part 25 = .ok (.iload 4, 2) := by decide +kernel
theorem dX6_part_27 : decode cX6_part 27 = .ok (.iconst 2, 1) := by decide +kernel
theorem dX6_part_28 : decode cX6_part 28 = .ok (.if_icmp .ge 49, 3) := by decide +kernel
theorem dX6_part_31 : decode cX6_part 31 = .ok (.iconst 0, 1) := by decide +kernel
theorem dX6_part_32 : decode cX6_part 32 = .ok (.istore 5, 2) := by decide +kernel
theorem dX6_part_34 : decode cX6_part 34 = .ok (.iload 5, 2) := by decide +kernel
theorem dX6_part_36 : decode cX6_part 36 = .ok (.iload_n 2, 1) := by decide +kernel
theorem dX6_part_37 : decode cX6_part 37 = .ok (.if_icmp .ge 34, 3) := by decide +kernel
theorem dX6_part_40 : decode cX6_part 40 = .ok (.aload_n 0, 1) := by decide +kernel
theorem dX6_part_41 : decode cX6_part 41 = .ok (.bipush 15, 2) := by decide +kernel
theorem dX6_part_43 : decode cX6_part 43 = .ok (.iload 5, 2) := by decide +kernel
theorem dX6_part_45 : decode cX6_part 45 = .ok (.iload_n 1, 1) := by decide +kernel
theorem dX6_part_46 : decode cX6_part 46 = .ok (.invokevirtual 135, 3) := by decide +kernel
theorem dX6_part_49 : decode cX6_part 49 = .ok (.iload 4, 2) := by decide +kernel
theorem dX6_part_51 : decode cX6_part 51 = .ok (.if_icmp .ne 14, 3) := by decide +kernel
theorem dX6_part_54 : decode cX6_part 54 = .ok (.aload_n 0, 1) := by decide +kernel
theorem dX6_part_55 : decode cX6_part 55 = .ok (.getfield 30, 3) := by decide +kernel
theorem dX6_part_58 : decode cX6_part 58 = .ok (.iload_n 3, 1) := by decide +kernel
theorem dX6_part_59 : decode cX6_part 59 = .ok (.iload 5, 2) := by decide +kernel
theorem dX6_part_61 : decode cX6_part 61 = .ok (.iastore, 1) := by decide +kernel
theorem dX6_part_62 : decode cX6_part 62 = .ok (.iinc 3 1, 3) := by decide +kernel
theorem dX6_part_65 : decode cX6_part 65 = .ok (.iinc 5 1, 3) := by decide +kernel
theorem dX6_part_68 : decode cX6_part 68 = .ok (.goto (-34), 3) := by decide +kernel
theorem dX6_part_71 : decode cX6_part 71 = .ok (.iinc 4 1, 3) := by decide +kernel
theorem dX6_part_74 : decode cX6_part 74 = .ok (.goto (-49), 3) := by decide +kernel
theorem dX6_part_77 : decode cX6_part 77 = .ok (.aload_n 0, 1) := by decide +kernel
theorem dX6_part_78 : decode cX6_part 78 = .ok (.iload_n 1, 1) := by decide +kernel
theorem dX6_part_79 : decode cX6_part 79 = .ok (.iload_n 2, 1) := by decide +kernel
theorem dX6_part_80 : decode cX6_part 80 = .ok (.invokevirtual 215, 3) := by decide +kernel
theorem dX6_part_83 : decode cX6_part 83 = .ok (.istore 4, 2) := by decide +kernel
theorem dX6_part_85 : decode cX6_part 85 = .ok (.aload_n 0, 1) := by decide +kernel
theorem dX6_part_86 : decode cX6_part 86 = .ok (.iload_n 1, 1) := by decide +kernel
theorem dX6_part_87 : decode cX6_part 87 = .ok (.iload_n 2, 1) := by decide +kernel
theorem dX6_part_88 : decode cX6_part 88 = .ok (.invokevirtual 221, 3) := by decide +kernel
theorem dX6_part_91 : decode cX6_part 91 = .ok (.istore 5, 2) := by decide +kernel
theorem dX6_part_93 : decode cX6_part 93 = .ok (.aload_n 0, 1) := by decide +kernel
theorem dX6_part_94 : decode cX6_part 94 = .ok (.iload_n 2, 1) := by decide +kernel
theorem dX6_part_95 : decode cX6_part 95 = .ok (.invokevirtual 254, 3) := by decide +kernel
theorem dX6_part_98 : decode cX6_part 98 = .ok (.pop, 1) := by decide +kernel
theorem dX6_part_99 : decode cX6_part 99 = .ok (.bipush 100, 2) := by decide +kernel
theorem dX6_part_101 : decode cX6_part 101 = .ok (.iload 4, 2) := by decide +kernel
theorem dX6_part_103 : decode cX6_part 103 = .ok (.imul, 1) := by decide +kernel
theorem dX6_part_104 : decode cX6_part 104 = .ok (.iload 5, 2) := by decide +kernel
theorem dX6_part_106 : decode cX6_part 106 = .ok (.iadd, 1) := by decide +kernel
theorem dX6_part_107 : decode cX6_part 107 = .ok (.ireturn, 1) := by decide +kernel
set_option maxRecDepth 20000 in
theorem ggX6_figure_X6_isSlot : GoodIn wsX6_figure wsX6_isSlot := goodIn_r _ [11, 12, 13, 14, 10, 15] (by decide +kernel) (by decide +kernel)
set_option maxRecDepth 20000 in
theorem gX6_figure_X6_isSlot : GoodIn wsX6_figure (va_wsS RX6 195 yX6_isSlot wsX6_isSlot) := goodIn_app (goodIn_of _ (by decide +kernel)) ggX6_figure_X6_isSlot
set_option maxRecDepth 20000 in
theorem ggX6_figure_X6_in : GoodIn wsX6_figure wsX6_in := goodIn_r _ [15] (by decide +kernel) (by decide +kernel)
set_option maxRecDepth 20000 in
theorem gX6_figure_X6_in : GoodIn wsX6_figure (va_wsS RX6 74 yX6_in wsX6_in) := goodIn_app (goodIn_of _ (by decide +kernel)) ggX6_figure_X6_in
set_option maxRecDepth 20000 in
theorem ggX6_figure_X6_places : GoodIn wsX6_figure wsX6_places := goodIn_r _ [19, 20, 21, 22, 10, 23, 24, 25, 26, 27, 5, 28, 29, 30, 31, 32, 33, 34, 35, 36, 37, 38, 39, 40, 41, 42, 43, 44, 45, 46, 47, 48, 49, 50, 51, 52, 53, 54, 55, 56, 57, 58, 59, 60, 61, 80, 81, 82, 83, 84, 85, 86, 87, 88, 89, 90, 91] (by decide +kernel) (by decide +kernel)
set_option maxRecDepth 20000 in
theorem gX6_figure_X6_places : GoodIn wsX6_figure (wsV RX6 116 RX6 yX6_places wsX6_places) := goodIn_app (goodIn_of _ (by decide +kernel)) ggX6_figure_X6_places
set_option maxRecDepth 20000 in
theorem ggX6_figure_X6_isRow : GoodIn wsX6_figure wsX6_isRow := goodIn_r _ [42, 43, 44, 45, 10, 46, 5, 80, 81, 82, 83, 84, 85, 86, 87, 88, 89, 90, 91] (by decide +kernel) (by decide +kernel)
set_option maxRecDepth 20000 in
theorem gX6_figure_X6_isRow : GoodIn wsX6_figure (wsV RX6 67 RX6 yX6_isRow wsX6_isRow) := goodIn_app (goodIn_of _ (by decide +kernel)) ggX6_figure_X6_isRow
set_option maxRecDepth 20000 in
theorem ggX6_figure_X6_many : GoodIn wsX6_figure wsX6_many := goodIn_r _ [50, 5, 80, 81, 82, 83, 84, 85, 86, 87, 88, 89, 90, 91] (by decide +kernel) (by decide +kernel)
set_option maxRecDepth 20000 in
theorem gX6_figure_X6_many : GoodIn wsX6_figure (wsV RX6 71 RX6 yX6_many wsX6_many) := goodIn_app (goodIn_of _ (by decide +kernel)) ggX6_figure_X6_many
set_option maxRecDepth 20000 in
theorem ggX6_figure_X6_reads : GoodIn wsX6_figure wsX6_reads := goodIn_r _ [58, 43, 44, 45, 10, 46, 5, 59, 60, 61, 80, 81, 82, 83, 84, 85, 86, 87, 88, 89, 90, 91] (by decide +kernel) (by decide +kernel)
set_option maxRecDepth 20000 in
theorem gX6_figure_X6_reads : GoodIn wsX6_figure (wsV RX6 113 RX6 yX6_reads wsX6_reads) := goodIn_app (goodIn_of _ (by decide +kernel)) ggX6_figure_X6_reads
set_option maxRecDepth 20000 in
theorem ggX6_figure_X6_minds : GoodIn wsX6_figure wsX6_minds := goodIn_r _ [65, 66, 5, 67, 68, 69, 10, 70, 80, 81, 82, 83, 84, 85, 86, 87, 88, 89, 90, 91] (by decide +kernel) (by decide +kernel)
set_option maxRecDepth 20000 in
theorem gX6_figure_X6_minds : GoodIn wsX6_figure (wsV RX6 239 RX6 yX6_minds wsX6_minds) := goodIn_app (goodIn_of _ (by decide +kernel)) ggX6_figure_X6_minds
set_option maxRecDepth 20000 in
theorem ggX6_figure_X6_at : GoodIn wsX6_figure wsX6_at := goodIn_r _ [73] (by decide +kernel) (by decide +kernel)
set_option maxRecDepth 20000 in
theorem gX6_figure_X6_at : GoodIn wsX6_figure (va_wsS RX6 63 yX6_at wsX6_at) := goodIn_app (goodIn_of _ (by decide +kernel)) ggX6_figure_X6_at
set_option maxRecDepth 20000 in
theorem ggX6_figure_X6_moves : GoodIn wsX6_figure wsX6_moves := goodIn_r _ [77, 78, 5, 79, 7, 71, 72, 10, 73, 24, 25, 26, 27, 36, 37, 38, 80, 81, 82, 83, 84, 85, 86, 87, 88, 89, 90, 91] (by decide +kernel) (by decide +kernel)
set_option maxRecDepth 20000 in
theorem gX6_figure_X6_moves : GoodIn wsX6_figure (wsV RX6 254 RX6 yX6_moves wsX6_moves) := goodIn_app (goodIn_of _ (by decide +kernel)) ggX6_figure_X6_moves
theorem dX6_figure_0 : decode cX6_figure 0 = .ok (.iload_n 1, 1) := by decide +kernel
theorem dX6_figure_1 : decode cX6_figure 1 = .ok (.invokestatic 195, 3) := by decide +kernel
theorem dX6_figure_4 : decode cX6_figure 4 = .ok (.ifCond .ne 6, 3) := by decide +kernel
theorem dX6_figure_7 : decode cX6_figure 7 = .ok (.ldc 198, 2) := by decide +kernel
theorem dX6_figure_9 : decode cX6_figure 9 = .ok (.ireturn, 1) := by decide +kernel
theorem dX6_figure_10 : decode cX6_figure 10 = .ok (.iload_n 2, 1) := by decide +kernel
theorem dX6_figure_11 : decode cX6_figure 11 = .ok (.i2l, 1) := by decide +kernel
theorem dX6_figure_12 : decode cX6_figure 12 = .ok (.lconst 0, 1) := by decide +kernel
theorem dX6_figure_13 : decode cX6_figure 13 = .ok (.ldc2_w 261, 3) := by decide +kernel
theorem dX6_figure_16 : decode cX6_figure 16 = .ok (.invokestatic 74, 3) := by decide +kernel
theorem dX6_figure_19 : decode cX6_figure 19 = .ok (.ifCond .ne 6, 3) := by decide +kernel
theorem dX6_figure_22 : decode cX6_figure 22 = .ok (.ldc 192, 2) := by decide +kernel
theorem dX6_figure_24 : decode cX6_figure 24 = .ok (.ireturn, 1) := by decide +kernel
theorem dX6_figure_25 : decode cX6_figure 25 = .ok (.aload_n 0, 1) := by decide +kernel
theorem dX6_figure_26 : decode cX6_figure 26 = .ok (.invokevirtual 116, 3) := by decide +kernel
theorem dX6_figure_29 : decode cX6_figure 29 = .ok (.istore_n 3, 1) := by decide +kernel
theorem dX6_figure_30 : decode cX6_figure 30 = .ok (.iload_n 3, 1) := by decide +kernel
theorem dX6_figure_31 : decode cX6_figure 31 = .ok (.iconst (-1), 1) := by decide +kernel
theorem dX6_figure_32 : decode cX6_figure 32 = .ok (.if_icmp .eq 33, 3) := by decide +kernel
theorem dX6_figure_35 : decode cX6_figure 35 = .ok (.aload_n 0, 1) := by decide +kernel
theorem dX6_figure_36 : decode cX6_figure 36 = .ok (.iload_n 1, 1) := by decide +kernel
theorem dX6_figure_37 : decode cX6_figure 37 = .ok (.invokevirtual 67, 3) := by decide +kernel
theorem dX6_figure_40 : decode cX6_figure 40 = .ok (.ifCond .eq 25, 3) := by decide +kernel
theorem dX6_figure_43 : decode cX6_figure 43 = .ok (.aload_n 0, 1) := by decide +kernel
theorem dX6_figure_44 : decode cX6_figure 44 = .ok (.iload_n 1, 1) := by decide +kernel
theorem dX6_figure_45 : decode cX6_figure 45 = .ok (.invokevirtual 71, 3) := by decide +kernel
theorem dX6_figure_48 : decode cX6_figure 48 = .ok (.iload_n 3, 1) := by decide +kernel
theorem dX6_figure_49 : decode cX6_figure 49 = .ok (.if_icmp .ne 16, 3) := by decide +kernel
theorem dX6_figure_52 : decode cX6_figure 52 = .ok (.iload_n 3, 1) := by decide +kernel
theorem dX6_figure_53 : decode cX6_figure 53 = .ok (.ifCond .le 15, 3) := by decide +kernel
theorem dX6_figure_56 : decode cX6_figure 56 = .ok (.aload_n 0, 1) := by decide +kernel
theorem dX6_figure_57 : decode cX6_figure 57 = .ok (.iload_n 1, 1) := by decide +kernel
theorem dX6_figure_58 : decode cX6_figure 58 = .ok (.iconst 5, 1) := by decide +kernel
theorem dX6_figure_59 : decode cX6_figure 59 = .ok (.invokevirtual 113, 3) := by decide +kernel
theorem dX6_figure_62 : decode cX6_figure 62 = .ok (.ifCond .ne 6, 3) := by decide +kernel
theorem dX6_figure_65 : decode cX6_figure 65 = .ok (.ldc 246, 2) := by decide +kernel
theorem dX6_figure_67 : decode cX6_figure 67 = .ok (.ireturn, 1) := by decide +kernel
theorem dX6_figure_68 : decode cX6_figure 68 = .ok (.aload_n 0, 1) := by decide +kernel
theorem dX6_figure_69 : decode cX6_figure 69 = .ok (.invokevirtual 239, 3) := by decide +kernel
theorem dX6_figure_72 : decode cX6_figure 72 = .ok (.iconst 0, 1) := by decide +kernel
theorem dX6_figure_73 : decode cX6_figure 73 = .ok (.istore 4, 2) := by decide +kernel
theorem dX6_figure_75 : decode cX6_figure 75 = .ok (.iconst 0, 1) := by decide +kernel
theorem dX6_figure_76 : decode cX6_figure 76 = .ok (.istore 5, 2) := by decide +kernel
theorem dX6_figure_78 : decode cX6_figure 78 = .ok (.iload 5, 2) := by decide +kernel
theorem dX6_figure_80 : decode cX6_figure 80 = .ok (.bipush 8, 2) := by decide +kernel
theorem dX6_figure_82 : decode cX6_figure 82 = .ok (.if_icmp .ge 65, 3) := by decide +kernel
theorem dX6_figure_85 : decode cX6_figure 85 = .ok (.iconst 0, 1) := by decide +kernel
theorem dX6_figure_86 : decode cX6_figure 86 = .ok (.istore 6, 2) := by decide +kernel
theorem dX6_figure_88 : decode cX6_figure 88 = .ok (.iload 6, 2) := by decide +kernel
theorem dX6_figure_90 : decode cX6_figure 90 = .ok (.iload_n 3, 1) := by decide +kernel
theorem dX6_figure_91 : decode cX6_figure 91 = .ok (.if_icmp .ge 50, 3) := by decide +kernel
theorem dX6_figure_94 : decode cX6_figure 94 = .ok (.aload_n 0, 1) := by decide +kernel
theorem dX6_figure_95 : decode cX6_figure 95 = .ok (.getfield 7, 3) := by decide +kernel
theorem dX6_figure_98 : decode cX6_figure 98 = .ok (.bipush 84, 2) := by decide +kernel
theorem dX6_figure_100 : decode cX6_figure 100 = .ok (.iload_n 1, 1) := by decide +kernel
theorem dX6_figure_101 : decode cX6_figure 101 = .ok (.iload 6, 2) := by decide +kernel
theorem dX6_figure_103 : decode cX6_figure 103 = .ok (.invokestatic 63, 3) := by decide +kernel
theorem dX6_figure_106 : decode cX6_figure 106 = .ok (.iadd, 1) := by decide +kernel
theorem dX6_figure_107 : decode cX6_figure 107 = .ok (.laload, 1) := by decide +kernel
theorem dX6_figure_108 : decode cX6_figure 108 = .ok (.iconst 3, 1) := by decide +kernel
theorem dX6_figure_109 : decode cX6_figure 109 = .ok (.iload_n 2, 1) := by decide +kernel
theorem dX6_figure_110 : decode cX6_figure 110 = .ok (.imul, 1) := by decide +kernel
theorem dX6_figure_111 : decode cX6_figure 111 = .ok (.lshr, 1) := by decide +kernel
theorem dX6_figure_112 : decode cX6_figure 112 = .ok (.ldc2_w 207, 3) := by decide +kernel
theorem dX6_figure_115 : decode cX6_figure 115 = .ok (.land, 1) := by decide +kernel
theorem dX6_figure_116 : decode cX6_figure 116 = .ok (.iload 5, 2) := by decide +kernel
theorem dX6_figure_118 : decode cX6_figure 118 = .ok (.i2l, 1) := by decide +kernel
theorem dX6_figure_119 : decode cX6_figure 119 = .ok (.lcmp, 1) := by decide +kernel
theorem dX6_figure_120 : decode cX6_figure 120 = .ok (.ifCond .ne 15, 3) := by decide +kernel
theorem dX6_figure_123 : decode cX6_figure 123 = .ok (.aload_n 0, 1) := by decide +kernel
theorem dX6_figure_124 : decode cX6_figure 124 = .ok (.getfield 30, 3) := by decide +kernel
theorem dX6_figure_127 : decode cX6_figure 127 = .ok (.iload 4, 2) := by decide +kernel
theorem dX6_figure_129 : decode cX6_figure 129 = .ok (.iload 6, 2) := by decide +kernel
theorem dX6_figure_131 : decode cX6_figure 131 = .ok (.iastore, 1) := by decide +kernel
theorem dX6_figure_132 : decode cX6_figure 132 = .ok (.iinc 4 1, 3) := by decide +kernel
theorem dX6_figure_135 : decode cX6_figure 135 = .ok (.iinc 6 1, 3) := by decide +kernel
theorem dX6_figure_138 : decode cX6_figure 138 = .ok (.goto (-50), 3) := by decide +kernel
theorem dX6_figure_141 : decode cX6_figure 141 = .ok (.iinc 5 1, 3) := by decide +kernel
theorem dX6_figure_144 : decode cX6_figure 144 = .ok (.goto (-66), 3) := by decide +kernel
theorem dX6_figure_147 : decode cX6_figure 147 = .ok (.aload_n 0, 1) := by decide +kernel
theorem dX6_figure_148 : decode cX6_figure 148 = .ok (.iload_n 3, 1) := by decide +kernel
theorem dX6_figure_149 : decode cX6_figure 149 = .ok (.invokevirtual 254, 3) := by decide +kernel
theorem dX6_figure_152 : decode cX6_figure 152 = .ok (.ireturn, 1) := by decide +kernel
set_option maxRecDepth 20000 in
theorem ggX6_deal_X6_in : GoodIn wsX6_deal wsX6_in := goodIn_r _ [8] (by decide +kernel) (by decide +kernel)
set_option maxRecDepth 20000 in
theorem gX6_deal_X6_in : GoodIn wsX6_deal (va_wsS RX6 74 yX6_in wsX6_in) := goodIn_app (goodIn_of _ (by decide +kernel)) ggX6_deal_X6_in
set_option maxRecDepth 20000 in
theorem ggX6_deal_X6_places : GoodIn wsX6_deal wsX6_places := goodIn_r _ [12, 13, 14, 15, 7, 16, 17, 18, 19, 20, 21, 22, 23, 24, 25, 26, 27, 28, 29, 30, 31, 32, 33, 34, 35, 36, 37, 38, 39, 40, 41, 42, 43, 44, 45, 46, 47, 48, 49, 50, 51, 52, 53, 54, 55, 74, 75, 76, 77, 78, 79, 80, 81, 82, 83, 84, 85] (by decide +kernel) (by decide +kernel)
set_option maxRecDepth 20000 in
theorem gX6_deal_X6_places : GoodIn wsX6_deal (wsV RX6 116 RX6 yX6_places wsX6_places) := goodIn_app (goodIn_of _ (by decide +kernel)) ggX6_deal_X6_places
set_option maxRecDepth 20000 in
theorem ggX6_deal_X6_minds : GoodIn wsX6_deal wsX6_minds := goodIn_r _ [59, 60, 21, 61, 62, 63, 7, 64, 74, 75, 76, 77, 78, 79, 80, 81, 82, 83, 84, 85] (by decide +kernel) (by decide +kernel)
set_option maxRecDepth 20000 in
theorem gX6_deal_X6_minds : GoodIn wsX6_deal (wsV RX6 239 RX6 yX6_minds wsX6_minds) := goodIn_app (goodIn_of _ (by decide +kernel)) ggX6_deal_X6_minds
set_option maxRecDepth 20000 in
theorem ggX6_deal_X6_moves : GoodIn wsX6_deal wsX6_moves := goodIn_r _ [68, 69, 21, 70, 4, 71, 72, 7, 73, 17, 18, 19, 20, 30, 31, 32, 74, 75, 76, 77, 78, 79, 80, 81, 82, 83, 84, 85] (by decide +kernel) (by decide +kernel)
set_option maxRecDepth 20000 in
theorem gX6_deal_X6_moves : GoodIn wsX6_deal (wsV RX6 254 RX6 yX6_moves wsX6_moves) := goodIn_app (goodIn_of _ (by decide +kernel)) ggX6_deal_X6_moves
theorem dX6_deal_0 : decode cX6_deal 0 = .ok (.iload_n 1, 1) := by decide +kernel
theorem dX6_deal_1 : decode cX6_deal 1 = .ok (.i2l, 1) := by decide +kernel
theorem dX6_deal_2 : decode cX6_deal 2 = .ok (.lconst 1, 1) := by decide +kernel
theorem dX6_deal_3 : decode cX6_deal 3 = .ok (.ldc2_w 237, 3) := by decide +kernel
theorem dX6_deal_6 : decode cX6_deal 6 = .ok (.invokestatic 74, 3) := by decide +kernel
theorem dX6_deal_9 : decode cX6_deal 9 = .ok (.ifCond .ne 6, 3) := by decide +kernel
theorem dX6_deal_12 : decode cX6_deal 12 = .ok (.ldc 192, 2) := by decide +kernel
theorem dX6_deal_14 : decode cX6_deal 14 = .ok (.ireturn, 1) := by decide +kernel
theorem dX6_deal_15 : decode cX6_deal 15 = .ok (.aload_n 0, 1) := by decide +kernel
theorem dX6_deal_16 : decode cX6_deal 16 = .ok (.invokevirtual 116, 3) := by decide +kernel
theorem dX6_deal_19 : decode cX6_deal 19 = .ok (.istore_n 2, 1) := by decide +kernel
theorem dX6_deal_20 : decode cX6_deal 20 = .ok (.iload_n 2, 1) := by decide +kernel
theorem dX6_deal_21 : decode cX6_deal 21 = .ok (.iconst (-1), 1) := by decide +kernel
theorem dX6_deal_22 : decode cX6_deal 22 = .ok (.if_icmp .ne 6, 3) := by decide +kernel
theorem dX6_deal_25 : decode cX6_deal 25 = .ok (.ldc 246, 2) := by decide +kernel
theorem dX6_deal_27 : decode cX6_deal 27 = .ok (.ireturn, 1) := by decide +kernel
theorem dX6_deal_28 : decode cX6_deal 28 = .ok (.aload_n 0, 1) := by decide +kernel
theorem dX6_deal_29 : decode cX6_deal 29 = .ok (.invokevirtual 239, 3) := by decide +kernel
theorem dX6_deal_32 : decode cX6_deal 32 = .ok (.iconst 0, 1) := by decide +kernel
theorem dX6_deal_33 : decode cX6_deal 33 = .ok (.istore_n 3, 1) := by decide +kernel
theorem dX6_deal_34 : decode cX6_deal 34 = .ok (.iconst 0, 1) := by decide +kernel
theorem dX6_deal_35 : decode cX6_deal 35 = .ok (.istore 4, 2) := by decide +kernel
theorem dX6_deal_37 : decode cX6_deal 37 = .ok (.iload 4, 2) := by decide +kernel
theorem dX6_deal_39 : decode cX6_deal 39 = .ok (.iload_n 1, 1) := by decide +kernel
theorem dX6_deal_40 : decode cX6_deal 40 = .ok (.if_icmp .ge 39, 3) := by decide +kernel
theorem dX6_deal_43 : decode cX6_deal 43 = .ok (.iload 4, 2) := by decide +kernel
theorem dX6_deal_45 : decode cX6_deal 45 = .ok (.istore 5, 2) := by decide +kernel
theorem dX6_deal_47 : decode cX6_deal 47 = .ok (.iload 5, 2) := by decide +kernel
theorem dX6_deal_49 : decode cX6_deal 49 = .ok (.iload_n 2, 1) := by decide +kernel
theorem dX6_deal_50 : decode cX6_deal 50 = .ok (.if_icmp .ge 23, 3) := by decide +kernel
theorem dX6_deal_53 : decode cX6_deal 53 = .ok (.aload_n 0, 1) := by decide +kernel
theorem dX6_deal_54 : decode cX6_deal 54 = .ok (.getfield 30, 3) := by decide +kernel
theorem dX6_deal_57 : decode cX6_deal 57 = .ok (.iload_n 3, 1) := by decide +kernel
theorem dX6_deal_58 : decode cX6_deal 58 = .ok (.iload 5, 2) := by decide +kernel
theorem dX6_deal_60 : decode cX6_deal 60 = .ok (.iastore, 1) := by decide +kernel
theorem dX6_deal_61 : decode cX6_deal 61 = .ok (.iinc 3 1, 3) := by decide +kernel
theorem dX6_deal_64 : decode cX6_deal 64 = .ok (.iload 5, 2) := by decide +kernel
theorem dX6_deal_66 : decode cX6_deal 66 = .ok (.iload_n 1, 1) := by decide +kernel
theorem dX6_deal_67 : decode cX6_deal 67 = .ok (.iadd, 1) := by decide +kernel
theorem dX6_deal_68 : decode cX6_deal 68 = .ok (.istore 5, 2) := by decide +kernel
theorem dX6_deal_70 : decode cX6_deal 70 = .ok (.goto (-23), 3) := by decide +kernel
theorem dX6_deal_73 : decode cX6_deal 73 = .ok (.iinc 4 1, 3) := by decide +kernel
theorem dX6_deal_76 : decode cX6_deal 76 = .ok (.goto (-39), 3) := by decide +kernel
theorem dX6_deal_79 : decode cX6_deal 79 = .ok (.aload_n 0, 1) := by decide +kernel
theorem dX6_deal_80 : decode cX6_deal 80 = .ok (.iload_n 2, 1) := by decide +kernel
theorem dX6_deal_81 : decode cX6_deal 81 = .ok (.invokevirtual 254, 3) := by decide +kernel
theorem dX6_deal_84 : decode cX6_deal 84 = .ok (.ireturn, 1) := by decide +kernel
theorem dX6_draw_0 : decode cX6_draw 0 = .ok (.aload_n 0, 1) := by decide +kernel
theorem dX6_draw_1 : decode cX6_draw 1 = .ok (.aload_n 0, 1) := by decide +kernel
theorem dX6_draw_2 : decode cX6_draw 2 = .ok (.getfield 189, 3) := by decide +kernel
theorem dX6_draw_5 : decode cX6_draw 5 = .ok (.i2l, 1) := by decide +kernel
theorem dX6_draw_6 : decode cX6_draw 6 = .ok (.ldc2_w 263, 3) := by decide +kernel
theorem dX6_draw_9 : decode cX6_draw 9 = .ok (.lmul, 1) := by decide +kernel
theorem dX6_draw_10 : decode cX6_draw 10 = .ok (.ldc2_w 265, 3) := by decide +kernel
theorem dX6_draw_13 : decode cX6_draw 13 = .ok (.ladd, 1) := by decide +kernel
theorem dX6_draw_14 : decode cX6_draw 14 = .ok (.ldc2_w 267, 3) := by decide +kernel
theorem dX6_draw_17 : decode cX6_draw 17 = .ok (.lrem, 1) := by decide +kernel
theorem dX6_draw_18 : decode cX6_draw 18 = .ok (.l2i, 1) := by decide +kernel
theorem dX6_draw_19 : decode cX6_draw 19 = .ok (.putfield 189, 3) := by decide +kernel
theorem dX6_draw_22 : decode cX6_draw 22 = .ok (.aload_n 0, 1) := by decide +kernel
theorem dX6_draw_23 : decode cX6_draw 23 = .ok (.getfield 189, 3) := by decide +kernel
theorem dX6_draw_26 : decode cX6_draw 26 = .ok (.ldc_w 269, 3) := by decide +kernel
theorem dX6_draw_29 : decode cX6_draw 29 = .ok (.idiv, 1) := by decide +kernel
theorem dX6_draw_30 : decode cX6_draw 30 = .ok (.iload_n 1, 1) := by decide +kernel
theorem dX6_draw_31 : decode cX6_draw 31 = .ok (.irem, 1) := by decide +kernel
theorem dX6_draw_32 : decode cX6_draw 32 = .ok (.ireturn, 1) := by decide +kernel
set_option maxRecDepth 20000 in
theorem ggX6_drift_X6_in : GoodIn wsX6_drift wsX6_in := goodIn_r _ [7] (by decide +kernel) (by decide +kernel)
set_option maxRecDepth 20000 in
theorem gX6_drift_X6_in : GoodIn wsX6_drift (va_wsS RX6 74 yX6_in wsX6_in) := goodIn_app (goodIn_of _ (by decide +kernel)) ggX6_drift_X6_in
set_option maxRecDepth 20000 in
theorem ggX6_drift_X6_minds : GoodIn wsX6_drift wsX6_minds := goodIn_r _ [11, 12, 13, 14, 15, 16, 6, 17, 69, 70, 71, 72, 73, 74, 75, 76, 77, 78, 79, 80] (by decide +kernel) (by decide +kernel)
set_option maxRecDepth 20000 in
theorem gX6_drift_X6_minds : GoodIn wsX6_drift (wsV RX6 239 RX6 yX6_minds wsX6_minds) := goodIn_app (goodIn_of _ (by decide +kernel)) ggX6_drift_X6_minds
set_option maxRecDepth 20000 in
theorem ggX6_drift_X6_draw : GoodIn wsX6_drift wsX6_draw := goodIn_r _ [21, 22, 23, 24, 25, 26, 69, 70, 71, 72, 73, 74, 75, 76, 77, 78, 79, 80] (by decide +kernel) (by decide +kernel)
set_option maxRecDepth 20000 in
theorem gX6_drift_X6_draw : GoodIn wsX6_drift (wsV RX6 270 RX6 yX6_draw wsX6_draw) := goodIn_app (goodIn_of _ (by decide +kernel)) ggX6_drift_X6_draw
set_option maxRecDepth 20000 in
theorem ggX6_drift_X6_madeOf : GoodIn wsX6_drift wsX6_madeOf := goodIn_r _ [29, 30, 31, 32, 6, 33, 34] (by decide +kernel) (by decide +kernel)
set_option maxRecDepth 20000 in
theorem gX6_drift_X6_madeOf : GoodIn wsX6_drift (va_wsS RX6 242 yX6_madeOf wsX6_madeOf) := goodIn_app (goodIn_of _ (by decide +kernel)) ggX6_drift_X6_madeOf
set_option maxRecDepth 20000 in
theorem ggX6_drift_X6_lacks : GoodIn wsX6_drift wsX6_lacks := goodIn_r _ [38, 39, 40, 41, 6, 42, 13, 43, 44, 45, 46, 47, 48, 49, 50, 4, 5, 7, 69, 70, 71, 72, 73, 74, 75, 76, 77, 78, 79, 80] (by decide +kernel) (by decide +kernel)
set_option maxRecDepth 20000 in
theorem gX6_drift_X6_lacks : GoodIn wsX6_drift (wsV RX6 203 RX6 yX6_lacks wsX6_lacks) := goodIn_app (goodIn_of _ (by decide +kernel)) ggX6_drift_X6_lacks
set_option maxRecDepth 20000 in
theorem ggX6_drift_X6_takes : GoodIn wsX6_drift wsX6_takes := goodIn_r _ [54, 55, 39, 40, 41, 6, 42, 13, 56, 57, 58, 69, 70, 71, 72, 73, 74, 75, 76, 77, 78, 79, 80] (by decide +kernel) (by decide +kernel)
set_option maxRecDepth 20000 in
theorem gX6_drift_X6_takes : GoodIn wsX6_drift (wsV RX6 229 RX6 yX6_takes wsX6_takes) := goodIn_app (goodIn_of _ (by decide +kernel)) ggX6_drift_X6_takes
set_option maxRecDepth 20000 in
theorem ggX6_drift_X6_sets : GoodIn wsX6_drift wsX6_sets := goodIn_r _ [62, 13, 39, 40, 41, 6, 42, 63, 64, 65, 66, 67, 68, 31, 32, 33, 34, 69, 70, 71, 72, 73, 74, 75, 76, 77, 78, 79, 80] (by decide +kernel) (by decide +kernel)
set_option maxRecDepth 20000 in
theorem gX6_drift_X6_sets : GoodIn wsX6_drift (wsV RX6 233 RX6 yX6_sets wsX6_sets) := goodIn_app (goodIn_of _ (by decide +kernel)) ggX6_drift_X6_sets
theorem dX6_drift_0 : decode cX6_drift 0 = .ok (.iload_n 1, 1) := by decide +kernel
theorem dX6_drift_1 : decode cX6_drift 1 = .ok (.i2l, 1) := by decide +kernel
theorem dX6_drift_2 : decode cX6_drift 2 = .ok (.lconst 1, 1) := by decide +kernel
theorem dX6_drift_3 : decode cX6_drift 3 = .ok (.ldc2_w 237, 3) := by decide +kernel
theorem dX6_drift_6 : decode cX6_drift 6 = .ok (.invokestatic 74, 3) := by decide +kernel
theorem dX6_drift_9 : decode cX6_drift 9 = .ok (.ifCond .ne 6, 3) := by decide +kernel
theorem dX6_drift_12 : decode cX6_drift 12 = .ok (.ldc 192, 2) := by decide +kernel
theorem dX6_drift_14 : decode cX6_drift 14 = .ok (.ireturn, 1) := by decide +kernel
theorem dX6_drift_15 : decode cX6_drift 15 = .ok (.iconst 0, 1) := by decide +kernel
theorem dX6_drift_16 : decode cX6_drift 16 = .ok (.istore_n 2, 1) := by decide +kernel
theorem dX6_drift_17 : decode cX6_drift 17 = .ok (.iconst 0, 1) := by decide +kernel
theorem dX6_drift_18 : decode cX6_drift 18 = .ok (.istore_n 3, 1) := by decide +kernel
theorem dX6_drift_19 : decode cX6_drift 19 = .ok (.iload_n 3, 1) := by decide +kernel
theorem dX6_drift_20 : decode cX6_drift 20 = .ok (.iload_n 1, 1) := by decide +kernel
theorem dX6_drift_21 : decode cX6_drift 21 = .ok (.if_icmp .ge 127, 3) := by decide +kernel
theorem dX6_drift_24 : decode cX6_drift 24 = .ok (.aload_n 0, 1) := by decide +kernel
theorem dX6_drift_25 : decode cX6_drift 25 = .ok (.invokevirtual 239, 3) := by decide +kernel
theorem dX6_drift_28 : decode cX6_drift 28 = .ok (.aload_n 0, 1) := by decide +kernel
theorem dX6_drift_29 : decode cX6_drift 29 = .ok (.bipush 6, 2) := by decide +kernel
theorem dX6_drift_31 : decode cX6_drift 31 = .ok (.invokevirtual 270, 3) := by decide +kernel
theorem dX6_drift_34 : decode cX6_drift 34 = .ok (.istore 4, 2) := by decide +kernel
theorem dX6_drift_36 : decode cX6_drift 36 = .ok (.aload_n 0, 1) := by decide +kernel
theorem dX6_drift_37 : decode cX6_drift 37 = .ok (.bipush 12, 2) := by decide +kernel
theorem dX6_drift_39 : decode cX6_drift 39 = .ok (.invokevirtual 270, 3) := by decide +kernel
theorem dX6_drift_42 : decode cX6_drift 42 = .ok (.istore 5, 2) := by decide +kernel
theorem dX6_drift_44 : decode cX6_drift 44 = .ok (.aload_n 0, 1) := by decide +kernel
theorem dX6_drift_45 : decode cX6_drift 45 = .ok (.bipush 10, 2) := by decide +kernel
theorem dX6_drift_47 : decode cX6_drift 47 = .ok (.invokevirtual 270, 3) := by decide +kernel
theorem dX6_drift_50 : decode cX6_drift 50 = .ok (.istore 6, 2) := by decide +kernel
theorem dX6_drift_52 : decode cX6_drift 52 = .ok (.aload_n 0, 1) := by decide +kernel
theorem dX6_drift_53 : decode cX6_drift 53 = .ok (.sipush 256, 3) := by decide +kernel
theorem dX6_drift_56 : decode cX6_drift 56 = .ok (.invokevirtual 270, 3) := by decide +kernel
theorem dX6_drift_59 : decode cX6_drift 59 = .ok (.istore 7, 2) := by decide +kernel
theorem dX6_drift_61 : decode cX6_drift 61 = .ok (.iload 6, 2) := by decide +kernel
theorem dX6_drift_63 : decode cX6_drift 63 = .ok (.bipush 8, 2) := by decide +kernel
theorem dX6_drift_65 : decode cX6_drift 65 = .ok (.if_icmp .ne 12, 3) := by decide +kernel
theorem dX6_drift_68 : decode cX6_drift 68 = .ok (.iload 7, 2) := by decide +kernel
theorem dX6_drift_70 : decode cX6_drift 70 = .ok (.bipush 8, 2) := by decide +kernel
theorem dX6_drift_72 : decode cX6_drift 72 = .ok (.irem, 1) := by decide +kernel
theorem dX6_drift_73 : decode cX6_drift 73 = .ok (.i2l, 1) := by decide +kernel
theorem dX6_drift_74 : decode cX6_drift 74 = .ok (.goto 26, 3) := by decide +kernel
theorem dX6_drift_77 : decode cX6_drift 77 = .ok (.iload 6, 2) := by decide +kernel
theorem dX6_drift_79 : decode cX6_drift 79 = .ok (.bipush 9, 2) := by decide +kernel
theorem dX6_drift_81 : decode cX6_drift 81 = .ok (.if_icmp .ne 7, 3) := by decide +kernel
theorem dX6_drift_84 : decode cX6_drift 84 = .ok (.lconst 0, 1) := by decide +kernel
theorem dX6_drift_85 : decode cX6_drift 85 = .ok (.goto 15, 3) := by decide +kernel
theorem dX6_drift_88 : decode cX6_drift 88 = .ok (.iload 6, 2) := by decide +kernel
theorem dX6_drift_90 : decode cX6_drift 90 = .ok (.iload 7, 2) := by decide +kernel
theorem dX6_drift_92 : decode cX6_drift 92 = .ok (.i2l, 1) := by decide +kernel
theorem dX6_drift_93 : decode cX6_drift 93 = .ok (.ldc2_w 273, 3) := by decide +kernel
theorem dX6_drift_96 : decode cX6_drift 96 = .ok (.lsub, 1) := by decide +kernel
theorem dX6_drift_97 : decode cX6_drift 97 = .ok (.invokestatic 242, 3) := by decide +kernel
theorem dX6_drift_100 : decode cX6_drift 100 = .ok (.lstore 8, 2) := by decide +kernel
theorem dX6_drift_102 : decode cX6_drift 102 = .ok (.aload_n 0, 1) := by decide +kernel
theorem dX6_drift_103 : decode cX6_drift 103 = .ok (.iload 4, 2) := by decide +kernel
theorem dX6_drift_105 : decode cX6_drift 105 = .ok (.iload 5, 2) := by decide +kernel
theorem dX6_drift_107 : decode cX6_drift 107 = .ok (.i2l, 1) := by decide +kernel
theorem dX6_drift_108 : decode cX6_drift 108 = .ok (.invokevirtual 203, 3) := by decide +kernel
theorem dX6_drift_111 : decode cX6_drift 111 = .ok (.ifCond .ne 31, 3) := by decide +kernel
theorem dX6_drift_114 : decode cX6_drift 114 = .ok (.aload_n 0, 1) := by decide +kernel
theorem dX6_drift_115 : decode cX6_drift 115 = .ok (.iload 4, 2) := by decide +kernel
theorem dX6_drift_117 : decode cX6_drift 117 = .ok (.iload 6, 2) := by decide +kernel
theorem dX6_drift_119 : decode cX6_drift 119 = .ok (.lload 8, 2) := by decide +kernel
theorem dX6_drift_121 : decode cX6_drift 121 = .ok (.invokevirtual 229, 3) := by decide +kernel
theorem dX6_drift_124 : decode cX6_drift 124 = .ok (.ifCond .eq 18, 3) := by decide +kernel
theorem dX6_drift_127 : decode cX6_drift 127 = .ok (.aload_n 0, 1) := by decide +kernel
theorem dX6_drift_128 : decode cX6_drift 128 = .ok (.iload 4, 2) := by decide +kernel
theorem dX6_drift_130 : decode cX6_drift 130 = .ok (.iload 5, 2) := by decide +kernel
theorem dX6_drift_132 : decode cX6_drift 132 = .ok (.iload 6, 2) := by decide +kernel
theorem dX6_drift_134 : decode cX6_drift 134 = .ok (.lload 8, 2) := by decide +kernel
theorem dX6_drift_136 : decode cX6_drift 136 = .ok (.invokevirtual 233, 3) := by decide +kernel
theorem dX6_drift_139 : decode cX6_drift 139 = .ok (.iinc 2 1, 3) := by decide +kernel
theorem dX6_drift_142 : decode cX6_drift 142 = .ok (.iinc 3 1, 3) := by decide +kernel
theorem dX6_drift_145 : decode cX6_drift 145 = .ok (.goto (-126), 3) := by decide +kernel
theorem dX6_drift_148 : decode cX6_drift 148 = .ok (.iload_n 2, 1) := by decide +kernel
theorem dX6_drift_149 : decode cX6_drift 149 = .ok (.ireturn, 1) := by decide +kernel
set_option maxRecDepth 20000 in
theorem ggX6_undo_X6_in : GoodIn wsX6_undo wsX6_in := goodIn_r _ [8] (by decide +kernel) (by decide +kernel)
set_option maxRecDepth 20000 in
theorem gX6_undo_X6_in : GoodIn wsX6_undo (va_wsS RX6 74 yX6_in wsX6_in) := goodIn_app (goodIn_of _ (by decide +kernel)) ggX6_undo_X6_in
set_option maxRecDepth 20000 in
theorem ggX6_undo_X6_copy : GoodIn wsX6_undo wsX6_copy := goodIn_r _ [12, 13, 14, 15, 16, 17, 18, 19, 20, 21, 22, 23, 24, 25] (by decide +kernel) (by decide +kernel)
set_option maxRecDepth 20000 in
theorem gX6_undo_X6_copy : GoodIn wsX6_undo (wsV RX6 47 RX6 yX6_copy wsX6_copy) := goodIn_app (goodIn_of _ (by decide +kernel)) ggX6_undo_X6_copy
theorem dX6_undo_0 : decode cX6_undo 0 = .ok (.iload_n 1, 1) := by decide +kernel
theorem dX6_undo_1 : decode cX6_undo 1 = .ok (.i2l, 1) := by decide +kernel
theorem dX6_undo_2 : decode cX6_undo 2 = .ok (.lconst 1, 1) := by decide +kernel
theorem dX6_undo_3 : decode cX6_undo 3 = .ok (.ldc2_w 275, 3) := by decide +kernel
theorem dX6_undo_6 : decode cX6_undo 6 = .ok (.invokestatic 74, 3) := by decide +kernel
theorem dX6_undo_9 : decode cX6_undo 9 = .ok (.ifCond .ne 6, 3) := by decide +kernel
theorem dX6_undo_12 : decode cX6_undo 12 = .ok (.ldc 192, 2) := by decide +kernel
theorem dX6_undo_14 : decode cX6_undo 14 = .ok (.ireturn, 1) := by decide +kernel
theorem dX6_undo_15 : decode cX6_undo 15 = .ok (.iload_n 1, 1) := by decide +kernel
theorem dX6_undo_16 : decode cX6_undo 16 = .ok (.aload_n 0, 1) := by decide +kernel
theorem dX6_undo_17 : decode cX6_undo 17 = .ok (.getfield 43, 3) := by decide +kernel
theorem dX6_undo_20 : decode cX6_undo 20 = .ok (.if_icmp .le 6, 3) := by decide +kernel
theorem dX6_undo_23 : decode cX6_undo 23 = .ok (.ldc 246, 2) := by decide +kernel
theorem dX6_undo_25 : decode cX6_undo 25 = .ok (.ireturn, 1) := by decide +kernel
theorem dX6_undo_26 : decode cX6_undo 26 = .ok (.aload_n 0, 1) := by decide +kernel
theorem dX6_undo_27 : decode cX6_undo 27 = .ok (.dup, 1) := by decide +kernel
theorem dX6_undo_28 : decode cX6_undo 28 = .ok (.getfield 43, 3) := by decide +kernel
theorem dX6_undo_31 : decode cX6_undo 31 = .ok (.iload_n 1, 1) := by decide +kernel
theorem dX6_undo_32 : decode cX6_undo 32 = .ok (.isub, 1) := by decide +kernel
theorem dX6_undo_33 : decode cX6_undo 33 = .ok (.putfield 43, 3) := by decide +kernel
theorem dX6_undo_36 : decode cX6_undo 36 = .ok (.aload_n 0, 1) := by decide +kernel
theorem dX6_undo_37 : decode cX6_undo 37 = .ok (.sipush 540, 3) := by decide +kernel
theorem dX6_undo_40 : decode cX6_undo 40 = .ok (.sipush 180, 3) := by decide +kernel
theorem dX6_undo_43 : decode cX6_undo 43 = .ok (.aload_n 0, 1) := by decide +kernel
theorem dX6_undo_44 : decode cX6_undo 44 = .ok (.getfield 43, 3) := by decide +kernel
theorem dX6_undo_47 : decode cX6_undo 47 = .ok (.imul, 1) := by decide +kernel
theorem dX6_undo_48 : decode cX6_undo 48 = .ok (.iadd, 1) := by decide +kernel
theorem dX6_undo_49 : decode cX6_undo 49 = .ok (.iconst 0, 1) := by decide +kernel
theorem dX6_undo_50 : decode cX6_undo 50 = .ok (.invokevirtual 47, 3) := by decide +kernel
theorem dX6_undo_53 : decode cX6_undo 53 = .ok (.aload_n 0, 1) := by decide +kernel
theorem dX6_undo_54 : decode cX6_undo 54 = .ok (.getfield 43, 3) := by decide +kernel
theorem dX6_undo_57 : decode cX6_undo 57 = .ok (.ireturn, 1) := by decide +kernel
set_option maxRecDepth 20000 in
theorem ggX6_write_X6_isPlace : GoodIn wsX6_write wsX6_isPlace := goodIn_r _ [10, 11, 12, 13, 9, 14, 15, 16, 17, 18, 19, 20, 21, 22, 23, 24, 25, 26, 27, 28, 29, 30, 31, 32, 33, 34, 35, 36, 37, 38, 39, 40, 41, 42, 43, 44, 45, 46, 47, 48, 49, 50, 51, 52, 53, 54, 55, 56, 57, 58, 59, 60, 61, 62, 63, 64, 65, 66, 67, 68, 69, 70, 71, 72] (by decide +kernel) (by decide +kernel)
set_option maxRecDepth 20000 in
theorem gX6_write_X6_isPlace : GoodIn wsX6_write (wsV RX6 212 RX6 yX6_isPlace wsX6_isPlace) := goodIn_app (goodIn_of _ (by decide +kernel)) ggX6_write_X6_isPlace
theorem dX6_write_0 : decode cX6_write 0 = .ok (.aload_n 0, 1) := by decide +kernel
theorem dX6_write_1 : decode cX6_write 1 = .ok (.iload_n 1, 1) := by decide +kernel
theorem dX6_write_2 : decode cX6_write 2 = .ok (.invokevirtual 212, 3) := by decide +kernel
theorem dX6_write_5 : decode cX6_write 5 = .ok (.ifCond .ne 6, 3) := by decide +kernel
theorem dX6_write_8 : decode cX6_write 8 = .ok (.ldc 198, 2) := by decide +kernel
theorem dX6_write_10 : decode cX6_write 10 = .ok (.ireturn, 1) := by decide +kernel
theorem dX6_write_11 : decode cX6_write 11 = .ok (.aload_n 0, 1) := by decide +kernel
theorem dX6_write_12 : decode cX6_write 12 = .ok (.getfield 154, 3) := by decide +kernel
theorem dX6_write_15 : decode cX6_write 15 = .ok (.bipush 20, 2) := by decide +kernel
theorem dX6_write_17 : decode cX6_write 17 = .ok (.if_icmp .ne 6, 3) := by decide +kernel
theorem dX6_write_20 : decode cX6_write 20 = .ok (.ldc 251, 2) := by decide +kernel
theorem dX6_write_22 : decode cX6_write 22 = .ok (.ireturn, 1) := by decide +kernel
theorem dX6_write_23 : decode cX6_write 23 = .ok (.aload_n 0, 1) := by decide +kernel
theorem dX6_write_24 : decode cX6_write 24 = .ok (.getfield 21, 3) := by decide +kernel
theorem dX6_write_27 : decode cX6_write 27 = .ok (.aload_n 0, 1) := by decide +kernel
theorem dX6_write_28 : decode cX6_write 28 = .ok (.getfield 154, 3) := by decide +kernel
theorem dX6_write_31 : decode cX6_write 31 = .ok (.iload_n 1, 1) := by decide +kernel
theorem dX6_write_32 : decode cX6_write 32 = .ok (.iastore, 1) := by decide +kernel
theorem dX6_write_33 : decode cX6_write 33 = .ok (.aload_n 0, 1) := by decide +kernel
theorem dX6_write_34 : decode cX6_write 34 = .ok (.getfield 24, 3) := by decide +kernel
theorem dX6_write_37 : decode cX6_write 37 = .ok (.aload_n 0, 1) := by decide +kernel
theorem dX6_write_38 : decode cX6_write 38 = .ok (.getfield 154, 3) := by decide +kernel
theorem dX6_write_41 : decode cX6_write 41 = .ok (.iload_n 2, 1) := by decide +kernel
theorem dX6_write_42 : decode cX6_write 42 = .ok (.iastore, 1) := by decide +kernel
theorem dX6_write_43 : decode cX6_write 43 = .ok (.aload_n 0, 1) := by decide +kernel
theorem dX6_write_44 : decode cX6_write 44 = .ok (.dup, 1) := by decide +kernel
theorem dX6_write_45 : decode cX6_write 45 = .ok (.getfield 154, 3) := by decide +kernel
theorem dX6_write_48 : decode cX6_write 48 = .ok (.iconst 1, 1) := by decide +kernel
theorem dX6_write_49 : decode cX6_write 49 = .ok (.iadd, 1) := by decide +kernel
theorem dX6_write_50 : decode cX6_write 50 = .ok (.putfield 154, 3) := by decide +kernel
theorem dX6_write_53 : decode cX6_write 53 = .ok (.aload_n 0, 1) := by decide +kernel
theorem dX6_write_54 : decode cX6_write 54 = .ok (.getfield 154, 3) := by decide +kernel
theorem dX6_write_57 : decode cX6_write 57 = .ok (.ireturn, 1) := by decide +kernel
theorem dX6_tear_0 : decode cX6_tear 0 = .ok (.aload_n 0, 1) := by decide +kernel
theorem dX6_tear_1 : decode cX6_tear 1 = .ok (.getfield 154, 3) := by decide +kernel
theorem dX6_tear_4 : decode cX6_tear 4 = .ok (.istore_n 1, 1) := by decide +kernel
theorem dX6_tear_5 : decode cX6_tear 5 = .ok (.aload_n 0, 1) := by decide +kernel
theorem dX6_tear_6 : decode cX6_tear 6 = .ok (.iconst 0, 1) := by decide +kernel
theorem dX6_tear_7 : decode cX6_tear 7 = .ok (.putfield 154, 3) := by decide +kernel
theorem dX6_tear_10 : decode cX6_tear 10 = .ok (.iload_n 1, 1) := by decide +kernel
theorem dX6_tear_11 : decode cX6_tear 11 = .ok (.ireturn, 1) := by decide +kernel
theorem dX6_seed_0 : decode cX6_seed 0 = .ok (.iload_n 1, 1) := by decide +kernel
theorem dX6_seed_1 : decode cX6_seed 1 = .ok (.ifCond .ge 6, 3) := by decide +kernel
theorem dX6_seed_4 : decode cX6_seed 4 = .ok (.ldc 192, 2) := by decide +kernel
theorem dX6_seed_6 : decode cX6_seed 6 = .ok (.ireturn, 1) := by decide +kernel
theorem dX6_seed_7 : decode cX6_seed 7 = .ok (.aload_n 0, 1) := by decide +kernel
theorem dX6_seed_8 : decode cX6_seed 8 = .ok (.getfield 189, 3) := by decide +kernel
theorem dX6_seed_11 : decode cX6_seed 11 = .ok (.istore_n 2, 1) := by decide +kernel
theorem dX6_seed_12 : decode cX6_seed 12 = .ok (.aload_n 0, 1) := by decide +kernel
theorem dX6_seed_13 : decode cX6_seed 13 = .ok (.iload_n 1, 1) := by decide +kernel
theorem dX6_seed_14 : decode cX6_seed 14 = .ok (.putfield 189, 3) := by decide +kernel
theorem dX6_seed_17 : decode cX6_seed 17 = .ok (.iload_n 2, 1) := by decide +kernel
theorem dX6_seed_18 : decode cX6_seed 18 = .ok (.ireturn, 1) := by decide +kernel
set_option maxRecDepth 20000 in
theorem ggX6_keep_X6_in : GoodIn wsX6_keep wsX6_in := goodIn_r _ [9] (by decide +kernel) (by decide +kernel)
set_option maxRecDepth 20000 in
theorem gX6_keep_X6_in : GoodIn wsX6_keep (va_wsS RX6 74 yX6_in wsX6_in) := goodIn_app (goodIn_of _ (by decide +kernel)) ggX6_keep_X6_in
set_option maxRecDepth 20000 in
theorem ggX6_keep_X6_copy : GoodIn wsX6_keep wsX6_copy := goodIn_r _ [13, 14, 15, 16, 17, 18, 19, 20, 21, 22, 23, 24, 25, 26] (by decide +kernel) (by decide +kernel)
set_option maxRecDepth 20000 in
theorem gX6_keep_X6_copy : GoodIn wsX6_keep (wsV RX6 47 RX6 yX6_copy wsX6_copy) := goodIn_app (goodIn_of _ (by decide +kernel)) ggX6_keep_X6_copy
theorem dX6_keep_0 : decode cX6_keep 0 = .ok (.iload_n 1, 1) := by decide +kernel
theorem dX6_keep_1 : decode cX6_keep 1 = .ok (.i2l, 1) := by decide +kernel
theorem dX6_keep_2 : decode cX6_keep 2 = .ok (.lconst 0, 1) := by decide +kernel
theorem dX6_keep_3 : decode cX6_keep 3 = .ok (.lconst 1, 1) := by decide +kernel
theorem dX6_keep_4 : decode cX6_keep 4 = .ok (.invokestatic 74, 3) := by decide +kernel
theorem dX6_keep_7 : decode cX6_keep 7 = .ok (.ifCond .ne 6, 3) := by decide +kernel
theorem dX6_keep_10 : decode cX6_keep 10 = .ok (.ldc 198, 2) := by decide +kernel
theorem dX6_keep_12 : decode cX6_keep 12 = .ok (.ireturn, 1) := by decide +kernel
theorem dX6_keep_13 : decode cX6_keep 13 = .ok (.aload_n 0, 1) := by decide +kernel
theorem dX6_keep_14 : decode cX6_keep 14 = .ok (.iconst 0, 1) := by decide +kernel
theorem dX6_keep_15 : decode cX6_keep 15 = .ok (.sipush 180, 3) := by decide +kernel
theorem dX6_keep_18 : decode cX6_keep 18 = .ok (.sipush 180, 3) := by decide +kernel
theorem dX6_keep_21 : decode cX6_keep 21 = .ok (.iload_n 1, 1) := by decide +kernel
theorem dX6_keep_22 : decode cX6_keep 22 = .ok (.imul, 1) := by decide +kernel
theorem dX6_keep_23 : decode cX6_keep 23 = .ok (.iadd, 1) := by decide +kernel
theorem dX6_keep_24 : decode cX6_keep 24 = .ok (.invokevirtual 47, 3) := by decide +kernel
theorem dX6_keep_27 : decode cX6_keep 27 = .ok (.aload_n 0, 1) := by decide +kernel
theorem dX6_keep_28 : decode cX6_keep 28 = .ok (.getfield 13, 3) := by decide +kernel
theorem dX6_keep_31 : decode cX6_keep 31 = .ok (.iload_n 1, 1) := by decide +kernel
theorem dX6_keep_32 : decode cX6_keep 32 = .ok (.aload_n 0, 1) := by decide +kernel
theorem dX6_keep_33 : decode cX6_keep 33 = .ok (.getfield 189, 3) := by decide +kernel
theorem dX6_keep_36 : decode cX6_keep 36 = .ok (.iastore, 1) := by decide +kernel
theorem dX6_keep_37 : decode cX6_keep 37 = .ok (.aload_n 0, 1) := by decide +kernel
theorem dX6_keep_38 : decode cX6_keep 38 = .ok (.getfield 17, 3) := by decide +kernel
theorem dX6_keep_41 : decode cX6_keep 41 = .ok (.iload_n 1, 1) := by decide +kernel
theorem dX6_keep_42 : decode cX6_keep 42 = .ok (.iconst 1, 1) := by decide +kernel
theorem dX6_keep_43 : decode cX6_keep 43 = .ok (.bastore, 1) := by decide +kernel
theorem dX6_keep_44 : decode cX6_keep 44 = .ok (.aload_n 0, 1) := by decide +kernel
theorem dX6_keep_45 : decode cX6_keep 45 = .ok (.iconst 0, 1) := by decide +kernel
theorem dX6_keep_46 : decode cX6_keep 46 = .ok (.putfield 43, 3) := by decide +kernel
theorem dX6_keep_49 : decode cX6_keep 49 = .ok (.iconst 1, 1) := by decide +kernel
theorem dX6_keep_50 : decode cX6_keep 50 = .ok (.ireturn, 1) := by decide +kernel
set_option maxRecDepth 20000 in
theorem ggX6_goBack_X6_in : GoodIn wsX6_goBack wsX6_in := goodIn_r _ [10] (by decide +kernel) (by decide +kernel)
set_option maxRecDepth 20000 in
theorem gX6_goBack_X6_in : GoodIn wsX6_goBack (va_wsS RX6 74 yX6_in wsX6_in) := goodIn_app (goodIn_of _ (by decide +kernel)) ggX6_goBack_X6_in
set_option maxRecDepth 20000 in
theorem ggX6_goBack_X6_copy : GoodIn wsX6_goBack wsX6_copy := goodIn_r _ [14, 15, 16, 17, 18, 19, 20, 21, 22, 23, 24, 25, 26, 27] (by decide +kernel) (by decide +kernel)
set_option maxRecDepth 20000 in
theorem gX6_goBack_X6_copy : GoodIn wsX6_goBack (wsV RX6 47 RX6 yX6_copy wsX6_copy) := goodIn_app (goodIn_of _ (by decide +kernel)) ggX6_goBack_X6_copy
theorem dX6_goBack_0 : decode cX6_goBack 0 = .ok (.iload_n 1, 1) := by decide +kernel
theorem dX6_goBack_1 : decode cX6_goBack 1 = .ok (.i2l, 1) := by decide +kernel
theorem dX6_goBack_2 : decode cX6_goBack 2 = .ok (.lconst 0, 1) := by decide +kernel
theorem dX6_goBack_3 : decode cX6_goBack 3 = .ok (.lconst 1, 1) := by decide +kernel
theorem dX6_goBack_4 : decode cX6_goBack 4 = .ok (.invokestatic 74, 3) := by decide +kernel
theorem dX6_goBack_7 : decode cX6_goBack 7 = .ok (.ifCond .ne 6, 3) := by decide +kernel
theorem dX6_goBack_10 : decode cX6_goBack 10 = .ok (.ldc 198, 2) := by decide +kernel
theorem dX6_goBack_12 : decode cX6_goBack 12 = .ok (.ireturn, 1) := by decide +kernel
theorem dX6_goBack_13 : decode cX6_goBack 13 = .ok (.aload_n 0, 1) := by decide +kernel
theorem dX6_goBack_14 : decode cX6_goBack 14 = .ok (.getfield 17, 3) := by decide +kernel
theorem dX6_goBack_17 : decode cX6_goBack 17 = .ok (.iload_n 1, 1) := by decide +kernel
theorem dX6_goBack_18 : decode cX6_goBack 18 = .ok (.baload, 1) := by decide +kernel
theorem dX6_goBack_19 : decode cX6_goBack 19 = .ok (.ifCond .ne 6, 3) := by decide +kernel
theorem dX6_goBack_22 : decode cX6_goBack 22 = .ok (.ldc 246, 2) := by decide +kernel
theorem dX6_goBack_24 : decode cX6_goBack 24 = .ok (.ireturn, 1) := by decide +kernel
theorem dX6_goBack_25 : decode cX6_goBack 25 = .ok (.aload_n 0, 1) := by decide +kernel
theorem dX6_goBack_26 : decode cX6_goBack 26 = .ok (.sipush 180, 3) := by decide +kernel
theorem dX6_goBack_29 : decode cX6_goBack 29 = .ok (.sipush 180, 3) := by decide +kernel
theorem dX6_goBack_32 : decode cX6_goBack 32 = .ok (.iload_n 1, 1) := by decide +kernel
theorem dX6_goBack_33 : decode cX6_goBack 33 = .ok (.imul, 1) := by decide +kernel
theorem dX6_goBack_34 : decode cX6_goBack 34 = .ok (.iadd, 1) := by decide +kernel
theorem dX6_goBack_35 : decode cX6_goBack 35 = .ok (.iconst 0, 1) := by decide +kernel
theorem dX6_goBack_36 : decode cX6_goBack 36 = .ok (.invokevirtual 47, 3) := by decide +kernel
theorem dX6_goBack_39 : decode cX6_goBack 39 = .ok (.aload_n 0, 1) := by decide +kernel
theorem dX6_goBack_40 : decode cX6_goBack 40 = .ok (.aload_n 0, 1) := by decide +kernel
theorem dX6_goBack_41 : decode cX6_goBack 41 = .ok (.getfield 13, 3) := by decide +kernel
theorem dX6_goBack_44 : decode cX6_goBack 44 = .ok (.iload_n 1, 1) := by decide +kernel
theorem dX6_goBack_45 : decode cX6_goBack 45 = .ok (.iaload, 1) := by decide +kernel
theorem dX6_goBack_46 : decode cX6_goBack 46 = .ok (.putfield 189, 3) := by decide +kernel
theorem dX6_goBack_49 : decode cX6_goBack 49 = .ok (.aload_n 0, 1) := by decide +kernel
theorem dX6_goBack_50 : decode cX6_goBack 50 = .ok (.iconst 0, 1) := by decide +kernel
theorem dX6_goBack_51 : decode cX6_goBack 51 = .ok (.putfield 43, 3) := by decide +kernel
theorem dX6_goBack_54 : decode cX6_goBack 54 = .ok (.iconst 1, 1) := by decide +kernel
theorem dX6_goBack_55 : decode cX6_goBack 55 = .ok (.ireturn, 1) := by decide +kernel
