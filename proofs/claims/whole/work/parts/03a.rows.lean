theorem dX0_init_0 : decode cX0_init 0 = .ok (.aload_n 0, 1) := by decide +kernel
theorem dX0_init_1 : decode cX0_init 1 = .ok (.invokespecial 3, 3) := by decide +kernel
theorem dX0_init_4 : decode cX0_init 4 = .ok (.aload_n 0, 1) := by decide +kernel
theorem dX0_init_5 : decode cX0_init 5 = .ok (.bipush 6, 2) := by decide +kernel
theorem dX0_init_7 : decode cX0_init 7 = .ok (.newarray .int, 2) := by decide +kernel
theorem dX0_init_9 : decode cX0_init 9 = .ok (.putfield 9, 3) := by decide +kernel
theorem dX0_init_12 : decode cX0_init 12 = .ok (.aload_n 0, 1) := by decide +kernel
theorem dX0_init_13 : decode cX0_init 13 = .ok (.bipush 6, 2) := by decide +kernel
theorem dX0_init_15 : decode cX0_init 15 = .ok (.newarray .int, 2) := by decide +kernel
theorem dX0_init_17 : decode cX0_init 17 = .ok (.putfield 15, 3) := by decide +kernel
theorem dX0_init_20 : decode cX0_init 20 = .ok (.aload_n 0, 1) := by decide +kernel
theorem dX0_init_21 : decode cX0_init 21 = .ok (.bipush 72, 2) := by decide +kernel
theorem dX0_init_23 : decode cX0_init 23 = .ok (.newarray .int, 2) := by decide +kernel
theorem dX0_init_25 : decode cX0_init 25 = .ok (.putfield 18, 3) := by decide +kernel
theorem dX0_init_28 : decode cX0_init 28 = .ok (.aload_n 0, 1) := by decide +kernel
theorem dX0_init_29 : decode cX0_init 29 = .ok (.bipush 72, 2) := by decide +kernel
theorem dX0_init_31 : decode cX0_init 31 = .ok (.newarray .long, 2) := by decide +kernel
theorem dX0_init_33 : decode cX0_init 33 = .ok (.putfield 21, 3) := by decide +kernel
theorem dX0_init_36 : decode cX0_init 36 = .ok (.aload_n 0, 1) := by decide +kernel
theorem dX0_init_37 : decode cX0_init 37 = .ok (.bipush 8, 2) := by decide +kernel
theorem dX0_init_39 : decode cX0_init 39 = .ok (.newarray .int, 2) := by decide +kernel
theorem dX0_init_41 : decode cX0_init 41 = .ok (.putfield 25, 3) := by decide +kernel
theorem dX0_init_44 : decode cX0_init 44 = .ok (.aload_n 0, 1) := by decide +kernel
theorem dX0_init_45 : decode cX0_init 45 = .ok (.iconst 4, 1) := by decide +kernel
theorem dX0_init_46 : decode cX0_init 46 = .ok (.newarray .int, 2) := by decide +kernel
theorem dX0_init_48 : decode cX0_init 48 = .ok (.putfield 28, 3) := by decide +kernel
theorem dX0_init_51 : decode cX0_init 51 = .ok (.aload_n 0, 1) := by decide +kernel
theorem dX0_init_52 : decode cX0_init 52 = .ok (.iconst 4, 1) := by decide +kernel
theorem dX0_init_53 : decode cX0_init 53 = .ok (.newarray .int, 2) := by decide +kernel
theorem dX0_init_55 : decode cX0_init 55 = .ok (.putfield 31, 3) := by decide +kernel
theorem dX0_init_58 : decode cX0_init 58 = .ok (.aload_n 0, 1) := by decide +kernel
theorem dX0_init_59 : decode cX0_init 59 = .ok (.iconst 4, 1) := by decide +kernel
theorem dX0_init_60 : decode cX0_init 60 = .ok (.newarray .int, 2) := by decide +kernel
theorem dX0_init_62 : decode cX0_init 62 = .ok (.putfield 34, 3) := by decide +kernel
theorem dX0_init_65 : decode cX0_init 65 = .ok (.iconst 0, 1) := by decide +kernel
theorem dX0_init_66 : decode cX0_init 66 = .ok (.istore_n 1, 1) := by decide +kernel
theorem dX0_init_67 : decode cX0_init 67 = .ok (.iload_n 1, 1) := by decide +kernel
theorem dX0_init_68 : decode cX0_init 68 = .ok (.bipush 6, 2) := by decide +kernel
theorem dX0_init_70 : decode cX0_init 70 = .ok (.if_icmp .ge 17, 3) := by decide +kernel
theorem dX0_init_73 : decode cX0_init 73 = .ok (.aload_n 0, 1) := by decide +kernel
theorem dX0_init_74 : decode cX0_init 74 = .ok (.getfield 9, 3) := by decide +kernel
theorem dX0_init_77 : decode cX0_init 77 = .ok (.iload_n 1, 1) := by decide +kernel
theorem dX0_init_78 : decode cX0_init 78 = .ok (.bipush 14, 2) := by decide +kernel
theorem dX0_init_80 : decode cX0_init 80 = .ok (.iastore, 1) := by decide +kernel
theorem dX0_init_81 : decode cX0_init 81 = .ok (.iinc 1 1, 3) := by decide +kernel
theorem dX0_init_84 : decode cX0_init 84 = .ok (.goto (-17), 3) := by decide +kernel
theorem dX0_init_87 : decode cX0_init 87 = .ok (.iconst 0, 1) := by decide +kernel
theorem dX0_init_88 : decode cX0_init 88 = .ok (.istore_n 1, 1) := by decide +kernel
theorem dX0_init_89 : decode cX0_init 89 = .ok (.iload_n 1, 1) := by decide +kernel
theorem dX0_init_90 : decode cX0_init 90 = .ok (.bipush 8, 2) := by decide +kernel
theorem dX0_init_92 : decode cX0_init 92 = .ok (.if_icmp .ge 18, 3) := by decide +kernel
theorem dX0_init_95 : decode cX0_init 95 = .ok (.aload_n 0, 1) := by decide +kernel
theorem dX0_init_96 : decode cX0_init 96 = .ok (.getfield 25, 3) := by decide +kernel
theorem dX0_init_99 : decode cX0_init 99 = .ok (.iload_n 1, 1) := by decide +kernel
theorem dX0_init_100 : decode cX0_init 100 = .ok (.iload_n 1, 1) := by decide +kernel
theorem dX0_init_101 : decode cX0_init 101 = .ok (.iconst 2, 1) := by decide +kernel
theorem dX0_init_102 : decode cX0_init 102 = .ok (.idiv, 1) := by decide +kernel
theorem dX0_init_103 : decode cX0_init 103 = .ok (.iastore, 1) := by decide +kernel
theorem dX0_init_104 : decode cX0_init 104 = .ok (.iinc 1 1, 3) := by decide +kernel
theorem dX0_init_107 : decode cX0_init 107 = .ok (.goto (-18), 3) := by decide +kernel
theorem dX0_init_110 : decode cX0_init 110 = .ok (.aload_n 0, 1) := by decide +kernel
theorem dX0_init_111 : decode cX0_init 111 = .ok (.bipush 9, 2) := by decide +kernel
theorem dX0_init_113 : decode cX0_init 113 = .ok (.putfield 37, 3) := by decide +kernel
theorem dX0_init_116 : decode cX0_init 116 = .ok (.return_, 1) := by decide +kernel
theorem dX0_copyFrom_0 : decode cX0_copyFrom 0 = .ok (.aload_n 1, 1) := by decide +kernel
theorem dX0_copyFrom_1 : decode cX0_copyFrom 1 = .ok (.getfield 9, 3) := by decide +kernel
theorem dX0_copyFrom_4 : decode cX0_copyFrom 4 = .ok (.iconst 0, 1) := by decide +kernel
theorem dX0_copyFrom_5 : decode cX0_copyFrom 5 = .ok (.aload_n 0, 1) := by decide +kernel
theorem dX0_copyFrom_6 : decode cX0_copyFrom 6 = .ok (.getfield 9, 3) := by decide +kernel
theorem dX0_copyFrom_9 : decode cX0_copyFrom 9 = .ok (.iconst 0, 1) := by decide +kernel
theorem dX0_copyFrom_10 : decode cX0_copyFrom 10 = .ok (.bipush 6, 2) := by decide +kernel
theorem dX0_copyFrom_12 : decode cX0_copyFrom 12 = .ok (.invokestatic 41, 3) := by decide +kernel
theorem dX0_copyFrom_15 : decode cX0_copyFrom 15 = .ok (.aload_n 1, 1) := by decide +kernel
theorem dX0_copyFrom_16 : decode cX0_copyFrom 16 = .ok (.getfield 15, 3) := by decide +kernel
theorem dX0_copyFrom_19 : decode cX0_copyFrom 19 = .ok (.iconst 0, 1) := by decide +kernel
theorem dX0_copyFrom_20 : decode cX0_copyFrom 20 = .ok (.aload_n 0, 1) := by decide +kernel
theorem dX0_copyFrom_21 : decode cX0_copyFrom 21 = .ok (.getfield 15, 3) := by decide +kernel
theorem dX0_copyFrom_24 : decode cX0_copyFrom 24 = .ok (.iconst 0, 1) := by decide +kernel
theorem dX0_copyFrom_25 : decode cX0_copyFrom 25 = .ok (.bipush 6, 2) := by decide +kernel
theorem dX0_copyFrom_27 : decode cX0_copyFrom 27 = .ok (.invokestatic 41, 3) := by decide +kernel
theorem dX0_copyFrom_30 : decode cX0_copyFrom 30 = .ok (.aload_n 1, 1) := by decide +kernel
theorem dX0_copyFrom_31 : decode cX0_copyFrom 31 = .ok (.getfield 18, 3) := by decide +kernel
theorem dX0_copyFrom_34 : decode cX0_copyFrom 34 = .ok (.iconst 0, 1) := by decide +kernel
theorem dX0_copyFrom_35 : decode cX0_copyFrom 35 = .ok (.aload_n 0, 1) := by decide +kernel
theorem dX0_copyFrom_36 : decode cX0_copyFrom 36 = .ok (.getfield 18, 3) := by decide +kernel
theorem dX0_copyFrom_39 : decode cX0_copyFrom 39 = .ok (.iconst 0, 1) := by decide +kernel
theorem dX0_copyFrom_40 : decode cX0_copyFrom 40 = .ok (.bipush 72, 2) := by decide +kernel
theorem dX0_copyFrom_42 : decode cX0_copyFrom 42 = .ok (.invokestatic 41, 3) := by decide +kernel
theorem dX0_copyFrom_45 : decode cX0_copyFrom 45 = .ok (.aload_n 1, 1) := by decide +kernel
theorem dX0_copyFrom_46 : decode cX0_copyFrom 46 = .ok (.getfield 21, 3) := by decide +kernel
theorem dX0_copyFrom_49 : decode cX0_copyFrom 49 = .ok (.iconst 0, 1) := by decide +kernel
theorem dX0_copyFrom_50 : decode cX0_copyFrom 50 = .ok (.aload_n 0, 1) := by decide +kernel
theorem dX0_copyFrom_51 : decode cX0_copyFrom 51 = .ok (.getfield 21, 3) := by decide +kernel
theorem dX0_copyFrom_54 : decode cX0_copyFrom 54 = .ok (.iconst 0, 1) := by decide +kernel
theorem dX0_copyFrom_55 : decode cX0_copyFrom 55 = .ok (.bipush 72, 2) := by decide +kernel
theorem dX0_copyFrom_57 : decode cX0_copyFrom 57 = .ok (.invokestatic 41, 3) := by decide +kernel
theorem dX0_copyFrom_60 : decode cX0_copyFrom 60 = .ok (.aload_n 1, 1) := by decide +kernel
theorem dX0_copyFrom_61 : decode cX0_copyFrom 61 = .ok (.getfield 25, 3) := by decide +kernel
theorem dX0_copyFrom_64 : decode cX0_copyFrom 64 = .ok (.iconst 0, 1) := by decide +kernel
theorem dX0_copyFrom_65 : decode cX0_copyFrom 65 = .ok (.aload_n 0, 1) := by decide +kernel
theorem dX0_copyFrom_66 : decode cX0_copyFrom 66 = .ok (.getfield 25, 3) := by decide +kernel
theorem dX0_copyFrom_69 : decode cX0_copyFrom 69 = .ok (.iconst 0, 1) := by decide +kernel
theorem dX0_copyFrom_70 : decode cX0_copyFrom 70 = .ok (.bipush 8, 2) := by decide +kernel
theorem dX0_copyFrom_72 : decode cX0_copyFrom 72 = .ok (.invokestatic 41, 3) := by decide +kernel
theorem dX0_copyFrom_75 : decode cX0_copyFrom 75 = .ok (.aload_n 1, 1) := by decide +kernel
theorem dX0_copyFrom_76 : decode cX0_copyFrom 76 = .ok (.getfield 28, 3) := by decide +kernel
theorem dX0_copyFrom_79 : decode cX0_copyFrom 79 = .ok (.iconst 0, 1) := by decide +kernel
theorem dX0_copyFrom_80 : decode cX0_copyFrom 80 = .ok (.aload_n 0, 1) := by decide +kernel
theorem dX0_copyFrom_81 : decode cX0_copyFrom 81 = .ok (.getfield 28, 3) := by decide +kernel
theorem dX0_copyFrom_84 : decode cX0_copyFrom 84 = .ok (.iconst 0, 1) := by decide +kernel
theorem dX0_copyFrom_85 : decode cX0_copyFrom 85 = .ok (.iconst 4, 1) := by decide +kernel
theorem dX0_copyFrom_86 : decode cX0_copyFrom 86 = .ok (.invokestatic 41, 3) := by decide +kernel
theorem dX0_copyFrom_89 : decode cX0_copyFrom 89 = .ok (.aload_n 1, 1) := by decide +kernel
theorem dX0_copyFrom_90 : decode cX0_copyFrom 90 = .ok (.getfield 31, 3) := by decide +kernel
theorem dX0_copyFrom_93 : decode cX0_copyFrom 93 = .ok (.iconst 0, 1) := by decide +kernel
theorem dX0_copyFrom_94 : decode cX0_copyFrom 94 = .ok (.aload_n 0, 1) := by decide +kernel
theorem dX0_copyFrom_95 : decode cX0_copyFrom 95 = .ok (.getfield 31, 3) := by decide +kernel
theorem dX0_copyFrom_98 : decode cX0_copyFrom 98 = .ok (.iconst 0, 1) := by decide +kernel
theorem dX0_copyFrom_99 : decode cX0_copyFrom 99 = .ok (.iconst 4, 1) := by decide +kernel
theorem dX0_copyFrom_100 : decode cX0_copyFrom 100 = .ok (.invokestatic 41, 3) := by decide +kernel
theorem dX0_copyFrom_103 : decode cX0_copyFrom 103 = .ok (.aload_n 1, 1) := by decide +kernel
theorem dX0_copyFrom_104 : decode cX0_copyFrom 104 = .ok (.getfield 34, 3) := by decide +kernel
theorem dX0_copyFrom_107 : decode cX0_copyFrom 107 = .ok (.iconst 0, 1) := by decide +kernel
theorem dX0_copyFrom_108 : decode cX0_copyFrom 108 = .ok (.aload_n 0, 1) := by decide +kernel
theorem dX0_copyFrom_109 : decode cX0_copyFrom 109 = .ok (.getfield 34, 3) := by decide +kernel
theorem dX0_copyFrom_112 : decode cX0_copyFrom 112 = .ok (.iconst 0, 1) := by decide +kernel
theorem dX0_copyFrom_113 : decode cX0_copyFrom 113 = .ok (.iconst 4, 1) := by decide +kernel
theorem dX0_copyFrom_114 : decode cX0_copyFrom 114 = .ok (.invokestatic 41, 3) := by decide +kernel
theorem dX0_copyFrom_117 : decode cX0_copyFrom 117 = .ok (.aload_n 0, 1) := by decide +kernel
theorem dX0_copyFrom_118 : decode cX0_copyFrom 118 = .ok (.aload_n 1, 1) := by decide +kernel
theorem dX0_copyFrom_119 : decode cX0_copyFrom 119 = .ok (.getfield 47, 3) := by decide +kernel
theorem dX0_copyFrom_122 : decode cX0_copyFrom 122 = .ok (.putfield 47, 3) := by decide +kernel
theorem dX0_copyFrom_125 : decode cX0_copyFrom 125 = .ok (.aload_n 0, 1) := by decide +kernel
theorem dX0_copyFrom_126 : decode cX0_copyFrom 126 = .ok (.aload_n 1, 1) := by decide +kernel
theorem dX0_copyFrom_127 : decode cX0_copyFrom 127 = .ok (.getfield 50, 3) := by decide +kernel
theorem dX0_copyFrom_130 : decode cX0_copyFrom 130 = .ok (.putfield 50, 3) := by decide +kernel
theorem dX0_copyFrom_133 : decode cX0_copyFrom 133 = .ok (.aload_n 0, 1) := by decide +kernel
theorem dX0_copyFrom_134 : decode cX0_copyFrom 134 = .ok (.aload_n 1, 1) := by decide +kernel
theorem dX0_copyFrom_135 : decode cX0_copyFrom 135 = .ok (.getfield 37, 3) := by decide +kernel
theorem dX0_copyFrom_138 : decode cX0_copyFrom 138 = .ok (.putfield 37, 3) := by decide +kernel
theorem dX0_copyFrom_141 : decode cX0_copyFrom 141 = .ok (.aload_n 0, 1) := by decide +kernel
theorem dX0_copyFrom_142 : decode cX0_copyFrom 142 = .ok (.aload_n 1, 1) := by decide +kernel
theorem dX0_copyFrom_143 : decode cX0_copyFrom 143 = .ok (.getfield 53, 3) := by decide +kernel
theorem dX0_copyFrom_146 : decode cX0_copyFrom 146 = .ok (.putfield 53, 3) := by decide +kernel
theorem dX0_copyFrom_149 : decode cX0_copyFrom 149 = .ok (.return_, 1) := by decide +kernel
theorem dX0_kindOf_0 : decode cX0_kindOf 0 = .ok (.iload_n 1, 1) := by decide +kernel
theorem dX0_kindOf_1 : decode cX0_kindOf 1 = .ok (.ifCond .lt 18, 3) := by decide +kernel
theorem dX0_kindOf_4 : decode cX0_kindOf 4 = .ok (.iload_n 1, 1) := by decide +kernel
theorem dX0_kindOf_5 : decode cX0_kindOf 5 = .ok (.bipush 6, 2) := by decide +kernel
theorem dX0_kindOf_7 : decode cX0_kindOf 7 = .ok (.if_icmp .ge 12, 3) := by decide +kernel
theorem dX0_kindOf_10 : decode cX0_kindOf 10 = .ok (.aload_n 0, 1) := by decide +kernel
theorem dX0_kindOf_11 : decode cX0_kindOf 11 = .ok (.getfield 9, 3) := by decide +kernel
theorem dX0_kindOf_14 : decode cX0_kindOf 14 = .ok (.iload_n 1, 1) := by decide +kernel
theorem dX0_kindOf_15 : decode cX0_kindOf 15 = .ok (.iaload, 1) := by decide +kernel
theorem dX0_kindOf_16 : decode cX0_kindOf 16 = .ok (.goto 5, 3) := by decide +kernel
theorem dX0_kindOf_19 : decode cX0_kindOf 19 = .ok (.bipush 14, 2) := by decide +kernel
theorem dX0_kindOf_21 : decode cX0_kindOf 21 = .ok (.ireturn, 1) := by decide +kernel
theorem dX0_sizeOf_0 : decode cX0_sizeOf 0 = .ok (.iload_n 1, 1) := by decide +kernel
theorem dX0_sizeOf_1 : decode cX0_sizeOf 1 = .ok (.ifCond .lt 18, 3) := by decide +kernel
theorem dX0_sizeOf_4 : decode cX0_sizeOf 4 = .ok (.iload_n 1, 1) := by decide +kernel
theorem dX0_sizeOf_5 : decode cX0_sizeOf 5 = .ok (.bipush 6, 2) := by decide +kernel
theorem dX0_sizeOf_7 : decode cX0_sizeOf 7 = .ok (.if_icmp .ge 12, 3) := by decide +kernel
theorem dX0_sizeOf_10 : decode cX0_sizeOf 10 = .ok (.aload_n 0, 1) := by decide +kernel
theorem dX0_sizeOf_11 : decode cX0_sizeOf 11 = .ok (.getfield 15, 3) := by decide +kernel
theorem dX0_sizeOf_14 : decode cX0_sizeOf 14 = .ok (.iload_n 1, 1) := by decide +kernel
theorem dX0_sizeOf_15 : decode cX0_sizeOf 15 = .ok (.iaload, 1) := by decide +kernel
theorem dX0_sizeOf_16 : decode cX0_sizeOf 16 = .ok (.goto 4, 3) := by decide +kernel
theorem dX0_sizeOf_19 : decode cX0_sizeOf 19 = .ok (.iconst 0, 1) := by decide +kernel
theorem dX0_sizeOf_20 : decode cX0_sizeOf 20 = .ok (.ireturn, 1) := by decide +kernel
set_option maxRecDepth 20000 in
theorem ggX0_holdsArray_X0_kindOf : GoodIn wsX0_holdsArray wsX0_kindOf := goodIn_r _ [5, 6, 7, 8, 9, 10, 11, 12, 13, 14, 15, 16, 17, 18] (by decide +kernel) (by decide +kernel)
set_option maxRecDepth 20000 in
theorem gX0_holdsArray_X0_kindOf : GoodIn wsX0_holdsArray (wsV RX0 57 RX0 yX0_kindOf wsX0_kindOf) := goodIn_app (goodIn_of _ (by decide +kernel)) ggX0_holdsArray_X0_kindOf
theorem dX0_holdsArray_0 : decode cX0_holdsArray 0 = .ok (.aload_n 0, 1) := by decide +kernel
theorem dX0_holdsArray_1 : decode cX0_holdsArray 1 = .ok (.iload_n 1, 1) := by decide +kernel
theorem dX0_holdsArray_2 : decode cX0_holdsArray 2 = .ok (.invokevirtual 57, 3) := by decide +kernel
theorem dX0_holdsArray_5 : decode cX0_holdsArray 5 = .ok (.bipush 11, 2) := by decide +kernel
theorem dX0_holdsArray_7 : decode cX0_holdsArray 7 = .ok (.if_icmp .gt 7, 3) := by decide +kernel
theorem dX0_holdsArray_10 : decode cX0_holdsArray 10 = .ok (.iconst 1, 1) := by decide +kernel
theorem dX0_holdsArray_11 : decode cX0_holdsArray 11 = .ok (.goto 4, 3) := by decide +kernel
theorem dX0_holdsArray_14 : decode cX0_holdsArray 14 = .ok (.iconst 0, 1) := by decide +kernel
theorem dX0_holdsArray_15 : decode cX0_holdsArray 15 = .ok (.ireturn, 1) := by decide +kernel
set_option maxRecDepth 20000 in
theorem ggX0_renew_X5_isSlot : GoodIn wsX0_renew wsX5_isSlot := goodIn_r _ [5] (by decide +kernel) (by decide +kernel)
set_option maxRecDepth 20000 in
theorem gX0_renew_X5_isSlot_n61 : GoodIn wsX0_renew (wsX5_isSlot) := ggX0_renew_X5_isSlot
set_option maxRecDepth 20000 in
theorem ggX0_renew_X0_setCell : GoodIn wsX0_renew wsX0_setCell := goodIn_r _ [10, 11, 12, 13, 14, 9, 15, 16, 17, 18, 19, 20, 21, 22, 23, 24, 25, 26, 27] (by decide +kernel) (by decide +kernel)
set_option maxRecDepth 20000 in
theorem gX0_renew_X0_setCell : GoodIn wsX0_renew (wsV RX0 65 RX0 yX0_setCell wsX0_setCell) := goodIn_app (goodIn_of _ (by decide +kernel)) ggX0_renew_X0_setCell
theorem dX0_renew_0 : decode cX0_renew 0 = .ok (.iload_n 1, 1) := by decide +kernel
theorem dX0_renew_1 : decode cX0_renew 1 = .ok (.invokestatic 61, 3) := by decide +kernel
theorem dX0_renew_4 : decode cX0_renew 4 = .ok (.ifCond .ne 4, 3) := by decide +kernel
theorem dX0_renew_7 : decode cX0_renew 7 = .ok (.return_, 1) := by decide +kernel
theorem dX0_renew_8 : decode cX0_renew 8 = .ok (.aload_n 0, 1) := by decide +kernel
theorem dX0_renew_9 : decode cX0_renew 9 = .ok (.getfield 9, 3) := by decide +kernel
theorem dX0_renew_12 : decode cX0_renew 12 = .ok (.iload_n 1, 1) := by decide +kernel
theorem dX0_renew_13 : decode cX0_renew 13 = .ok (.iload_n 2, 1) := by decide +kernel
theorem dX0_renew_14 : decode cX0_renew 14 = .ok (.iastore, 1) := by decide +kernel
theorem dX0_renew_15 : decode cX0_renew 15 = .ok (.aload_n 0, 1) := by decide +kernel
theorem dX0_renew_16 : decode cX0_renew 16 = .ok (.getfield 15, 3) := by decide +kernel
theorem dX0_renew_19 : decode cX0_renew 19 = .ok (.iload_n 1, 1) := by decide +kernel
theorem dX0_renew_20 : decode cX0_renew 20 = .ok (.iload_n 2, 1) := by decide +kernel
theorem dX0_renew_21 : decode cX0_renew 21 = .ok (.bipush 11, 2) := by decide +kernel
theorem dX0_renew_23 : decode cX0_renew 23 = .ok (.if_icmp .gt 7, 3) := by decide +kernel
theorem dX0_renew_26 : decode cX0_renew 26 = .ok (.iload_n 3, 1) := by decide +kernel
theorem dX0_renew_27 : decode cX0_renew 27 = .ok (.goto 4, 3) := by decide +kernel
theorem dX0_renew_30 : decode cX0_renew 30 = .ok (.iconst 0, 1) := by decide +kernel
theorem dX0_renew_31 : decode cX0_renew 31 = .ok (.iastore, 1) := by decide +kernel
theorem dX0_renew_32 : decode cX0_renew 32 = .ok (.iconst 0, 1) := by decide +kernel
theorem dX0_renew_33 : decode cX0_renew 33 = .ok (.istore 4, 2) := by decide +kernel
theorem dX0_renew_35 : decode cX0_renew 35 = .ok (.iload 4, 2) := by decide +kernel
theorem dX0_renew_37 : decode cX0_renew 37 = .ok (.bipush 12, 2) := by decide +kernel
theorem dX0_renew_39 : decode cX0_renew 39 = .ok (.if_icmp .ge 29, 3) := by decide +kernel
theorem dX0_renew_42 : decode cX0_renew 42 = .ok (.aload_n 0, 1) := by decide +kernel
theorem dX0_renew_43 : decode cX0_renew 43 = .ok (.iload_n 1, 1) := by decide +kernel
theorem dX0_renew_44 : decode cX0_renew 44 = .ok (.iload 4, 2) := by decide +kernel
theorem dX0_renew_46 : decode cX0_renew 46 = .ok (.iload_n 2, 1) := by decide +kernel
theorem dX0_renew_47 : decode cX0_renew 47 = .ok (.bipush 7, 2) := by decide +kernel
theorem dX0_renew_49 : decode cX0_renew 49 = .ok (.if_icmp .gt 7, 3) := by decide +kernel
theorem dX0_renew_52 : decode cX0_renew 52 = .ok (.iload_n 2, 1) := by decide +kernel
theorem dX0_renew_53 : decode cX0_renew 53 = .ok (.goto 5, 3) := by decide +kernel
theorem dX0_renew_56 : decode cX0_renew 56 = .ok (.bipush 9, 2) := by decide +kernel
theorem dX0_renew_58 : decode cX0_renew 58 = .ok (.lconst 0, 1) := by decide +kernel
theorem dX0_renew_59 : decode cX0_renew 59 = .ok (.invokevirtual 65, 3) := by decide +kernel
theorem dX0_renew_62 : decode cX0_renew 62 = .ok (.iinc 4 1, 3) := by decide +kernel
theorem dX0_renew_65 : decode cX0_renew 65 = .ok (.goto (-30), 3) := by decide +kernel
theorem dX0_renew_68 : decode cX0_renew 68 = .ok (.return_, 1) := by decide +kernel
theorem dX0_isCell_0 : decode cX0_isCell 0 = .ok (.iload_n 0, 1) := by decide +kernel
theorem dX0_isCell_1 : decode cX0_isCell 1 = .ok (.ifCond .lt 23, 3) := by decide +kernel
theorem dX0_isCell_4 : decode cX0_isCell 4 = .ok (.iload_n 0, 1) := by decide +kernel
theorem dX0_isCell_5 : decode cX0_isCell 5 = .ok (.bipush 6, 2) := by decide +kernel
theorem dX0_isCell_7 : decode cX0_isCell 7 = .ok (.if_icmp .ge 17, 3) := by decide +kernel
theorem dX0_isCell_10 : decode cX0_isCell 10 = .ok (.iload_n 1, 1) := by decide +kernel
theorem dX0_isCell_11 : decode cX0_isCell 11 = .ok (.ifCond .lt 13, 3) := by decide +kernel
theorem dX0_isCell_14 : decode cX0_isCell 14 = .ok (.iload_n 1, 1) := by decide +kernel
theorem dX0_isCell_15 : decode cX0_isCell 15 = .ok (.bipush 12, 2) := by decide +kernel
theorem dX0_isCell_17 : decode cX0_isCell 17 = .ok (.if_icmp .ge 7, 3) := by decide +kernel
theorem dX0_isCell_20 : decode cX0_isCell 20 = .ok (.iconst 1, 1) := by decide +kernel
theorem dX0_isCell_21 : decode cX0_isCell 21 = .ok (.goto 4, 3) := by decide +kernel
theorem dX0_isCell_24 : decode cX0_isCell 24 = .ok (.iconst 0, 1) := by decide +kernel
theorem dX0_isCell_25 : decode cX0_isCell 25 = .ok (.ireturn, 1) := by decide +kernel
set_option maxRecDepth 20000 in
theorem ggX0_sortAt_X0_isCell : GoodIn wsX0_sortAt wsX0_isCell := goodIn_r _ [5] (by decide +kernel) (by decide +kernel)
set_option maxRecDepth 20000 in
theorem gX0_sortAt_X0_isCell : GoodIn wsX0_sortAt (va_wsS RX0 69 yX0_isCell wsX0_isCell) := goodIn_app (goodIn_of _ (by decide +kernel)) ggX0_sortAt_X0_isCell
theorem dX0_sortAt_0 : decode cX0_sortAt 0 = .ok (.iload_n 1, 1) := by decide +kernel
theorem dX0_sortAt_1 : decode cX0_sortAt 1 = .ok (.iload_n 2, 1) := by decide +kernel
theorem dX0_sortAt_2 : decode cX0_sortAt 2 = .ok (.invokestatic 69, 3) := by decide +kernel
theorem dX0_sortAt_5 : decode cX0_sortAt 5 = .ok (.ifCond .eq 17, 3) := by decide +kernel
theorem dX0_sortAt_8 : decode cX0_sortAt 8 = .ok (.aload_n 0, 1) := by decide +kernel
theorem dX0_sortAt_9 : decode cX0_sortAt 9 = .ok (.getfield 18, 3) := by decide +kernel
theorem dX0_sortAt_12 : decode cX0_sortAt 12 = .ok (.iload_n 1, 1) := by decide +kernel
theorem dX0_sortAt_13 : decode cX0_sortAt 13 = .ok (.bipush 12, 2) := by decide +kernel
theorem dX0_sortAt_15 : decode cX0_sortAt 15 = .ok (.imul, 1) := by decide +kernel
theorem dX0_sortAt_16 : decode cX0_sortAt 16 = .ok (.iload_n 2, 1) := by decide +kernel
theorem dX0_sortAt_17 : decode cX0_sortAt 17 = .ok (.iadd, 1) := by decide +kernel
theorem dX0_sortAt_18 : decode cX0_sortAt 18 = .ok (.iaload, 1) := by decide +kernel
theorem dX0_sortAt_19 : decode cX0_sortAt 19 = .ok (.goto 5, 3) := by decide +kernel
theorem dX0_sortAt_22 : decode cX0_sortAt 22 = .ok (.bipush 9, 2) := by decide +kernel
theorem dX0_sortAt_24 : decode cX0_sortAt 24 = .ok (.ireturn, 1) := by decide +kernel
set_option maxRecDepth 20000 in
theorem ggX0_numberAt_X0_isCell : GoodIn wsX0_numberAt wsX0_isCell := goodIn_r _ [5] (by decide +kernel) (by decide +kernel)
set_option maxRecDepth 20000 in
theorem gX0_numberAt_X0_isCell : GoodIn wsX0_numberAt (va_wsS RX0 69 yX0_isCell wsX0_isCell) := goodIn_app (goodIn_of _ (by decide +kernel)) ggX0_numberAt_X0_isCell
theorem dX0_numberAt_0 : decode cX0_numberAt 0 = .ok (.iload_n 1, 1) := by decide +kernel
theorem dX0_numberAt_1 : decode cX0_numberAt 1 = .ok (.iload_n 2, 1) := by decide +kernel
theorem dX0_numberAt_2 : decode cX0_numberAt 2 = .ok (.invokestatic 69, 3) := by decide +kernel
theorem dX0_numberAt_5 : decode cX0_numberAt 5 = .ok (.ifCond .eq 17, 3) := by decide +kernel
theorem dX0_numberAt_8 : decode cX0_numberAt 8 = .ok (.aload_n 0, 1) := by decide +kernel
theorem dX0_numberAt_9 : decode cX0_numberAt 9 = .ok (.getfield 21, 3) := by decide +kernel
theorem dX0_numberAt_12 : decode cX0_numberAt 12 = .ok (.iload_n 1, 1) := by decide +kernel
theorem dX0_numberAt_13 : decode cX0_numberAt 13 = .ok (.bipush 12, 2) := by decide +kernel
theorem dX0_numberAt_15 : decode cX0_numberAt 15 = .ok (.imul, 1) := by decide +kernel
theorem dX0_numberAt_16 : decode cX0_numberAt 16 = .ok (.iload_n 2, 1) := by decide +kernel
theorem dX0_numberAt_17 : decode cX0_numberAt 17 = .ok (.iadd, 1) := by decide +kernel
theorem dX0_numberAt_18 : decode cX0_numberAt 18 = .ok (.laload, 1) := by decide +kernel
theorem dX0_numberAt_19 : decode cX0_numberAt 19 = .ok (.goto 4, 3) := by decide +kernel
theorem dX0_numberAt_22 : decode cX0_numberAt 22 = .ok (.lconst 0, 1) := by decide +kernel
theorem dX0_numberAt_23 : decode cX0_numberAt 23 = .ok (.lreturn, 1) := by decide +kernel
set_option maxRecDepth 20000 in
theorem ggX0_setCell_X0_isCell : GoodIn wsX0_setCell wsX0_isCell := goodIn_r _ [6] (by decide +kernel) (by decide +kernel)
set_option maxRecDepth 20000 in
theorem gX0_setCell_X0_isCell : GoodIn wsX0_setCell (va_wsS RX0 69 yX0_isCell wsX0_isCell) := goodIn_app (goodIn_of _ (by decide +kernel)) ggX0_setCell_X0_isCell
theorem dX0_setCell_0 : decode cX0_setCell 0 = .ok (.iload_n 1, 1) := by decide +kernel
theorem dX0_setCell_1 : decode cX0_setCell 1 = .ok (.iload_n 2, 1) := by decide +kernel
theorem dX0_setCell_2 : decode cX0_setCell 2 = .ok (.invokestatic 69, 3) := by decide +kernel
theorem dX0_setCell_5 : decode cX0_setCell 5 = .ok (.ifCond .eq 28, 3) := by decide +kernel
theorem dX0_setCell_8 : decode cX0_setCell 8 = .ok (.aload_n 0, 1) := by decide +kernel
theorem dX0_setCell_9 : decode cX0_setCell 9 = .ok (.getfield 18, 3) := by decide +kernel
theorem dX0_setCell_12 : decode cX0_setCell 12 = .ok (.iload_n 1, 1) := by decide +kernel
theorem dX0_setCell_13 : decode cX0_setCell 13 = .ok (.bipush 12, 2) := by decide +kernel
theorem dX0_setCell_15 : decode cX0_setCell 15 = .ok (.imul, 1) := by decide +kernel
theorem dX0_setCell_16 : decode cX0_setCell 16 = .ok (.iload_n 2, 1) := by decide +kernel
theorem dX0_setCell_17 : decode cX0_setCell 17 = .ok (.iadd, 1) := by decide +kernel
theorem dX0_setCell_18 : decode cX0_setCell 18 = .ok (.iload_n 3, 1) := by decide +kernel
theorem dX0_setCell_19 : decode cX0_setCell 19 = .ok (.iastore, 1) := by decide +kernel
theorem dX0_setCell_20 : decode cX0_setCell 20 = .ok (.aload_n 0, 1) := by decide +kernel
theorem dX0_setCell_21 : decode cX0_setCell 21 = .ok (.getfield 21, 3) := by decide +kernel
theorem dX0_setCell_24 : decode cX0_setCell 24 = .ok (.iload_n 1, 1) := by decide +kernel
theorem dX0_setCell_25 : decode cX0_setCell 25 = .ok (.bipush 12, 2) := by decide +kernel
theorem dX0_setCell_27 : decode cX0_setCell 27 = .ok (.imul, 1) := by decide +kernel
theorem dX0_setCell_28 : decode cX0_setCell 28 = .ok (.iload_n 2, 1) := by decide +kernel
theorem dX0_setCell_29 : decode cX0_setCell 29 = .ok (.iadd, 1) := by decide +kernel
theorem dX0_setCell_30 : decode cX0_setCell 30 = .ok (.lload 4, 2) := by decide +kernel
theorem dX0_setCell_32 : decode cX0_setCell 32 = .ok (.lastore, 1) := by decide +kernel
theorem dX0_setCell_33 : decode cX0_setCell 33 = .ok (.return_, 1) := by decide +kernel
set_option maxRecDepth 20000 in
theorem ggX0_whyNotReach_X0_kindOf : GoodIn wsX0_whyNotReach wsX0_kindOf := goodIn_r _ [5, 6, 19, 20, 21, 22, 23, 24, 25, 26, 27, 28, 29, 30] (by decide +kernel) (by decide +kernel)
set_option maxRecDepth 20000 in
theorem gX0_whyNotReach_X0_kindOf : GoodIn wsX0_whyNotReach (wsV RX0 57 RX0 yX0_kindOf wsX0_kindOf) := goodIn_app (goodIn_of _ (by decide +kernel)) ggX0_whyNotReach_X0_kindOf
set_option maxRecDepth 20000 in
theorem ggX0_whyNotReach_X0_holdsArray : GoodIn wsX0_whyNotReach wsX0_holdsArray := goodIn_r _ [10, 1, 2, 3, 4, 5, 6, 19, 20, 21, 22, 23, 24, 25, 26, 27, 28, 29, 30] (by decide +kernel) (by decide +kernel)
set_option maxRecDepth 20000 in
theorem gX0_whyNotReach_X0_holdsArray : GoodIn wsX0_whyNotReach (wsV RX0 73 RX0 yX0_holdsArray wsX0_holdsArray) := goodIn_app (goodIn_of _ (by decide +kernel)) ggX0_whyNotReach_X0_holdsArray
set_option maxRecDepth 20000 in
theorem ggX0_whyNotReach_X0_sizeOf : GoodIn wsX0_whyNotReach wsX0_sizeOf := goodIn_r _ [14, 15, 19, 20, 21, 22, 23, 24, 25, 26, 27, 28, 29, 30] (by decide +kernel) (by decide +kernel)
set_option maxRecDepth 20000 in
theorem gX0_whyNotReach_X0_sizeOf : GoodIn wsX0_whyNotReach (wsV RX0 76 RX0 yX0_sizeOf wsX0_sizeOf) := goodIn_app (goodIn_of _ (by decide +kernel)) ggX0_whyNotReach_X0_sizeOf
set_option maxRecDepth 20000 in
theorem ggX0_whyNotReach_X5_isIn : GoodIn wsX0_whyNotReach wsX5_isIn := goodIn_r _ [18] (by decide +kernel) (by decide +kernel)
set_option maxRecDepth 20000 in
theorem gX0_whyNotReach_X5_isIn_n79 : GoodIn wsX0_whyNotReach (wsX5_isIn) := ggX0_whyNotReach_X5_isIn
theorem dX0_whyNotReach_0 : decode cX0_whyNotReach 0 = .ok (.aload_n 0, 1) := by decide +kernel
theorem dX0_whyNotReach_1 : decode cX0_whyNotReach 1 = .ok (.iload_n 1, 1) := by decide +kernel
theorem dX0_whyNotReach_2 : decode cX0_whyNotReach 2 = .ok (.invokevirtual 57, 3) := by decide +kernel
theorem dX0_whyNotReach_5 : decode cX0_whyNotReach 5 = .ok (.bipush 14, 2) := by decide +kernel
theorem dX0_whyNotReach_7 : decode cX0_whyNotReach 7 = .ok (.if_icmp .ne 5, 3) := by decide +kernel
theorem dX0_whyNotReach_10 : decode cX0_whyNotReach 10 = .ok (.iconst 1, 1) := by decide +kernel
theorem dX0_whyNotReach_11 : decode cX0_whyNotReach 11 = .ok (.ireturn, 1) := by decide +kernel
theorem dX0_whyNotReach_12 : decode cX0_whyNotReach 12 = .ok (.aload_n 0, 1) := by decide +kernel
theorem dX0_whyNotReach_13 : decode cX0_whyNotReach 13 = .ok (.iload_n 1, 1) := by decide +kernel
theorem dX0_whyNotReach_14 : decode cX0_whyNotReach 14 = .ok (.invokevirtual 73, 3) := by decide +kernel
theorem dX0_whyNotReach_17 : decode cX0_whyNotReach 17 = .ok (.ifCond .ne 5, 3) := by decide +kernel
theorem dX0_whyNotReach_20 : decode cX0_whyNotReach 20 = .ok (.iconst 2, 1) := by decide +kernel
theorem dX0_whyNotReach_21 : decode cX0_whyNotReach 21 = .ok (.ireturn, 1) := by decide +kernel
theorem dX0_whyNotReach_22 : decode cX0_whyNotReach 22 = .ok (.iload_n 2, 1) := by decide +kernel
theorem dX0_whyNotReach_23 : decode cX0_whyNotReach 23 = .ok (.iconst 0, 1) := by decide +kernel
theorem dX0_whyNotReach_24 : decode cX0_whyNotReach 24 = .ok (.aload_n 0, 1) := by decide +kernel
theorem dX0_whyNotReach_25 : decode cX0_whyNotReach 25 = .ok (.iload_n 1, 1) := by decide +kernel
theorem dX0_whyNotReach_26 : decode cX0_whyNotReach 26 = .ok (.invokevirtual 76, 3) := by decide +kernel
theorem dX0_whyNotReach_29 : decode cX0_whyNotReach 29 = .ok (.iconst 1, 1) := by decide +kernel
theorem dX0_whyNotReach_30 : decode cX0_whyNotReach 30 = .ok (.isub, 1) := by decide +kernel
theorem dX0_whyNotReach_31 : decode cX0_whyNotReach 31 = .ok (.invokestatic 79, 3) := by decide +kernel
theorem dX0_whyNotReach_34 : decode cX0_whyNotReach 34 = .ok (.ifCond .eq 7, 3) := by decide +kernel
theorem dX0_whyNotReach_37 : decode cX0_whyNotReach 37 = .ok (.iconst 0, 1) := by decide +kernel
theorem dX0_whyNotReach_38 : decode cX0_whyNotReach 38 = .ok (.goto 4, 3) := by decide +kernel
theorem dX0_whyNotReach_41 : decode cX0_whyNotReach 41 = .ok (.iconst 3, 1) := by decide +kernel
theorem dX0_whyNotReach_42 : decode cX0_whyNotReach 42 = .ok (.ireturn, 1) := by decide +kernel
set_option maxRecDepth 20000 in
theorem ggX0_canRead_X0_kindOf : GoodIn wsX0_canRead wsX0_kindOf := goodIn_r _ [5, 6, 11, 12, 13, 14, 15, 16, 17, 18, 19, 20, 21, 22] (by decide +kernel) (by decide +kernel)
set_option maxRecDepth 20000 in
theorem gX0_canRead_X0_kindOf : GoodIn wsX0_canRead (wsV RX0 57 RX0 yX0_kindOf wsX0_kindOf) := goodIn_app (goodIn_of _ (by decide +kernel)) ggX0_canRead_X0_kindOf
set_option maxRecDepth 20000 in
theorem ggX0_canRead_X5_fits : GoodIn wsX0_canRead wsX5_fits := goodIn_r _ [9, 10] (by decide +kernel) (by decide +kernel)
set_option maxRecDepth 20000 in
theorem gX0_canRead_X5_fits_n83 : GoodIn wsX0_canRead (wsX5_fits) := ggX0_canRead_X5_fits
theorem dX0_canRead_0 : decode cX0_canRead 0 = .ok (.aload_n 0, 1) := by decide +kernel
theorem dX0_canRead_1 : decode cX0_canRead 1 = .ok (.iload_n 1, 1) := by decide +kernel
theorem dX0_canRead_2 : decode cX0_canRead 2 = .ok (.invokevirtual 57, 3) := by decide +kernel
theorem dX0_canRead_5 : decode cX0_canRead 5 = .ok (.istore_n 3, 1) := by decide +kernel
theorem dX0_canRead_6 : decode cX0_canRead 6 = .ok (.iload_n 2, 1) := by decide +kernel
theorem dX0_canRead_7 : decode cX0_canRead 7 = .ok (.bipush 8, 2) := by decide +kernel
theorem dX0_canRead_9 : decode cX0_canRead 9 = .ok (.if_icmp .ne 15, 3) := by decide +kernel
theorem dX0_canRead_12 : decode cX0_canRead 12 = .ok (.iload_n 3, 1) := by decide +kernel
theorem dX0_canRead_13 : decode cX0_canRead 13 = .ok (.bipush 11, 2) := by decide +kernel
theorem dX0_canRead_15 : decode cX0_canRead 15 = .ok (.if_icmp .gt 7, 3) := by decide +kernel
theorem dX0_canRead_18 : decode cX0_canRead 18 = .ok (.iconst 1, 1) := by decide +kernel
theorem dX0_canRead_19 : decode cX0_canRead 19 = .ok (.goto 4, 3) := by decide +kernel
theorem dX0_canRead_22 : decode cX0_canRead 22 = .ok (.iconst 0, 1) := by decide +kernel
theorem dX0_canRead_23 : decode cX0_canRead 23 = .ok (.ireturn, 1) := by decide +kernel
theorem dX0_canRead_24 : decode cX0_canRead 24 = .ok (.iload_n 3, 1) := by decide +kernel
theorem dX0_canRead_25 : decode cX0_canRead 25 = .ok (.bipush 7, 2) := by decide +kernel
theorem dX0_canRead_27 : decode cX0_canRead 27 = .ok (.if_icmp .gt 15, 3) := by decide +kernel
theorem dX0_canRead_30 : decode cX0_canRead 30 = .ok (.iload_n 3, 1) := by decide +kernel
theorem dX0_canRead_31 : decode cX0_canRead 31 = .ok (.iload_n 2, 1) := by decide +kernel
theorem dX0_canRead_32 : decode cX0_canRead 32 = .ok (.invokestatic 83, 3) := by decide +kernel
theorem dX0_canRead_35 : decode cX0_canRead 35 = .ok (.ifCond .eq 7, 3) := by decide +kernel
theorem dX0_canRead_38 : decode cX0_canRead 38 = .ok (.iconst 1, 1) := by decide +kernel
theorem dX0_canRead_39 : decode cX0_canRead 39 = .ok (.goto 4, 3) := by decide +kernel
theorem dX0_canRead_42 : decode cX0_canRead 42 = .ok (.iconst 0, 1) := by decide +kernel
theorem dX0_canRead_43 : decode cX0_canRead 43 = .ok (.ireturn, 1) := by decide +kernel
set_option maxRecDepth 20000 in
theorem ggX0_whyNotRead_X0_whyNotReach : GoodIn wsX0_whyNotRead wsX0_whyNotReach := goodIn_r _ [5, 6, 7, 8, 4, 9, 10, 11, 12, 13, 14, 15, 16, 17, 18, 19, 20, 21, 22, 30, 31, 32, 33, 34, 35, 36, 37, 38, 39, 40, 41] (by decide +kernel) (by decide +kernel)
set_option maxRecDepth 20000 in
theorem gX0_whyNotRead_X0_whyNotReach : GoodIn wsX0_whyNotRead (wsV RX0 86 RX0 yX0_whyNotReach wsX0_whyNotReach) := goodIn_app (goodIn_of _ (by decide +kernel)) ggX0_whyNotRead_X0_whyNotReach
set_option maxRecDepth 20000 in
theorem ggX0_whyNotRead_X0_canRead : GoodIn wsX0_whyNotRead wsX0_canRead := goodIn_r _ [26, 6, 7, 8, 4, 9, 10, 27, 21, 28, 29, 30, 31, 32, 33, 34, 35, 36, 37, 38, 39, 40, 41] (by decide +kernel) (by decide +kernel)
set_option maxRecDepth 20000 in
theorem gX0_whyNotRead_X0_canRead : GoodIn wsX0_whyNotRead (wsV RX0 90 RX0 yX0_canRead wsX0_canRead) := goodIn_app (goodIn_of _ (by decide +kernel)) ggX0_whyNotRead_X0_canRead
theorem dX0_whyNotRead_0 : decode cX0_whyNotRead 0 = .ok (.aload_n 0, 1) := by decide +kernel
theorem dX0_whyNotRead_1 : decode cX0_whyNotRead 1 = .ok (.iload_n 1, 1) := by decide +kernel
theorem dX0_whyNotRead_2 : decode cX0_whyNotRead 2 = .ok (.iload_n 2, 1) := by decide +kernel
theorem dX0_whyNotRead_3 : decode cX0_whyNotRead 3 = .ok (.invokevirtual 86, 3) := by decide +kernel
theorem dX0_whyNotRead_6 : decode cX0_whyNotRead 6 = .ok (.istore 4, 2) := by decide +kernel
theorem dX0_whyNotRead_8 : decode cX0_whyNotRead 8 = .ok (.iload 4, 2) := by decide +kernel
theorem dX0_whyNotRead_10 : decode cX0_whyNotRead 10 = .ok (.ifCond .ne 14, 3) := by decide +kernel
theorem dX0_whyNotRead_13 : decode cX0_whyNotRead 13 = .ok (.aload_n 0, 1) := by decide +kernel
theorem dX0_whyNotRead_14 : decode cX0_whyNotRead 14 = .ok (.iload_n 1, 1) := by decide +kernel
theorem dX0_whyNotRead_15 : decode cX0_whyNotRead 15 = .ok (.iload_n 3, 1) := by decide +kernel
theorem dX0_whyNotRead_16 : decode cX0_whyNotRead 16 = .ok (.invokevirtual 90, 3) := by decide +kernel
theorem dX0_whyNotRead_19 : decode cX0_whyNotRead 19 = .ok (.ifCond .ne 5, 3) := by decide +kernel
theorem dX0_whyNotRead_22 : decode cX0_whyNotRead 22 = .ok (.iconst 4, 1) := by decide +kernel
theorem dX0_whyNotRead_23 : decode cX0_whyNotRead 23 = .ok (.ireturn, 1) := by decide +kernel
theorem dX0_whyNotRead_24 : decode cX0_whyNotRead 24 = .ok (.iload 4, 2) := by decide +kernel
theorem dX0_whyNotRead_26 : decode cX0_whyNotRead 26 = .ok (.ireturn, 1) := by decide +kernel
set_option maxRecDepth 20000 in
theorem ggX0_whyNotPut_X0_whyNotReach : GoodIn wsX0_whyNotPut wsX0_whyNotReach := goodIn_r _ [5, 6, 7, 8, 4, 9, 10, 11, 12, 13, 14, 15, 16, 17, 18, 19, 20, 21, 22, 30, 31, 32, 33, 34, 35, 36, 37, 38, 39, 40, 41] (by decide +kernel) (by decide +kernel)
set_option maxRecDepth 20000 in
theorem gX0_whyNotPut_X0_whyNotReach : GoodIn wsX0_whyNotPut (wsV RX0 86 RX0 yX0_whyNotReach wsX0_whyNotReach) := goodIn_app (goodIn_of _ (by decide +kernel)) ggX0_whyNotPut_X0_whyNotReach
set_option maxRecDepth 20000 in
theorem ggX0_whyNotPut_X0_kindOf : GoodIn wsX0_whyNotPut wsX0_kindOf := goodIn_r _ [9, 10, 30, 31, 32, 33, 34, 35, 36, 37, 38, 39, 40, 41] (by decide +kernel) (by decide +kernel)
set_option maxRecDepth 20000 in
theorem gX0_whyNotPut_X0_kindOf : GoodIn wsX0_whyNotPut (wsV RX0 57 RX0 yX0_kindOf wsX0_kindOf) := goodIn_app (goodIn_of _ (by decide +kernel)) ggX0_whyNotPut_X0_kindOf
set_option maxRecDepth 20000 in
theorem ggX0_whyNotPut_X5_fits : GoodIn wsX0_whyNotPut wsX5_fits := goodIn_r _ [24, 25] (by decide +kernel) (by decide +kernel)
set_option maxRecDepth 20000 in
theorem gX0_whyNotPut_X5_fits_n83 : GoodIn wsX0_whyNotPut (wsX5_fits) := ggX0_whyNotPut_X5_fits
set_option maxRecDepth 20000 in
theorem ggX0_whyNotPut_X0_canHold : GoodIn wsX0_whyNotPut wsX0_canHold := goodIn_r _ [28, 29] (by decide +kernel) (by decide +kernel)
set_option maxRecDepth 20000 in
theorem gX0_whyNotPut_X0_canHold : GoodIn wsX0_whyNotPut (va_wsS RX0 93 yX0_canHold wsX0_canHold) := goodIn_app (goodIn_of _ (by decide +kernel)) ggX0_whyNotPut_X0_canHold
theorem dX0_whyNotPut_0 : decode cX0_whyNotPut 0 = .ok (.aload_n 0, 1) := by decide +kernel
theorem dX0_whyNotPut_1 : decode cX0_whyNotPut 1 = .ok (.iload_n 1, 1) := by decide +kernel
theorem dX0_whyNotPut_2 : decode cX0_whyNotPut 2 = .ok (.iload_n 2, 1) := by decide +kernel
theorem dX0_whyNotPut_3 : decode cX0_whyNotPut 3 = .ok (.invokevirtual 86, 3) := by decide +kernel
theorem dX0_whyNotPut_6 : decode cX0_whyNotPut 6 = .ok (.istore 7, 2) := by decide +kernel
theorem dX0_whyNotPut_8 : decode cX0_whyNotPut 8 = .ok (.iload 7, 2) := by decide +kernel
theorem dX0_whyNotPut_10 : decode cX0_whyNotPut 10 = .ok (.ifCond .eq 6, 3) := by decide +kernel
theorem dX0_whyNotPut_13 : decode cX0_whyNotPut 13 = .ok (.iload 7, 2) := by decide +kernel
theorem dX0_whyNotPut_15 : decode cX0_whyNotPut 15 = .ok (.ireturn, 1) := by decide +kernel
theorem dX0_whyNotPut_16 : decode cX0_whyNotPut 16 = .ok (.aload_n 0, 1) := by decide +kernel
theorem dX0_whyNotPut_17 : decode cX0_whyNotPut 17 = .ok (.iload_n 1, 1) := by decide +kernel
theorem dX0_whyNotPut_18 : decode cX0_whyNotPut 18 = .ok (.invokevirtual 57, 3) := by decide +kernel
theorem dX0_whyNotPut_21 : decode cX0_whyNotPut 21 = .ok (.istore 8, 2) := by decide +kernel
theorem dX0_whyNotPut_23 : decode cX0_whyNotPut 23 = .ok (.iload 8, 2) := by decide +kernel
theorem dX0_whyNotPut_25 : decode cX0_whyNotPut 25 = .ok (.bipush 7, 2) := by decide +kernel
theorem dX0_whyNotPut_27 : decode cX0_whyNotPut 27 = .ok (.if_icmp .gt 18, 3) := by decide +kernel
theorem dX0_whyNotPut_30 : decode cX0_whyNotPut 30 = .ok (.iload_n 3, 1) := by decide +kernel
theorem dX0_whyNotPut_31 : decode cX0_whyNotPut 31 = .ok (.iload 8, 2) := by decide +kernel
theorem dX0_whyNotPut_33 : decode cX0_whyNotPut 33 = .ok (.invokestatic 83, 3) := by decide +kernel
theorem dX0_whyNotPut_36 : decode cX0_whyNotPut 36 = .ok (.ifCond .eq 7, 3) := by decide +kernel
theorem dX0_whyNotPut_39 : decode cX0_whyNotPut 39 = .ok (.iconst 0, 1) := by decide +kernel
theorem dX0_whyNotPut_40 : decode cX0_whyNotPut 40 = .ok (.goto 4, 3) := by decide +kernel
theorem dX0_whyNotPut_43 : decode cX0_whyNotPut 43 = .ok (.iconst 4, 1) := by decide +kernel
theorem dX0_whyNotPut_44 : decode cX0_whyNotPut 44 = .ok (.ireturn, 1) := by decide +kernel
theorem dX0_whyNotPut_45 : decode cX0_whyNotPut 45 = .ok (.iload 6, 2) := by decide +kernel
theorem dX0_whyNotPut_47 : decode cX0_whyNotPut 47 = .ok (.ifCond .ne 18, 3) := by decide +kernel
theorem dX0_whyNotPut_50 : decode cX0_whyNotPut 50 = .ok (.iload 8, 2) := by decide +kernel
theorem dX0_whyNotPut_52 : decode cX0_whyNotPut 52 = .ok (.iload_n 3, 1) := by decide +kernel
theorem dX0_whyNotPut_53 : decode cX0_whyNotPut 53 = .ok (.lload 4, 2) := by decide +kernel
theorem dX0_whyNotPut_55 : decode cX0_whyNotPut 55 = .ok (.invokestatic 93, 3) := by decide +kernel
theorem dX0_whyNotPut_58 : decode cX0_whyNotPut 58 = .ok (.ifCond .eq 7, 3) := by decide +kernel
theorem dX0_whyNotPut_61 : decode cX0_whyNotPut 61 = .ok (.iconst 0, 1) := by decide +kernel
theorem dX0_whyNotPut_62 : decode cX0_whyNotPut 62 = .ok (.goto 4, 3) := by decide +kernel
theorem dX0_whyNotPut_65 : decode cX0_whyNotPut 65 = .ok (.iconst 4, 1) := by decide +kernel
theorem dX0_whyNotPut_66 : decode cX0_whyNotPut 66 = .ok (.ireturn, 1) := by decide +kernel
theorem dX0_canHold_0 : decode cX0_canHold 0 = .ok (.iload_n 1, 1) := by decide +kernel
theorem dX0_canHold_1 : decode cX0_canHold 1 = .ok (.bipush 9, 2) := by decide +kernel
theorem dX0_canHold_3 : decode cX0_canHold 3 = .ok (.if_icmp .eq 9, 3) := by decide +kernel
theorem dX0_canHold_6 : decode cX0_canHold 6 = .ok (.iload_n 0, 1) := by decide +kernel
theorem dX0_canHold_7 : decode cX0_canHold 7 = .ok (.bipush 9, 2) := by decide +kernel
theorem dX0_canHold_9 : decode cX0_canHold 9 = .ok (.if_icmp .ne 5, 3) := by decide +kernel
theorem dX0_canHold_12 : decode cX0_canHold 12 = .ok (.iconst 1, 1) := by decide +kernel
theorem dX0_canHold_13 : decode cX0_canHold 13 = .ok (.ireturn, 1) := by decide +kernel
theorem dX0_canHold_14 : decode cX0_canHold 14 = .ok (.iload_n 0, 1) := by decide +kernel
theorem dX0_canHold_15 : decode cX0_canHold 15 = .ok (.bipush 8, 2) := by decide +kernel
theorem dX0_canHold_17 : decode cX0_canHold 17 = .ok (.if_icmp .ne 14, 3) := by decide +kernel
theorem dX0_canHold_20 : decode cX0_canHold 20 = .ok (.iload_n 1, 1) := by decide +kernel
theorem dX0_canHold_21 : decode cX0_canHold 21 = .ok (.iconst 4, 1) := by decide +kernel
theorem dX0_canHold_22 : decode cX0_canHold 22 = .ok (.if_icmp .ne 7, 3) := by decide +kernel
theorem dX0_canHold_25 : decode cX0_canHold 25 = .ok (.iconst 1, 1) := by decide +kernel
theorem dX0_canHold_26 : decode cX0_canHold 26 = .ok (.goto 4, 3) := by decide +kernel
theorem dX0_canHold_29 : decode cX0_canHold 29 = .ok (.iconst 0, 1) := by decide +kernel
theorem dX0_canHold_30 : decode cX0_canHold 30 = .ok (.ireturn, 1) := by decide +kernel
theorem dX0_canHold_31 : decode cX0_canHold 31 = .ok (.iload_n 1, 1) := by decide +kernel
theorem dX0_canHold_32 : decode cX0_canHold 32 = .ok (.bipush 8, 2) := by decide +kernel
theorem dX0_canHold_34 : decode cX0_canHold 34 = .ok (.if_icmp .ne 21, 3) := by decide +kernel
theorem dX0_canHold_37 : decode cX0_canHold 37 = .ok (.iload_n 0, 1) := by decide +kernel
theorem dX0_canHold_38 : decode cX0_canHold 38 = .ok (.bipush 10, 2) := by decide +kernel
theorem dX0_canHold_40 : decode cX0_canHold 40 = .ok (.if_icmp .eq 11, 3) := by decide +kernel
theorem dX0_canHold_43 : decode cX0_canHold 43 = .ok (.lload_n 2, 1) := by decide +kernel
theorem dX0_canHold_44 : decode cX0_canHold 44 = .ok (.ldc2_w 97, 3) := by decide +kernel
theorem dX0_canHold_47 : decode cX0_canHold 47 = .ok (.lcmp, 1) := by decide +kernel
theorem dX0_canHold_48 : decode cX0_canHold 48 = .ok (.ifCond .lt 7, 3) := by decide +kernel
theorem dX0_canHold_51 : decode cX0_canHold 51 = .ok (.iconst 1, 1) := by decide +kernel
theorem dX0_canHold_52 : decode cX0_canHold 52 = .ok (.goto 4, 3) := by decide +kernel
theorem dX0_canHold_55 : decode cX0_canHold 55 = .ok (.iconst 0, 1) := by decide +kernel
theorem dX0_canHold_56 : decode cX0_canHold 56 = .ok (.ireturn, 1) := by decide +kernel
set_option maxRecDepth 20000 in
theorem ggX0_store_X0_kindOf : GoodIn wsX0_store wsX0_kindOf := goodIn_r _ [5, 6, 19, 20, 21, 22, 23, 24, 25, 26, 27, 28, 29, 30] (by decide +kernel) (by decide +kernel)
set_option maxRecDepth 20000 in
theorem gX0_store_X0_kindOf : GoodIn wsX0_store (wsV RX0 57 RX0 yX0_kindOf wsX0_kindOf) := goodIn_app (goodIn_of _ (by decide +kernel)) ggX0_store_X0_kindOf
set_option maxRecDepth 20000 in
theorem ggX0_store_X5_made : GoodIn wsX0_store wsX5_made := goodIn_r _ [9] (by decide +kernel) (by decide +kernel)
set_option maxRecDepth 20000 in
theorem gX0_store_X5_made_n99 : GoodIn wsX0_store (wsX5_made) := ggX0_store_X5_made
set_option maxRecDepth 20000 in
theorem ggX0_store_X0_setCell : GoodIn wsX0_store wsX0_setCell := goodIn_r _ [13, 14, 15, 16, 17, 4, 18, 19, 20, 21, 22, 23, 24, 25, 26, 27, 28, 29, 30] (by decide +kernel) (by decide +kernel)
set_option maxRecDepth 20000 in
theorem gX0_store_X0_setCell : GoodIn wsX0_store (wsV RX0 65 RX0 yX0_setCell wsX0_setCell) := goodIn_app (goodIn_of _ (by decide +kernel)) ggX0_store_X0_setCell
theorem dX0_store_0 : decode cX0_store 0 = .ok (.aload_n 0, 1) := by decide +kernel
theorem dX0_store_1 : decode cX0_store 1 = .ok (.iload_n 1, 1) := by decide +kernel
theorem dX0_store_2 : decode cX0_store 2 = .ok (.invokevirtual 57, 3) := by decide +kernel
theorem dX0_store_5 : decode cX0_store 5 = .ok (.istore 6, 2) := by decide +kernel
theorem dX0_store_7 : decode cX0_store 7 = .ok (.iload 6, 2) := by decide +kernel
theorem dX0_store_9 : decode cX0_store 9 = .ok (.bipush 7, 2) := by decide +kernel
theorem dX0_store_11 : decode cX0_store 11 = .ok (.if_icmp .gt 21, 3) := by decide +kernel
theorem dX0_store_14 : decode cX0_store 14 = .ok (.aload_n 0, 1) := by decide +kernel
theorem dX0_store_15 : decode cX0_store 15 = .ok (.iload_n 1, 1) := by decide +kernel
theorem dX0_store_16 : decode cX0_store 16 = .ok (.iload_n 2, 1) := by decide +kernel
theorem dX0_store_17 : decode cX0_store 17 = .ok (.iload 6, 2) := by decide +kernel
theorem dX0_store_19 : decode cX0_store 19 = .ok (.iload 6, 2) := by decide +kernel
theorem dX0_store_21 : decode cX0_store 21 = .ok (.lload 4, 2) := by decide +kernel
theorem dX0_store_23 : decode cX0_store 23 = .ok (.invokestatic 99, 3) := by decide +kernel
theorem dX0_store_26 : decode cX0_store 26 = .ok (.invokevirtual 65, 3) := by decide +kernel
theorem dX0_store_29 : decode cX0_store 29 = .ok (.goto 12, 3) := by decide +kernel
theorem dX0_store_32 : decode cX0_store 32 = .ok (.aload_n 0, 1) := by decide +kernel
theorem dX0_store_33 : decode cX0_store 33 = .ok (.iload_n 1, 1) := by decide +kernel
theorem dX0_store_34 : decode cX0_store 34 = .ok (.iload_n 2, 1) := by decide +kernel
theorem dX0_store_35 : decode cX0_store 35 = .ok (.iload_n 3, 1) := by decide +kernel
theorem dX0_store_36 : decode cX0_store 36 = .ok (.lload 4, 2) := by decide +kernel
theorem dX0_store_38 : decode cX0_store 38 = .ok (.invokevirtual 65, 3) := by decide +kernel
theorem dX0_store_41 : decode cX0_store 41 = .ok (.return_, 1) := by decide +kernel
set_option maxRecDepth 20000 in
theorem ggX0_copyCell_X0_whyNotRead : GoodIn wsX0_copyCell wsX0_whyNotRead := goodIn_r _ [5, 6, 7, 8, 4, 9, 10, 11, 12, 13, 14, 15, 16, 17, 18, 19, 20, 21, 22, 23, 24, 25, 26, 27, 28, 29, 30, 31, 32, 33, 65, 66, 67, 68, 69, 70, 71, 72, 73, 74, 75, 76] (by decide +kernel) (by decide +kernel)
set_option maxRecDepth 20000 in
theorem gX0_copyCell_X0_whyNotRead : GoodIn wsX0_copyCell (wsV RX0 103 RX0 yX0_whyNotRead wsX0_whyNotRead) := goodIn_app (goodIn_of _ (by decide +kernel)) ggX0_copyCell_X0_whyNotRead
set_option maxRecDepth 20000 in
theorem ggX0_copyCell_X0_sortAt : GoodIn wsX0_copyCell wsX0_sortAt := goodIn_r _ [37, 38, 39, 40, 4, 41, 65, 66, 67, 68, 69, 70, 71, 72, 73, 74, 75, 76] (by decide +kernel) (by decide +kernel)
set_option maxRecDepth 20000 in
theorem gX0_copyCell_X0_sortAt : GoodIn wsX0_copyCell (wsV RX0 107 RX0 yX0_sortAt wsX0_sortAt) := goodIn_app (goodIn_of _ (by decide +kernel)) ggX0_copyCell_X0_sortAt
set_option maxRecDepth 20000 in
theorem ggX0_copyCell_X0_numberAt : GoodIn wsX0_copyCell wsX0_numberAt := goodIn_r _ [45, 46, 39, 40, 4, 41, 65, 66, 67, 68, 69, 70, 71, 72, 73, 74, 75, 76] (by decide +kernel) (by decide +kernel)
set_option maxRecDepth 20000 in
theorem gX0_copyCell_X0_numberAt : GoodIn wsX0_copyCell (wsV RX0 110 RX0 yX0_numberAt wsX0_numberAt) := goodIn_app (goodIn_of _ (by decide +kernel)) ggX0_copyCell_X0_numberAt
set_option maxRecDepth 20000 in
theorem ggX0_copyCell_X0_whyNotPut : GoodIn wsX0_copyCell wsX0_whyNotPut := goodIn_r _ [50, 6, 7, 8, 4, 9, 10, 11, 12, 13, 14, 15, 16, 17, 18, 19, 20, 21, 22, 23, 24, 25, 26, 31, 32, 33, 51, 52, 53, 54, 65, 66, 67, 68, 69, 70, 71, 72, 73, 74, 75, 76] (by decide +kernel) (by decide +kernel)
set_option maxRecDepth 20000 in
theorem gX0_copyCell_X0_whyNotPut : GoodIn wsX0_copyCell (wsV RX0 114 RX0 yX0_whyNotPut wsX0_whyNotPut) := goodIn_app (goodIn_of _ (by decide +kernel)) ggX0_copyCell_X0_whyNotPut
set_option maxRecDepth 20000 in
theorem ggX0_copyCell_X0_store : GoodIn wsX0_copyCell wsX0_store := goodIn_r _ [58, 10, 11, 12, 4, 13, 14, 59, 25, 60, 61, 62, 63, 64, 38, 46, 39, 40, 41, 65, 66, 67, 68, 69, 70, 71, 72, 73, 74, 75, 76] (by decide +kernel) (by decide +kernel)
set_option maxRecDepth 20000 in
theorem gX0_copyCell_X0_store : GoodIn wsX0_copyCell (wsV RX0 118 RX0 yX0_store wsX0_store) := goodIn_app (goodIn_of _ (by decide +kernel)) ggX0_copyCell_X0_store
theorem dX0_copyCell_0 : decode cX0_copyCell 0 = .ok (.aload_n 0, 1) := by decide +kernel
theorem dX0_copyCell_1 : decode cX0_copyCell 1 = .ok (.iload_n 1, 1) := by decide +kernel
theorem dX0_copyCell_2 : decode cX0_copyCell 2 = .ok (.iload_n 2, 1) := by decide +kernel
theorem dX0_copyCell_3 : decode cX0_copyCell 3 = .ok (.bipush 8, 2) := by decide +kernel
theorem dX0_copyCell_5 : decode cX0_copyCell 5 = .ok (.invokevirtual 103, 3) := by decide +kernel
theorem dX0_copyCell_8 : decode cX0_copyCell 8 = .ok (.ifCond .eq 5, 3) := by decide +kernel
theorem dX0_copyCell_11 : decode cX0_copyCell 11 = .ok (.iconst 0, 1) := by decide +kernel
theorem dX0_copyCell_12 : decode cX0_copyCell 12 = .ok (.ireturn, 1) := by decide +kernel
theorem dX0_copyCell_13 : decode cX0_copyCell 13 = .ok (.aload_n 0, 1) := by decide +kernel
theorem dX0_copyCell_14 : decode cX0_copyCell 14 = .ok (.iload_n 1, 1) := by decide +kernel
theorem dX0_copyCell_15 : decode cX0_copyCell 15 = .ok (.iload_n 2, 1) := by decide +kernel
theorem dX0_copyCell_16 : decode cX0_copyCell 16 = .ok (.invokevirtual 107, 3) := by decide +kernel
theorem dX0_copyCell_19 : decode cX0_copyCell 19 = .ok (.istore 5, 2) := by decide +kernel
theorem dX0_copyCell_21 : decode cX0_copyCell 21 = .ok (.aload_n 0, 1) := by decide +kernel
theorem dX0_copyCell_22 : decode cX0_copyCell 22 = .ok (.iload_n 1, 1) := by decide +kernel
theorem dX0_copyCell_23 : decode cX0_copyCell 23 = .ok (.iload_n 2, 1) := by decide +kernel
theorem dX0_copyCell_24 : decode cX0_copyCell 24 = .ok (.invokevirtual 110, 3) := by decide +kernel
theorem dX0_copyCell_27 : decode cX0_copyCell 27 = .ok (.lstore 6, 2) := by decide +kernel
theorem dX0_copyCell_29 : decode cX0_copyCell 29 = .ok (.aload_n 0, 1) := by decide +kernel
theorem dX0_copyCell_30 : decode cX0_copyCell 30 = .ok (.iload_n 3, 1) := by decide +kernel
theorem dX0_copyCell_31 : decode cX0_copyCell 31 = .ok (.iload 4, 2) := by decide +kernel
theorem dX0_copyCell_33 : decode cX0_copyCell 33 = .ok (.iload 5, 2) := by decide +kernel
theorem dX0_copyCell_35 : decode cX0_copyCell 35 = .ok (.lload 6, 2) := by decide +kernel
theorem dX0_copyCell_37 : decode cX0_copyCell 37 = .ok (.iconst 0, 1) := by decide +kernel
theorem dX0_copyCell_38 : decode cX0_copyCell 38 = .ok (.invokevirtual 114, 3) := by decide +kernel
theorem dX0_copyCell_41 : decode cX0_copyCell 41 = .ok (.ifCond .eq 5, 3) := by decide +kernel
theorem dX0_copyCell_44 : decode cX0_copyCell 44 = .ok (.iconst 0, 1) := by decide +kernel
theorem dX0_copyCell_45 : decode cX0_copyCell 45 = .ok (.ireturn, 1) := by decide +kernel
theorem dX0_copyCell_46 : decode cX0_copyCell 46 = .ok (.aload_n 0, 1) := by decide +kernel
theorem dX0_copyCell_47 : decode cX0_copyCell 47 = .ok (.iload_n 3, 1) := by decide +kernel
theorem dX0_copyCell_48 : decode cX0_copyCell 48 = .ok (.iload 4, 2) := by decide +kernel
theorem dX0_copyCell_50 : decode cX0_copyCell 50 = .ok (.iload 5, 2) := by decide +kernel
theorem dX0_copyCell_52 : decode cX0_copyCell 52 = .ok (.lload 6, 2) := by decide +kernel
theorem dX0_copyCell_54 : decode cX0_copyCell 54 = .ok (.invokevirtual 118, 3) := by decide +kernel
theorem dX0_copyCell_57 : decode cX0_copyCell 57 = .ok (.iconst 1, 1) := by decide +kernel
theorem dX0_copyCell_58 : decode cX0_copyCell 58 = .ok (.ireturn, 1) := by decide +kernel
theorem dX0_setHand_0 : decode cX0_setHand 0 = .ok (.aload_n 0, 1) := by decide +kernel
theorem dX0_setHand_1 : decode cX0_setHand 1 = .ok (.iload_n 1, 1) := by decide +kernel
theorem dX0_setHand_2 : decode cX0_setHand 2 = .ok (.putfield 37, 3) := by decide +kernel
theorem dX0_setHand_5 : decode cX0_setHand 5 = .ok (.aload_n 0, 1) := by decide +kernel
theorem dX0_setHand_6 : decode cX0_setHand 6 = .ok (.lload_n 2, 1) := by decide +kernel
theorem dX0_setHand_7 : decode cX0_setHand 7 = .ok (.putfield 53, 3) := by decide +kernel
theorem dX0_setHand_10 : decode cX0_setHand 10 = .ok (.return_, 1) := by decide +kernel
set_option maxRecDepth 20000 in
theorem ggX0_weightOf_X5_isTag : GoodIn wsX0_weightOf wsX5_isTag := goodIn_r _ [4, 5] (by decide +kernel) (by decide +kernel)
set_option maxRecDepth 20000 in
theorem gX0_weightOf_X5_isTag_n121 : GoodIn wsX0_weightOf (wsX5_isTag) := ggX0_weightOf_X5_isTag
theorem dX0_weightOf_0 : decode cX0_weightOf 0 = .ok (.iload_n 1, 1) := by decide +kernel
theorem dX0_weightOf_1 : decode cX0_weightOf 1 = .ok (.i2l, 1) := by decide +kernel
theorem dX0_weightOf_2 : decode cX0_weightOf 2 = .ok (.invokestatic 121, 3) := by decide +kernel
theorem dX0_weightOf_5 : decode cX0_weightOf 5 = .ok (.ifCond .eq 12, 3) := by decide +kernel
theorem dX0_weightOf_8 : decode cX0_weightOf 8 = .ok (.aload_n 0, 1) := by decide +kernel
theorem dX0_weightOf_9 : decode cX0_weightOf 9 = .ok (.getfield 25, 3) := by decide +kernel
theorem dX0_weightOf_12 : decode cX0_weightOf 12 = .ok (.iload_n 1, 1) := by decide +kernel
theorem dX0_weightOf_13 : decode cX0_weightOf 13 = .ok (.iaload, 1) := by decide +kernel
theorem dX0_weightOf_14 : decode cX0_weightOf 14 = .ok (.goto 4, 3) := by decide +kernel
theorem dX0_weightOf_17 : decode cX0_weightOf 17 = .ok (.iconst 0, 1) := by decide +kernel
theorem dX0_weightOf_18 : decode cX0_weightOf 18 = .ok (.ireturn, 1) := by decide +kernel
set_option maxRecDepth 20000 in
theorem ggX0_setWeight_X5_isTag : GoodIn wsX0_setWeight wsX5_isTag := goodIn_r _ [4, 5] (by decide +kernel) (by decide +kernel)
set_option maxRecDepth 20000 in
theorem gX0_setWeight_X5_isTag_n121 : GoodIn wsX0_setWeight (wsX5_isTag) := ggX0_setWeight_X5_isTag
theorem dX0_setWeight_0 : decode cX0_setWeight 0 = .ok (.iload_n 1, 1) := by decide +kernel
theorem dX0_setWeight_1 : decode cX0_setWeight 1 = .ok (.i2l, 1) := by decide +kernel
theorem dX0_setWeight_2 : decode cX0_setWeight 2 = .ok (.invokestatic 121, 3) := by decide +kernel
theorem dX0_setWeight_5 : decode cX0_setWeight 5 = .ok (.ifCond .eq 10, 3) := by decide +kernel
theorem dX0_setWeight_8 : decode cX0_setWeight 8 = .ok (.aload_n 0, 1) := by decide +kernel
theorem dX0_setWeight_9 : decode cX0_setWeight 9 = .ok (.getfield 25, 3) := by decide +kernel
theorem dX0_setWeight_12 : decode cX0_setWeight 12 = .ok (.iload_n 1, 1) := by decide +kernel
theorem dX0_setWeight_13 : decode cX0_setWeight 13 = .ok (.iload_n 2, 1) := by decide +kernel
theorem dX0_setWeight_14 : decode cX0_setWeight 14 = .ok (.iastore, 1) := by decide +kernel
theorem dX0_setWeight_15 : decode cX0_setWeight 15 = .ok (.return_, 1) := by decide +kernel
theorem dX0_heft_0 : decode cX0_heft 0 = .ok (.lload_n 1, 1) := by decide +kernel
theorem dX0_heft_1 : decode cX0_heft 1 = .ok (.lconst 0, 1) := by decide +kernel
theorem dX0_heft_2 : decode cX0_heft 2 = .ok (.lcmp, 1) := by decide +kernel
theorem dX0_heft_3 : decode cX0_heft 3 = .ok (.ifCond .lt 11, 3) := by decide +kernel
theorem dX0_heft_6 : decode cX0_heft 6 = .ok (.lload_n 1, 1) := by decide +kernel
theorem dX0_heft_7 : decode cX0_heft 7 = .ok (.ldc2_w 125, 3) := by decide +kernel
theorem dX0_heft_10 : decode cX0_heft 10 = .ok (.lcmp, 1) := by decide +kernel
theorem dX0_heft_11 : decode cX0_heft 11 = .ok (.ifCond .lt 5, 3) := by decide +kernel
theorem dX0_heft_14 : decode cX0_heft 14 = .ok (.iconst 0, 1) := by decide +kernel
theorem dX0_heft_15 : decode cX0_heft 15 = .ok (.ireturn, 1) := by decide +kernel
theorem dX0_heft_16 : decode cX0_heft 16 = .ok (.lload_n 1, 1) := by decide +kernel
theorem dX0_heft_17 : decode cX0_heft 17 = .ok (.ldc2_w 97, 3) := by decide +kernel
theorem dX0_heft_20 : decode cX0_heft 20 = .ok (.lcmp, 1) := by decide +kernel
theorem dX0_heft_21 : decode cX0_heft 21 = .ok (.ifCond .lt 15, 3) := by decide +kernel
theorem dX0_heft_24 : decode cX0_heft 24 = .ok (.iconst 2, 1) := by decide +kernel
theorem dX0_heft_25 : decode cX0_heft 25 = .ok (.aload_n 0, 1) := by decide +kernel
theorem dX0_heft_26 : decode cX0_heft 26 = .ok (.getfield 25, 3) := by decide +kernel
theorem dX0_heft_29 : decode cX0_heft 29 = .ok (.lload_n 1, 1) := by decide +kernel
theorem dX0_heft_30 : decode cX0_heft 30 = .ok (.l2i, 1) := by decide +kernel
theorem dX0_heft_31 : decode cX0_heft 31 = .ok (.iaload, 1) := by decide +kernel
theorem dX0_heft_32 : decode cX0_heft 32 = .ok (.imul, 1) := by decide +kernel
theorem dX0_heft_33 : decode cX0_heft 33 = .ok (.goto 10, 3) := by decide +kernel
theorem dX0_heft_36 : decode cX0_heft 36 = .ok (.aload_n 0, 1) := by decide +kernel
theorem dX0_heft_37 : decode cX0_heft 37 = .ok (.getfield 25, 3) := by decide +kernel
theorem dX0_heft_40 : decode cX0_heft 40 = .ok (.lload_n 1, 1) := by decide +kernel
theorem dX0_heft_41 : decode cX0_heft 41 = .ok (.l2i, 1) := by decide +kernel
theorem dX0_heft_42 : decode cX0_heft 42 = .ok (.iaload, 1) := by decide +kernel
theorem dX0_heft_43 : decode cX0_heft 43 = .ok (.ireturn, 1) := by decide +kernel
set_option maxRecDepth 20000 in
theorem ggX0_cellsWithTag_X0_sizeOf : GoodIn wsX0_cellsWithTag wsX0_sizeOf := goodIn_r _ [5, 6, 20, 21, 22, 23, 24, 25, 26, 27, 28, 29, 30, 31] (by decide +kernel) (by decide +kernel)
set_option maxRecDepth 20000 in
theorem gX0_cellsWithTag_X0_sizeOf : GoodIn wsX0_cellsWithTag (wsV RX0 76 RX0 yX0_sizeOf wsX0_sizeOf) := goodIn_app (goodIn_of _ (by decide +kernel)) ggX0_cellsWithTag_X0_sizeOf
set_option maxRecDepth 20000 in
theorem ggX0_cellsWithTag_X0_sortAt : GoodIn wsX0_cellsWithTag wsX0_sortAt := goodIn_r _ [10, 11, 12, 13, 4, 14, 20, 21, 22, 23, 24, 25, 26, 27, 28, 29, 30, 31] (by decide +kernel) (by decide +kernel)
set_option maxRecDepth 20000 in
theorem gX0_cellsWithTag_X0_sortAt : GoodIn wsX0_cellsWithTag (wsV RX0 107 RX0 yX0_sortAt wsX0_sortAt) := goodIn_app (goodIn_of _ (by decide +kernel)) ggX0_cellsWithTag_X0_sortAt
set_option maxRecDepth 20000 in
theorem ggX0_cellsWithTag_X0_numberAt : GoodIn wsX0_cellsWithTag wsX0_numberAt := goodIn_r _ [18, 19, 12, 13, 4, 14, 20, 21, 22, 23, 24, 25, 26, 27, 28, 29, 30, 31] (by decide +kernel) (by decide +kernel)
set_option maxRecDepth 20000 in
theorem gX0_cellsWithTag_X0_numberAt : GoodIn wsX0_cellsWithTag (wsV RX0 110 RX0 yX0_numberAt wsX0_numberAt) := goodIn_app (goodIn_of _ (by decide +kernel)) ggX0_cellsWithTag_X0_numberAt
theorem dX0_cellsWithTag_0 : decode cX0_cellsWithTag 0 = .ok (.iconst 0, 1) := by decide +kernel
theorem dX0_cellsWithTag_1 : decode cX0_cellsWithTag 1 = .ok (.istore_n 2, 1) := by decide +kernel
theorem dX0_cellsWithTag_2 : decode cX0_cellsWithTag 2 = .ok (.iconst 0, 1) := by decide +kernel
theorem dX0_cellsWithTag_3 : decode cX0_cellsWithTag 3 = .ok (.istore_n 3, 1) := by decide +kernel
theorem dX0_cellsWithTag_4 : decode cX0_cellsWithTag 4 = .ok (.iload_n 3, 1) := by decide +kernel
theorem dX0_cellsWithTag_5 : decode cX0_cellsWithTag 5 = .ok (.bipush 6, 2) := by decide +kernel
theorem dX0_cellsWithTag_7 : decode cX0_cellsWithTag 7 = .ok (.if_icmp .ge 56, 3) := by decide +kernel
theorem dX0_cellsWithTag_10 : decode cX0_cellsWithTag 10 = .ok (.iconst 0, 1) := by decide +kernel
theorem dX0_cellsWithTag_11 : decode cX0_cellsWithTag 11 = .ok (.istore 4, 2) := by decide +kernel
theorem dX0_cellsWithTag_13 : decode cX0_cellsWithTag 13 = .ok (.iload 4, 2) := by decide +kernel
theorem dX0_cellsWithTag_15 : decode cX0_cellsWithTag 15 = .ok (.aload_n 0, 1) := by decide +kernel
theorem dX0_cellsWithTag_16 : decode cX0_cellsWithTag 16 = .ok (.iload_n 3, 1) := by decide +kernel
theorem dX0_cellsWithTag_17 : decode cX0_cellsWithTag 17 = .ok (.invokevirtual 76, 3) := by decide +kernel
theorem dX0_cellsWithTag_20 : decode cX0_cellsWithTag 20 = .ok (.if_icmp .ge 37, 3) := by decide +kernel
theorem dX0_cellsWithTag_23 : decode cX0_cellsWithTag 23 = .ok (.aload_n 0, 1) := by decide +kernel
theorem dX0_cellsWithTag_24 : decode cX0_cellsWithTag 24 = .ok (.iload_n 3, 1) := by decide +kernel
theorem dX0_cellsWithTag_25 : decode cX0_cellsWithTag 25 = .ok (.iload 4, 2) := by decide +kernel
theorem dX0_cellsWithTag_27 : decode cX0_cellsWithTag 27 = .ok (.invokevirtual 107, 3) := by decide +kernel
theorem dX0_cellsWithTag_30 : decode cX0_cellsWithTag 30 = .ok (.bipush 8, 2) := by decide +kernel
theorem dX0_cellsWithTag_32 : decode cX0_cellsWithTag 32 = .ok (.if_icmp .ne 19, 3) := by decide +kernel
theorem dX0_cellsWithTag_35 : decode cX0_cellsWithTag 35 = .ok (.aload_n 0, 1) := by decide +kernel
theorem dX0_cellsWithTag_36 : decode cX0_cellsWithTag 36 = .ok (.iload_n 3, 1) := by decide +kernel
theorem dX0_cellsWithTag_37 : decode cX0_cellsWithTag 37 = .ok (.iload 4, 2) := by decide +kernel
theorem dX0_cellsWithTag_39 : decode cX0_cellsWithTag 39 = .ok (.invokevirtual 110, 3) := by decide +kernel
theorem dX0_cellsWithTag_42 : decode cX0_cellsWithTag 42 = .ok (.iload_n 1, 1) := by decide +kernel
theorem dX0_cellsWithTag_43 : decode cX0_cellsWithTag 43 = .ok (.i2l, 1) := by decide +kernel
theorem dX0_cellsWithTag_44 : decode cX0_cellsWithTag 44 = .ok (.lcmp, 1) := by decide +kernel
theorem dX0_cellsWithTag_45 : decode cX0_cellsWithTag 45 = .ok (.ifCond .ne 6, 3) := by decide +kernel
theorem dX0_cellsWithTag_48 : decode cX0_cellsWithTag 48 = .ok (.iinc 2 1, 3) := by decide +kernel
theorem dX0_cellsWithTag_51 : decode cX0_cellsWithTag 51 = .ok (.iinc 4 1, 3) := by decide +kernel
theorem dX0_cellsWithTag_54 : decode cX0_cellsWithTag 54 = .ok (.goto (-41), 3) := by decide +kernel
theorem dX0_cellsWithTag_57 : decode cX0_cellsWithTag 57 = .ok (.iinc 3 1, 3) := by decide +kernel
theorem dX0_cellsWithTag_60 : decode cX0_cellsWithTag 60 = .ok (.goto (-56), 3) := by decide +kernel
theorem dX0_cellsWithTag_63 : decode cX0_cellsWithTag 63 = .ok (.iload_n 2, 1) := by decide +kernel
theorem dX0_cellsWithTag_64 : decode cX0_cellsWithTag 64 = .ok (.ireturn, 1) := by decide +kernel
theorem dX0_keySlot_0 : decode cX0_keySlot 0 = .ok (.iload_n 1, 1) := by decide +kernel
theorem dX0_keySlot_1 : decode cX0_keySlot 1 = .ok (.ifCond .lt 17, 3) := by decide +kernel
theorem dX0_keySlot_4 : decode cX0_keySlot 4 = .ok (.iload_n 1, 1) := by decide +kernel
theorem dX0_keySlot_5 : decode cX0_keySlot 5 = .ok (.iconst 4, 1) := by decide +kernel
theorem dX0_keySlot_6 : decode cX0_keySlot 6 = .ok (.if_icmp .ge 12, 3) := by decide +kernel
theorem dX0_keySlot_9 : decode cX0_keySlot 9 = .ok (.aload_n 0, 1) := by decide +kernel
theorem dX0_keySlot_10 : decode cX0_keySlot 10 = .ok (.getfield 28, 3) := by decide +kernel
theorem dX0_keySlot_13 : decode cX0_keySlot 13 = .ok (.iload_n 1, 1) := by decide +kernel
theorem dX0_keySlot_14 : decode cX0_keySlot 14 = .ok (.iaload, 1) := by decide +kernel
theorem dX0_keySlot_15 : decode cX0_keySlot 15 = .ok (.goto 4, 3) := by decide +kernel
theorem dX0_keySlot_18 : decode cX0_keySlot 18 = .ok (.iconst 0, 1) := by decide +kernel
theorem dX0_keySlot_19 : decode cX0_keySlot 19 = .ok (.ireturn, 1) := by decide +kernel
theorem dX0_keyBy_0 : decode cX0_keyBy 0 = .ok (.iload_n 1, 1) := by decide +kernel
theorem dX0_keyBy_1 : decode cX0_keyBy 1 = .ok (.ifCond .lt 17, 3) := by decide +kernel
theorem dX0_keyBy_4 : decode cX0_keyBy 4 = .ok (.iload_n 1, 1) := by decide +kernel
theorem dX0_keyBy_5 : decode cX0_keyBy 5 = .ok (.iconst 4, 1) := by decide +kernel
theorem dX0_keyBy_6 : decode cX0_keyBy 6 = .ok (.if_icmp .ge 12, 3) := by decide +kernel
theorem dX0_keyBy_9 : decode cX0_keyBy 9 = .ok (.aload_n 0, 1) := by decide +kernel
theorem dX0_keyBy_10 : decode cX0_keyBy 10 = .ok (.getfield 31, 3) := by decide +kernel
theorem dX0_keyBy_13 : decode cX0_keyBy 13 = .ok (.iload_n 1, 1) := by decide +kernel
theorem dX0_keyBy_14 : decode cX0_keyBy 14 = .ok (.iaload, 1) := by decide +kernel
theorem dX0_keyBy_15 : decode cX0_keyBy 15 = .ok (.goto 4, 3) := by decide +kernel
theorem dX0_keyBy_18 : decode cX0_keyBy 18 = .ok (.iconst 0, 1) := by decide +kernel
theorem dX0_keyBy_19 : decode cX0_keyBy 19 = .ok (.ireturn, 1) := by decide +kernel
theorem dX0_keyWay_0 : decode cX0_keyWay 0 = .ok (.iload_n 1, 1) := by decide +kernel
theorem dX0_keyWay_1 : decode cX0_keyWay 1 = .ok (.ifCond .lt 17, 3) := by decide +kernel
theorem dX0_keyWay_4 : decode cX0_keyWay 4 = .ok (.iload_n 1, 1) := by decide +kernel
theorem dX0_keyWay_5 : decode cX0_keyWay 5 = .ok (.iconst 4, 1) := by decide +kernel
theorem dX0_keyWay_6 : decode cX0_keyWay 6 = .ok (.if_icmp .ge 12, 3) := by decide +kernel
theorem dX0_keyWay_9 : decode cX0_keyWay 9 = .ok (.aload_n 0, 1) := by decide +kernel
theorem dX0_keyWay_10 : decode cX0_keyWay 10 = .ok (.getfield 34, 3) := by decide +kernel
theorem dX0_keyWay_13 : decode cX0_keyWay 13 = .ok (.iload_n 1, 1) := by decide +kernel
theorem dX0_keyWay_14 : decode cX0_keyWay 14 = .ok (.iaload, 1) := by decide +kernel
theorem dX0_keyWay_15 : decode cX0_keyWay 15 = .ok (.goto 4, 3) := by decide +kernel
theorem dX0_keyWay_18 : decode cX0_keyWay 18 = .ok (.iconst 0, 1) := by decide +kernel
theorem dX0_keyWay_19 : decode cX0_keyWay 19 = .ok (.ireturn, 1) := by decide +kernel
theorem dX0_addKey_0 : decode cX0_addKey 0 = .ok (.aload_n 0, 1) := by decide +kernel
theorem dX0_addKey_1 : decode cX0_addKey 1 = .ok (.getfield 47, 3) := by decide +kernel
theorem dX0_addKey_4 : decode cX0_addKey 4 = .ok (.ifCond .lt 51, 3) := by decide +kernel
theorem dX0_addKey_7 : decode cX0_addKey 7 = .ok (.aload_n 0, 1) := by decide +kernel
theorem dX0_addKey_8 : decode cX0_addKey 8 = .ok (.getfield 47, 3) := by decide +kernel
theorem dX0_addKey_11 : decode cX0_addKey 11 = .ok (.iconst 4, 1) := by decide +kernel
theorem dX0_addKey_12 : decode cX0_addKey 12 = .ok (.if_icmp .ge 43, 3) := by decide +kernel
theorem dX0_addKey_15 : decode cX0_addKey 15 = .ok (.aload_n 0, 1) := by decide +kernel
theorem dX0_addKey_16 : decode cX0_addKey 16 = .ok (.getfield 28, 3) := by decide +kernel
theorem dX0_addKey_19 : decode cX0_addKey 19 = .ok (.aload_n 0, 1) := by decide +kernel
theorem dX0_addKey_20 : decode cX0_addKey 20 = .ok (.getfield 47, 3) := by decide +kernel
theorem dX0_addKey_23 : decode cX0_addKey 23 = .ok (.iload_n 1, 1) := by decide +kernel
theorem dX0_addKey_24 : decode cX0_addKey 24 = .ok (.iastore, 1) := by decide +kernel
theorem dX0_addKey_25 : decode cX0_addKey 25 = .ok (.aload_n 0, 1) := by decide +kernel
theorem dX0_addKey_26 : decode cX0_addKey 26 = .ok (.getfield 31, 3) := by decide +kernel
theorem dX0_addKey_29 : decode cX0_addKey 29 = .ok (.aload_n 0, 1) := by decide +kernel
theorem dX0_addKey_30 : decode cX0_addKey 30 = .ok (.getfield 47, 3) := by decide +kernel
theorem dX0_addKey_33 : decode cX0_addKey 33 = .ok (.iload_n 2, 1) := by decide +kernel
theorem dX0_addKey_34 : decode cX0_addKey 34 = .ok (.iastore, 1) := by decide +kernel
theorem dX0_addKey_35 : decode cX0_addKey 35 = .ok (.aload_n 0, 1) := by decide +kernel
theorem dX0_addKey_36 : decode cX0_addKey 36 = .ok (.getfield 34, 3) := by decide +kernel
theorem dX0_addKey_39 : decode cX0_addKey 39 = .ok (.aload_n 0, 1) := by decide +kernel
theorem dX0_addKey_40 : decode cX0_addKey 40 = .ok (.getfield 47, 3) := by decide +kernel
theorem dX0_addKey_43 : decode cX0_addKey 43 = .ok (.iload_n 3, 1) := by decide +kernel
theorem dX0_addKey_44 : decode cX0_addKey 44 = .ok (.iastore, 1) := by decide +kernel
theorem dX0_addKey_45 : decode cX0_addKey 45 = .ok (.aload_n 0, 1) := by decide +kernel
theorem dX0_addKey_46 : decode cX0_addKey 46 = .ok (.dup, 1) := by decide +kernel
theorem dX0_addKey_47 : decode cX0_addKey 47 = .ok (.getfield 47, 3) := by decide +kernel
theorem dX0_addKey_50 : decode cX0_addKey 50 = .ok (.iconst 1, 1) := by decide +kernel
theorem dX0_addKey_51 : decode cX0_addKey 51 = .ok (.iadd, 1) := by decide +kernel
theorem dX0_addKey_52 : decode cX0_addKey 52 = .ok (.putfield 47, 3) := by decide +kernel
theorem dX0_addKey_55 : decode cX0_addKey 55 = .ok (.return_, 1) := by decide +kernel
set_option maxRecDepth 20000 in
theorem ggX0_length_X0_keySlot : GoodIn wsX0_length wsX0_keySlot := goodIn_r _ [7, 8, 40, 41, 42, 43, 44, 45, 46, 47, 48, 49, 50, 51] (by decide +kernel) (by decide +kernel)
set_option maxRecDepth 20000 in
theorem gX0_length_X0_keySlot : GoodIn wsX0_length (wsV RX0 127 RX0 yX0_keySlot wsX0_keySlot) := goodIn_app (goodIn_of _ (by decide +kernel)) ggX0_length_X0_keySlot
set_option maxRecDepth 20000 in
theorem ggX0_length_X0_holdsArray : GoodIn wsX0_length wsX0_holdsArray := goodIn_r _ [12, 13, 14, 15, 6, 16, 17, 40, 41, 42, 43, 44, 45, 46, 47, 48, 49, 50, 51] (by decide +kernel) (by decide +kernel)
set_option maxRecDepth 20000 in
theorem gX0_length_X0_holdsArray : GoodIn wsX0_length (wsV RX0 73 RX0 yX0_holdsArray wsX0_holdsArray) := goodIn_app (goodIn_of _ (by decide +kernel)) ggX0_length_X0_holdsArray
set_option maxRecDepth 20000 in
theorem ggX0_length_X0_sizeOf : GoodIn wsX0_length wsX0_sizeOf := goodIn_r _ [21, 22, 40, 41, 42, 43, 44, 45, 46, 47, 48, 49, 50, 51] (by decide +kernel) (by decide +kernel)
set_option maxRecDepth 20000 in
theorem gX0_length_X0_sizeOf : GoodIn wsX0_length (wsV RX0 76 RX0 yX0_sizeOf wsX0_sizeOf) := goodIn_app (goodIn_of _ (by decide +kernel)) ggX0_length_X0_sizeOf
set_option maxRecDepth 20000 in
theorem ggX0_length_X0_keysCanRead : GoodIn wsX0_length wsX0_keysCanRead := goodIn_r _ [26, 2, 3, 4, 5, 6, 7, 8, 27, 28, 29, 30, 31, 32, 33, 34, 35, 13, 14, 15, 16, 17, 36, 37, 38, 39, 40, 41, 42, 43, 44, 45, 46, 47, 48, 49, 50, 51] (by decide +kernel) (by decide +kernel)
set_option maxRecDepth 20000 in
theorem gX0_length_X0_keysCanRead : GoodIn wsX0_length (wsV RX0 130 RX0 yX0_keysCanRead wsX0_keysCanRead) := goodIn_app (goodIn_of _ (by decide +kernel)) ggX0_length_X0_keysCanRead
theorem dX0_length_0 : decode cX0_length 0 = .ok (.aload_n 0, 1) := by decide +kernel
theorem dX0_length_1 : decode cX0_length 1 = .ok (.getfield 50, 3) := by decide +kernel
theorem dX0_length_4 : decode cX0_length 4 = .ok (.istore_n 1, 1) := by decide +kernel
theorem dX0_length_5 : decode cX0_length 5 = .ok (.iconst 0, 1) := by decide +kernel
theorem dX0_length_6 : decode cX0_length 6 = .ok (.istore_n 2, 1) := by decide +kernel
theorem dX0_length_7 : decode cX0_length 7 = .ok (.iload_n 2, 1) := by decide +kernel
theorem dX0_length_8 : decode cX0_length 8 = .ok (.aload_n 0, 1) := by decide +kernel
theorem dX0_length_9 : decode cX0_length 9 = .ok (.getfield 47, 3) := by decide +kernel
theorem dX0_length_12 : decode cX0_length 12 = .ok (.if_icmp .ge 19, 3) := by decide +kernel
theorem dX0_length_15 : decode cX0_length 15 = .ok (.iload_n 1, 1) := by decide +kernel
theorem dX0_length_16 : decode cX0_length 16 = .ok (.iconst 1, 1) := by decide +kernel
theorem dX0_length_17 : decode cX0_length 17 = .ok (.aload_n 0, 1) := by decide +kernel
theorem dX0_length_18 : decode cX0_length 18 = .ok (.iload_n 2, 1) := by decide +kernel
theorem dX0_length_19 : decode cX0_length 19 = .ok (.invokevirtual 127, 3) := by decide +kernel
theorem dX0_length_22 : decode cX0_length 22 = .ok (.ishl, 1) := by decide +kernel
theorem dX0_length_23 : decode cX0_length 23 = .ok (.ior, 1) := by decide +kernel
theorem dX0_length_24 : decode cX0_length 24 = .ok (.istore_n 1, 1) := by decide +kernel
theorem dX0_length_25 : decode cX0_length 25 = .ok (.iinc 2 1, 3) := by decide +kernel
theorem dX0_length_28 : decode cX0_length 28 = .ok (.goto (-21), 3) := by decide +kernel
theorem dX0_length_31 : decode cX0_length 31 = .ok (.iconst (-1), 1) := by decide +kernel
theorem dX0_length_32 : decode cX0_length 32 = .ok (.istore_n 2, 1) := by decide +kernel
theorem dX0_length_33 : decode cX0_length 33 = .ok (.iconst 0, 1) := by decide +kernel
theorem dX0_length_34 : decode cX0_length 34 = .ok (.istore_n 3, 1) := by decide +kernel
theorem dX0_length_35 : decode cX0_length 35 = .ok (.iload_n 3, 1) := by decide +kernel
theorem dX0_length_36 : decode cX0_length 36 = .ok (.bipush 6, 2) := by decide +kernel
theorem dX0_length_38 : decode cX0_length 38 = .ok (.if_icmp .ge 48, 3) := by decide +kernel
theorem dX0_length_41 : decode cX0_length 41 = .ok (.iload_n 1, 1) := by decide +kernel
theorem dX0_length_42 : decode cX0_length 42 = .ok (.iload_n 3, 1) := by decide +kernel
theorem dX0_length_43 : decode cX0_length 43 = .ok (.ishr, 1) := by decide +kernel
theorem dX0_length_44 : decode cX0_length 44 = .ok (.iconst 1, 1) := by decide +kernel
theorem dX0_length_45 : decode cX0_length 45 = .ok (.iand, 1) := by decide +kernel
theorem dX0_length_46 : decode cX0_length 46 = .ok (.iconst 1, 1) := by decide +kernel
theorem dX0_length_47 : decode cX0_length 47 = .ok (.if_icmp .ne 33, 3) := by decide +kernel
theorem dX0_length_50 : decode cX0_length 50 = .ok (.aload_n 0, 1) := by decide +kernel
theorem dX0_length_51 : decode cX0_length 51 = .ok (.iload_n 3, 1) := by decide +kernel
theorem dX0_length_52 : decode cX0_length 52 = .ok (.invokevirtual 73, 3) := by decide +kernel
theorem dX0_length_55 : decode cX0_length 55 = .ok (.ifCond .eq 17, 3) := by decide +kernel
theorem dX0_length_58 : decode cX0_length 58 = .ok (.iload_n 2, 1) := by decide +kernel
theorem dX0_length_59 : decode cX0_length 59 = .ok (.iconst (-1), 1) := by decide +kernel
theorem dX0_length_60 : decode cX0_length 60 = .ok (.if_icmp .eq 14, 3) := by decide +kernel
theorem dX0_length_63 : decode cX0_length 63 = .ok (.aload_n 0, 1) := by decide +kernel
theorem dX0_length_64 : decode cX0_length 64 = .ok (.iload_n 3, 1) := by decide +kernel
theorem dX0_length_65 : decode cX0_length 65 = .ok (.invokevirtual 76, 3) := by decide +kernel
theorem dX0_length_68 : decode cX0_length 68 = .ok (.iload_n 2, 1) := by decide +kernel
theorem dX0_length_69 : decode cX0_length 69 = .ok (.if_icmp .eq 5, 3) := by decide +kernel
theorem dX0_length_72 : decode cX0_length 72 = .ok (.iconst (-1), 1) := by decide +kernel
theorem dX0_length_73 : decode cX0_length 73 = .ok (.ireturn, 1) := by decide +kernel
theorem dX0_length_74 : decode cX0_length 74 = .ok (.aload_n 0, 1) := by decide +kernel
theorem dX0_length_75 : decode cX0_length 75 = .ok (.iload_n 3, 1) := by decide +kernel
theorem dX0_length_76 : decode cX0_length 76 = .ok (.invokevirtual 76, 3) := by decide +kernel
theorem dX0_length_79 : decode cX0_length 79 = .ok (.istore_n 2, 1) := by decide +kernel
theorem dX0_length_80 : decode cX0_length 80 = .ok (.iinc 3 1, 3) := by decide +kernel
theorem dX0_length_83 : decode cX0_length 83 = .ok (.goto (-48), 3) := by decide +kernel
theorem dX0_length_86 : decode cX0_length 86 = .ok (.iload_n 2, 1) := by decide +kernel
theorem dX0_length_87 : decode cX0_length 87 = .ok (.ifCond .le 14, 3) := by decide +kernel
theorem dX0_length_90 : decode cX0_length 90 = .ok (.aload_n 0, 1) := by decide +kernel
theorem dX0_length_91 : decode cX0_length 91 = .ok (.invokevirtual 130, 3) := by decide +kernel
theorem dX0_length_94 : decode cX0_length 94 = .ok (.ifCond .ne 7, 3) := by decide +kernel
theorem dX0_length_97 : decode cX0_length 97 = .ok (.iconst (-1), 1) := by decide +kernel
theorem dX0_length_98 : decode cX0_length 98 = .ok (.goto 4, 3) := by decide +kernel
theorem dX0_length_101 : decode cX0_length 101 = .ok (.iload_n 2, 1) := by decide +kernel
theorem dX0_length_102 : decode cX0_length 102 = .ok (.ireturn, 1) := by decide +kernel
set_option maxRecDepth 20000 in
theorem ggX0_keysCanRead_X0_keySlot : GoodIn wsX0_keysCanRead wsX0_keySlot := goodIn_r _ [6, 7, 26, 27, 28, 29, 30, 31, 32, 33, 34, 35, 36, 37] (by decide +kernel) (by decide +kernel)
set_option maxRecDepth 20000 in
theorem gX0_keysCanRead_X0_keySlot : GoodIn wsX0_keysCanRead (wsV RX0 127 RX0 yX0_keySlot wsX0_keySlot) := goodIn_app (goodIn_of _ (by decide +kernel)) ggX0_keysCanRead_X0_keySlot
set_option maxRecDepth 20000 in
theorem ggX0_keysCanRead_X0_keyBy : GoodIn wsX0_keysCanRead wsX0_keyBy := goodIn_r _ [11, 12, 26, 27, 28, 29, 30, 31, 32, 33, 34, 35, 36, 37] (by decide +kernel) (by decide +kernel)
set_option maxRecDepth 20000 in
theorem gX0_keysCanRead_X0_keyBy : GoodIn wsX0_keysCanRead (wsV RX0 134 RX0 yX0_keyBy wsX0_keyBy) := goodIn_app (goodIn_of _ (by decide +kernel)) ggX0_keysCanRead_X0_keyBy
set_option maxRecDepth 20000 in
theorem ggX0_keysCanRead_X0_canRead : GoodIn wsX0_keysCanRead wsX0_canRead := goodIn_r _ [16, 17, 18, 19, 5, 20, 21, 22, 23, 24, 25, 26, 27, 28, 29, 30, 31, 32, 33, 34, 35, 36, 37] (by decide +kernel) (by decide +kernel)
set_option maxRecDepth 20000 in
theorem gX0_keysCanRead_X0_canRead : GoodIn wsX0_keysCanRead (wsV RX0 90 RX0 yX0_canRead wsX0_canRead) := goodIn_app (goodIn_of _ (by decide +kernel)) ggX0_keysCanRead_X0_canRead
theorem dX0_keysCanRead_0 : decode cX0_keysCanRead 0 = .ok (.iconst 0, 1) := by decide +kernel
theorem dX0_keysCanRead_1 : decode cX0_keysCanRead 1 = .ok (.istore_n 1, 1) := by decide +kernel
theorem dX0_keysCanRead_2 : decode cX0_keysCanRead 2 = .ok (.iload_n 1, 1) := by decide +kernel
theorem dX0_keysCanRead_3 : decode cX0_keysCanRead 3 = .ok (.aload_n 0, 1) := by decide +kernel
theorem dX0_keysCanRead_4 : decode cX0_keysCanRead 4 = .ok (.getfield 47, 3) := by decide +kernel
theorem dX0_keysCanRead_7 : decode cX0_keysCanRead 7 = .ok (.if_icmp .ge 28, 3) := by decide +kernel
theorem dX0_keysCanRead_10 : decode cX0_keysCanRead 10 = .ok (.aload_n 0, 1) := by decide +kernel
theorem dX0_keysCanRead_11 : decode cX0_keysCanRead 11 = .ok (.aload_n 0, 1) := by decide +kernel
theorem dX0_keysCanRead_12 : decode cX0_keysCanRead 12 = .ok (.iload_n 1, 1) := by decide +kernel
theorem dX0_keysCanRead_13 : decode cX0_keysCanRead 13 = .ok (.invokevirtual 127, 3) := by decide +kernel
theorem dX0_keysCanRead_16 : decode cX0_keysCanRead 16 = .ok (.aload_n 0, 1) := by decide +kernel
theorem dX0_keysCanRead_17 : decode cX0_keysCanRead 17 = .ok (.iload_n 1, 1) := by decide +kernel
theorem dX0_keysCanRead_18 : decode cX0_keysCanRead 18 = .ok (.invokevirtual 134, 3) := by decide +kernel
theorem dX0_keysCanRead_21 : decode cX0_keysCanRead 21 = .ok (.invokevirtual 90, 3) := by decide +kernel
theorem dX0_keysCanRead_24 : decode cX0_keysCanRead 24 = .ok (.ifCond .ne 5, 3) := by decide +kernel
theorem dX0_keysCanRead_27 : decode cX0_keysCanRead 27 = .ok (.iconst 0, 1) := by decide +kernel
theorem dX0_keysCanRead_28 : decode cX0_keysCanRead 28 = .ok (.ireturn, 1) := by decide +kernel
theorem dX0_keysCanRead_29 : decode cX0_keysCanRead 29 = .ok (.iinc 1 1, 3) := by decide +kernel
theorem dX0_keysCanRead_32 : decode cX0_keysCanRead 32 = .ok (.goto (-30), 3) := by decide +kernel
theorem dX0_keysCanRead_35 : decode cX0_keysCanRead 35 = .ok (.iconst 1, 1) := by decide +kernel
theorem dX0_keysCanRead_36 : decode cX0_keysCanRead 36 = .ok (.ireturn, 1) := by decide +kernel
set_option maxRecDepth 20000 in
theorem ggX0_comparePlaces_X0_keySlot : GoodIn wsX0_comparePlaces wsX0_keySlot := goodIn_r _ [6, 7, 57, 58, 59, 60, 61, 62, 63, 64, 65, 66, 67, 68] (by decide +kernel) (by decide +kernel)
set_option maxRecDepth 20000 in
theorem gX0_comparePlaces_X0_keySlot : GoodIn wsX0_comparePlaces (wsV RX0 127 RX0 yX0_keySlot wsX0_keySlot) := goodIn_app (goodIn_of _ (by decide +kernel)) ggX0_comparePlaces_X0_keySlot
set_option maxRecDepth 20000 in
theorem ggX0_comparePlaces_X0_keyBy : GoodIn wsX0_comparePlaces wsX0_keyBy := goodIn_r _ [11, 12, 57, 58, 59, 60, 61, 62, 63, 64, 65, 66, 67, 68] (by decide +kernel) (by decide +kernel)
set_option maxRecDepth 20000 in
theorem gX0_comparePlaces_X0_keyBy : GoodIn wsX0_comparePlaces (wsV RX0 134 RX0 yX0_keyBy wsX0_keyBy) := goodIn_app (goodIn_of _ (by decide +kernel)) ggX0_comparePlaces_X0_keyBy
set_option maxRecDepth 20000 in
theorem ggX0_comparePlaces_X0_compareCells : GoodIn wsX0_comparePlaces wsX0_compareCells := goodIn_r _ [16, 17, 18, 19, 5, 20, 21, 22, 23, 24, 25, 26, 27, 28, 29, 30, 31, 32, 33, 34, 35, 36, 37, 38, 39, 40, 41, 42, 43, 44, 45, 46, 47, 48, 49, 50, 51, 57, 58, 59, 60, 61, 62, 63, 64, 65, 66, 67, 68] (by decide +kernel) (by decide +kernel)
set_option maxRecDepth 20000 in
theorem gX0_comparePlaces_X0_compareCells : GoodIn wsX0_comparePlaces (wsV RX0 137 RX0 yX0_compareCells wsX0_compareCells) := goodIn_app (goodIn_of _ (by decide +kernel)) ggX0_comparePlaces_X0_compareCells
set_option maxRecDepth 20000 in
theorem ggX0_comparePlaces_X0_keyWay : GoodIn wsX0_comparePlaces wsX0_keyWay := goodIn_r _ [55, 56, 57, 58, 59, 60, 61, 62, 63, 64, 65, 66, 67, 68] (by decide +kernel) (by decide +kernel)
set_option maxRecDepth 20000 in
theorem gX0_comparePlaces_X0_keyWay : GoodIn wsX0_comparePlaces (wsV RX0 141 RX0 yX0_keyWay wsX0_keyWay) := goodIn_app (goodIn_of _ (by decide +kernel)) ggX0_comparePlaces_X0_keyWay
theorem dX0_comparePlaces_0 : decode cX0_comparePlaces 0 = .ok (.iconst 0, 1) := by decide +kernel
theorem dX0_comparePlaces_1 : decode cX0_comparePlaces 1 = .ok (.istore 4, 2) := by decide +kernel
theorem dX0_comparePlaces_3 : decode cX0_comparePlaces 3 = .ok (.iload 4, 2) := by decide +kernel
theorem dX0_comparePlaces_5 : decode cX0_comparePlaces 5 = .ok (.aload_n 0, 1) := by decide +kernel
theorem dX0_comparePlaces_6 : decode cX0_comparePlaces 6 = .ok (.getfield 47, 3) := by decide +kernel
theorem dX0_comparePlaces_9 : decode cX0_comparePlaces 9 = .ok (.if_icmp .ge 62, 3) := by decide +kernel
theorem dX0_comparePlaces_12 : decode cX0_comparePlaces 12 = .ok (.iload_n 3, 1) := by decide +kernel
theorem dX0_comparePlaces_13 : decode cX0_comparePlaces 13 = .ok (.iload 4, 2) := by decide +kernel
theorem dX0_comparePlaces_15 : decode cX0_comparePlaces 15 = .ok (.ishr, 1) := by decide +kernel
theorem dX0_comparePlaces_16 : decode cX0_comparePlaces 16 = .ok (.iconst 1, 1) := by decide +kernel
theorem dX0_comparePlaces_17 : decode cX0_comparePlaces 17 = .ok (.iand, 1) := by decide +kernel
theorem dX0_comparePlaces_18 : decode cX0_comparePlaces 18 = .ok (.iconst 1, 1) := by decide +kernel
theorem dX0_comparePlaces_19 : decode cX0_comparePlaces 19 = .ok (.if_icmp .ne 46, 3) := by decide +kernel
theorem dX0_comparePlaces_22 : decode cX0_comparePlaces 22 = .ok (.aload_n 0, 1) := by decide +kernel
theorem dX0_comparePlaces_23 : decode cX0_comparePlaces 23 = .ok (.aload_n 0, 1) := by decide +kernel
theorem dX0_comparePlaces_24 : decode cX0_comparePlaces 24 = .ok (.iload 4, 2) := by decide +kernel
theorem dX0_comparePlaces_26 : decode cX0_comparePlaces 26 = .ok (.invokevirtual 127, 3) := by decide +kernel
theorem dX0_comparePlaces_29 : decode cX0_comparePlaces 29 = .ok (.aload_n 0, 1) := by decide +kernel
theorem dX0_comparePlaces_30 : decode cX0_comparePlaces 30 = .ok (.iload 4, 2) := by decide +kernel
theorem dX0_comparePlaces_32 : decode cX0_comparePlaces 32 = .ok (.invokevirtual 134, 3) := by decide +kernel
theorem dX0_comparePlaces_35 : decode cX0_comparePlaces 35 = .ok (.iload_n 1, 1) := by decide +kernel
theorem dX0_comparePlaces_36 : decode cX0_comparePlaces 36 = .ok (.iload_n 2, 1) := by decide +kernel
theorem dX0_comparePlaces_37 : decode cX0_comparePlaces 37 = .ok (.invokevirtual 137, 3) := by decide +kernel
theorem dX0_comparePlaces_40 : decode cX0_comparePlaces 40 = .ok (.istore 5, 2) := by decide +kernel
theorem dX0_comparePlaces_42 : decode cX0_comparePlaces 42 = .ok (.iload 5, 2) := by decide +kernel
theorem dX0_comparePlaces_44 : decode cX0_comparePlaces 44 = .ok (.ifCond .eq 21, 3) := by decide +kernel
theorem dX0_comparePlaces_47 : decode cX0_comparePlaces 47 = .ok (.aload_n 0, 1) := by decide +kernel
theorem dX0_comparePlaces_48 : decode cX0_comparePlaces 48 = .ok (.iload 4, 2) := by decide +kernel
theorem dX0_comparePlaces_50 : decode cX0_comparePlaces 50 = .ok (.invokevirtual 141, 3) := by decide +kernel
theorem dX0_comparePlaces_53 : decode cX0_comparePlaces 53 = .ok (.ifCond .ne 8, 3) := by decide +kernel
theorem dX0_comparePlaces_56 : decode cX0_comparePlaces 56 = .ok (.iload 5, 2) := by decide +kernel
theorem dX0_comparePlaces_58 : decode cX0_comparePlaces 58 = .ok (.goto 6, 3) := by decide +kernel
theorem dX0_comparePlaces_61 : decode cX0_comparePlaces 61 = .ok (.iload 5, 2) := by decide +kernel
theorem dX0_comparePlaces_63 : decode cX0_comparePlaces 63 = .ok (.ineg, 1) := by decide +kernel
theorem dX0_comparePlaces_64 : decode cX0_comparePlaces 64 = .ok (.ireturn, 1) := by decide +kernel
theorem dX0_comparePlaces_65 : decode cX0_comparePlaces 65 = .ok (.iinc 4 1, 3) := by decide +kernel
theorem dX0_comparePlaces_68 : decode cX0_comparePlaces 68 = .ok (.goto (-65), 3) := by decide +kernel
theorem dX0_comparePlaces_71 : decode cX0_comparePlaces 71 = .ok (.iconst 0, 1) := by decide +kernel
theorem dX0_comparePlaces_72 : decode cX0_comparePlaces 72 = .ok (.ireturn, 1) := by decide +kernel
set_option maxRecDepth 20000 in
theorem ggX0_compareCells_X0_sortAt : GoodIn wsX0_compareCells wsX0_sortAt := goodIn_r _ [5, 6, 7, 8, 4, 9, 37, 38, 39, 40, 41, 42, 43, 44, 45, 46, 47, 48] (by decide +kernel) (by decide +kernel)
set_option maxRecDepth 20000 in
theorem gX0_compareCells_X0_sortAt : GoodIn wsX0_compareCells (wsV RX0 107 RX0 yX0_sortAt wsX0_sortAt) := goodIn_app (goodIn_of _ (by decide +kernel)) ggX0_compareCells_X0_sortAt
set_option maxRecDepth 20000 in
theorem ggX0_compareCells_X0_numberAt : GoodIn wsX0_compareCells wsX0_numberAt := goodIn_r _ [13, 14, 7, 8, 4, 9, 37, 38, 39, 40, 41, 42, 43, 44, 45, 46, 47, 48] (by decide +kernel) (by decide +kernel)
set_option maxRecDepth 20000 in
theorem gX0_compareCells_X0_numberAt : GoodIn wsX0_compareCells (wsV RX0 110 RX0 yX0_numberAt wsX0_numberAt) := goodIn_app (goodIn_of _ (by decide +kernel)) ggX0_compareCells_X0_numberAt
set_option maxRecDepth 20000 in
theorem ggX0_compareCells_X0_compareValues : GoodIn wsX0_compareCells wsX0_compareValues := goodIn_r _ [18, 19, 20, 21, 22, 23, 24, 25, 4, 26, 27, 28, 29, 30, 31, 32, 33, 37, 38, 39, 40, 41, 42, 43, 44, 45, 46, 47, 48] (by decide +kernel) (by decide +kernel)
set_option maxRecDepth 20000 in
theorem gX0_compareCells_X0_compareValues : GoodIn wsX0_compareCells (wsV RX0 144 RX0 yX0_compareValues wsX0_compareValues) := goodIn_app (goodIn_of _ (by decide +kernel)) ggX0_compareCells_X0_compareValues
set_option maxRecDepth 20000 in
theorem ggX0_compareCells_X5_made : GoodIn wsX0_compareCells wsX5_made := goodIn_r _ [36] (by decide +kernel) (by decide +kernel)
set_option maxRecDepth 20000 in
theorem gX0_compareCells_X5_made_n99 : GoodIn wsX0_compareCells (wsX5_made) := ggX0_compareCells_X5_made
set_option maxRecDepth 20000 in
theorem ggX0_compareCells_J13_compare_74951 : GoodIn wsX0_compareCells wsJ13_compare_74951 := goodIn_r _ [33] (by decide +kernel) (by decide +kernel)
set_option maxRecDepth 20000 in
theorem gX0_compareCells_J13_compare_74951 : GoodIn wsX0_compareCells (va_wsS RX0 148 yJ13_compare_74951 wsJ13_compare_74951) := goodIn_app (goodIn_of _ (by decide +kernel)) ggX0_compareCells_J13_compare_74951
theorem dX0_compareCells_0 : decode cX0_compareCells 0 = .ok (.iload_n 2, 1) := by decide +kernel
theorem dX0_compareCells_1 : decode cX0_compareCells 1 = .ok (.bipush 8, 2) := by decide +kernel
theorem dX0_compareCells_3 : decode cX0_compareCells 3 = .ok (.if_icmp .ne 34, 3) := by decide +kernel
theorem dX0_compareCells_6 : decode cX0_compareCells 6 = .ok (.aload_n 0, 1) := by decide +kernel
theorem dX0_compareCells_7 : decode cX0_compareCells 7 = .ok (.aload_n 0, 1) := by decide +kernel
theorem dX0_compareCells_8 : decode cX0_compareCells 8 = .ok (.iload_n 1, 1) := by decide +kernel
theorem dX0_compareCells_9 : decode cX0_compareCells 9 = .ok (.iload_n 3, 1) := by decide +kernel
theorem dX0_compareCells_10 : decode cX0_compareCells 10 = .ok (.invokevirtual 107, 3) := by decide +kernel
theorem dX0_compareCells_13 : decode cX0_compareCells 13 = .ok (.aload_n 0, 1) := by decide +kernel
theorem dX0_compareCells_14 : decode cX0_compareCells 14 = .ok (.iload_n 1, 1) := by decide +kernel
theorem dX0_compareCells_15 : decode cX0_compareCells 15 = .ok (.iload_n 3, 1) := by decide +kernel
theorem dX0_compareCells_16 : decode cX0_compareCells 16 = .ok (.invokevirtual 110, 3) := by decide +kernel
theorem dX0_compareCells_19 : decode cX0_compareCells 19 = .ok (.aload_n 0, 1) := by decide +kernel
theorem dX0_compareCells_20 : decode cX0_compareCells 20 = .ok (.iload_n 1, 1) := by decide +kernel
theorem dX0_compareCells_21 : decode cX0_compareCells 21 = .ok (.iload 4, 2) := by decide +kernel
theorem dX0_compareCells_23 : decode cX0_compareCells 23 = .ok (.invokevirtual 107, 3) := by decide +kernel
theorem dX0_compareCells_26 : decode cX0_compareCells 26 = .ok (.aload_n 0, 1) := by decide +kernel
theorem dX0_compareCells_27 : decode cX0_compareCells 27 = .ok (.iload_n 1, 1) := by decide +kernel
theorem dX0_compareCells_28 : decode cX0_compareCells 28 = .ok (.iload 4, 2) := by decide +kernel
theorem dX0_compareCells_30 : decode cX0_compareCells 30 = .ok (.invokevirtual 110, 3) := by decide +kernel
theorem dX0_compareCells_33 : decode cX0_compareCells 33 = .ok (.invokevirtual 144, 3) := by decide +kernel
theorem dX0_compareCells_36 : decode cX0_compareCells 36 = .ok (.ireturn, 1) := by decide +kernel
theorem dX0_compareCells_37 : decode cX0_compareCells 37 = .ok (.iload_n 2, 1) := by decide +kernel
theorem dX0_compareCells_38 : decode cX0_compareCells 38 = .ok (.aload_n 0, 1) := by decide +kernel
theorem dX0_compareCells_39 : decode cX0_compareCells 39 = .ok (.iload_n 1, 1) := by decide +kernel
theorem dX0_compareCells_40 : decode cX0_compareCells 40 = .ok (.iload_n 3, 1) := by decide +kernel
theorem dX0_compareCells_41 : decode cX0_compareCells 41 = .ok (.invokevirtual 110, 3) := by decide +kernel
theorem dX0_compareCells_44 : decode cX0_compareCells 44 = .ok (.invokestatic 99, 3) := by decide +kernel
theorem dX0_compareCells_47 : decode cX0_compareCells 47 = .ok (.iload_n 2, 1) := by decide +kernel
theorem dX0_compareCells_48 : decode cX0_compareCells 48 = .ok (.aload_n 0, 1) := by decide +kernel
theorem dX0_compareCells_49 : decode cX0_compareCells 49 = .ok (.iload_n 1, 1) := by decide +kernel
theorem dX0_compareCells_50 : decode cX0_compareCells 50 = .ok (.iload 4, 2) := by decide +kernel
theorem dX0_compareCells_52 : decode cX0_compareCells 52 = .ok (.invokevirtual 110, 3) := by decide +kernel
theorem dX0_compareCells_55 : decode cX0_compareCells 55 = .ok (.invokestatic 99, 3) := by decide +kernel
theorem dX0_compareCells_58 : decode cX0_compareCells 58 = .ok (.invokestatic 148, 3) := by decide +kernel
theorem dX0_compareCells_61 : decode cX0_compareCells 61 = .ok (.ireturn, 1) := by decide +kernel
set_option maxRecDepth 20000 in
theorem ggX0_compareValues_J6_compare_7cf53 : GoodIn wsX0_compareValues wsJ6_compare_7cf53 := goodIn_r _ [4] (by decide +kernel) (by decide +kernel)
set_option maxRecDepth 20000 in
theorem gX0_compareValues_J6_compare_7cf53 : GoodIn wsX0_compareValues (va_wsS RX0 154 yJ6_compare_7cf53 wsJ6_compare_7cf53) := goodIn_app (goodIn_of _ (by decide +kernel)) ggX0_compareValues_J6_compare_7cf53
set_option maxRecDepth 20000 in
theorem ggX0_compareValues_X0_heft : GoodIn wsX0_compareValues wsX0_heft := goodIn_r _ [9, 10, 11, 12, 17, 18, 19, 20, 21, 22, 23, 24, 25, 26, 27, 28] (by decide +kernel) (by decide +kernel)
set_option maxRecDepth 20000 in
theorem gX0_compareValues_X0_heft : GoodIn wsX0_compareValues (wsV RX0 158 RX0 yX0_heft wsX0_heft) := goodIn_app (goodIn_of _ (by decide +kernel)) ggX0_compareValues_X0_heft
set_option maxRecDepth 20000 in
theorem ggX0_compareValues_J13_compare_74951 : GoodIn wsX0_compareValues wsJ13_compare_74951 := goodIn_r _ [16] (by decide +kernel) (by decide +kernel)
set_option maxRecDepth 20000 in
theorem gX0_compareValues_J13_compare_74951 : GoodIn wsX0_compareValues (va_wsS RX0 148 yJ13_compare_74951 wsJ13_compare_74951) := goodIn_app (goodIn_of _ (by decide +kernel)) ggX0_compareValues_J13_compare_74951
theorem dX0_compareValues_0 : decode cX0_compareValues 0 = .ok (.iload_n 1, 1) := by decide +kernel
theorem dX0_compareValues_1 : decode cX0_compareValues 1 = .ok (.iload 4, 2) := by decide +kernel
theorem dX0_compareValues_3 : decode cX0_compareValues 3 = .ok (.if_icmp .eq 29, 3) := by decide +kernel
theorem dX0_compareValues_6 : decode cX0_compareValues 6 = .ok (.iload_n 1, 1) := by decide +kernel
theorem dX0_compareValues_7 : decode cX0_compareValues 7 = .ok (.bipush 9, 2) := by decide +kernel
theorem dX0_compareValues_9 : decode cX0_compareValues 9 = .ok (.if_icmp .ne 5, 3) := by decide +kernel
theorem dX0_compareValues_12 : decode cX0_compareValues 12 = .ok (.iconst (-1), 1) := by decide +kernel
theorem dX0_compareValues_13 : decode cX0_compareValues 13 = .ok (.ireturn, 1) := by decide +kernel
theorem dX0_compareValues_14 : decode cX0_compareValues 14 = .ok (.iload 4, 2) := by decide +kernel
theorem dX0_compareValues_16 : decode cX0_compareValues 16 = .ok (.bipush 9, 2) := by decide +kernel
theorem dX0_compareValues_18 : decode cX0_compareValues 18 = .ok (.if_icmp .ne 7, 3) := by decide +kernel
theorem dX0_compareValues_21 : decode cX0_compareValues 21 = .ok (.iconst 1, 1) := by decide +kernel
theorem dX0_compareValues_22 : decode cX0_compareValues 22 = .ok (.goto 9, 3) := by decide +kernel
theorem dX0_compareValues_25 : decode cX0_compareValues 25 = .ok (.iload_n 1, 1) := by decide +kernel
theorem dX0_compareValues_26 : decode cX0_compareValues 26 = .ok (.iload 4, 2) := by decide +kernel
theorem dX0_compareValues_28 : decode cX0_compareValues 28 = .ok (.invokestatic 154, 3) := by decide +kernel
theorem dX0_compareValues_31 : decode cX0_compareValues 31 = .ok (.ireturn, 1) := by decide +kernel
theorem dX0_compareValues_32 : decode cX0_compareValues 32 = .ok (.iload_n 1, 1) := by decide +kernel
theorem dX0_compareValues_33 : decode cX0_compareValues 33 = .ok (.bipush 8, 2) := by decide +kernel
theorem dX0_compareValues_35 : decode cX0_compareValues 35 = .ok (.if_icmp .ne 18, 3) := by decide +kernel
theorem dX0_compareValues_38 : decode cX0_compareValues 38 = .ok (.aload_n 0, 1) := by decide +kernel
theorem dX0_compareValues_39 : decode cX0_compareValues 39 = .ok (.lload_n 2, 1) := by decide +kernel
theorem dX0_compareValues_40 : decode cX0_compareValues 40 = .ok (.invokevirtual 158, 3) := by decide +kernel
theorem dX0_compareValues_43 : decode cX0_compareValues 43 = .ok (.aload_n 0, 1) := by decide +kernel
theorem dX0_compareValues_44 : decode cX0_compareValues 44 = .ok (.lload 5, 2) := by decide +kernel
theorem dX0_compareValues_46 : decode cX0_compareValues 46 = .ok (.invokevirtual 158, 3) := by decide +kernel
theorem dX0_compareValues_49 : decode cX0_compareValues 49 = .ok (.invokestatic 154, 3) := by decide +kernel
theorem dX0_compareValues_52 : decode cX0_compareValues 52 = .ok (.ireturn, 1) := by decide +kernel
theorem dX0_compareValues_53 : decode cX0_compareValues 53 = .ok (.lload_n 2, 1) := by decide +kernel
theorem dX0_compareValues_54 : decode cX0_compareValues 54 = .ok (.lload 5, 2) := by decide +kernel
theorem dX0_compareValues_56 : decode cX0_compareValues 56 = .ok (.invokestatic 148, 3) := by decide +kernel
theorem dX0_compareValues_59 : decode cX0_compareValues 59 = .ok (.ireturn, 1) := by decide +kernel
set_option maxRecDepth 20000 in
theorem ggX0_cellsAgainstHand_X0_sizeOf : GoodIn wsX0_cellsAgainstHand wsX0_sizeOf := goodIn_r _ [5, 6, 50, 51, 52, 53, 54, 55, 56, 57, 58, 59, 60, 61] (by decide +kernel) (by decide +kernel)
set_option maxRecDepth 20000 in
theorem gX0_cellsAgainstHand_X0_sizeOf : GoodIn wsX0_cellsAgainstHand (wsV RX0 76 RX0 yX0_sizeOf wsX0_sizeOf) := goodIn_app (goodIn_of _ (by decide +kernel)) ggX0_cellsAgainstHand_X0_sizeOf
set_option maxRecDepth 20000 in
theorem ggX0_cellsAgainstHand_X0_compareWithHand : GoodIn wsX0_cellsAgainstHand wsX0_compareWithHand := goodIn_r _ [10, 11, 12, 13, 14, 15, 4, 16, 17, 18, 19, 20, 21, 22, 23, 24, 25, 26, 27, 28, 29, 30, 31, 32, 33, 34, 35, 36, 37, 38, 39, 40, 41, 42, 43, 44, 45, 46, 47, 50, 51, 52, 53, 54, 55, 56, 57, 58, 59, 60, 61] (by decide +kernel) (by decide +kernel)
set_option maxRecDepth 20000 in
theorem gX0_cellsAgainstHand_X0_compareWithHand : GoodIn wsX0_cellsAgainstHand (wsV RX0 162 RX0 yX0_compareWithHand wsX0_compareWithHand) := goodIn_app (goodIn_of _ (by decide +kernel)) ggX0_cellsAgainstHand_X0_compareWithHand
set_option maxRecDepth 20000 in
theorem ggX0_cellsAgainstHand_X5_relation : GoodIn wsX0_cellsAgainstHand wsX5_relation := goodIn_r _ [49] (by decide +kernel) (by decide +kernel)
set_option maxRecDepth 20000 in
theorem gX0_cellsAgainstHand_X5_relation_n165 : GoodIn wsX0_cellsAgainstHand (wsX5_relation) := ggX0_cellsAgainstHand_X5_relation
theorem dX0_cellsAgainstHand_0 : decode cX0_cellsAgainstHand 0 = .ok (.iconst 0, 1) := by decide +kernel
theorem dX0_cellsAgainstHand_1 : decode cX0_cellsAgainstHand 1 = .ok (.istore 4, 2) := by decide +kernel
theorem dX0_cellsAgainstHand_3 : decode cX0_cellsAgainstHand 3 = .ok (.iconst 0, 1) := by decide +kernel
theorem dX0_cellsAgainstHand_4 : decode cX0_cellsAgainstHand 4 = .ok (.istore 5, 2) := by decide +kernel
theorem dX0_cellsAgainstHand_6 : decode cX0_cellsAgainstHand 6 = .ok (.iload 5, 2) := by decide +kernel
theorem dX0_cellsAgainstHand_8 : decode cX0_cellsAgainstHand 8 = .ok (.aload_n 0, 1) := by decide +kernel
theorem dX0_cellsAgainstHand_9 : decode cX0_cellsAgainstHand 9 = .ok (.iload_n 1, 1) := by decide +kernel
theorem dX0_cellsAgainstHand_10 : decode cX0_cellsAgainstHand 10 = .ok (.invokevirtual 76, 3) := by decide +kernel
theorem dX0_cellsAgainstHand_13 : decode cX0_cellsAgainstHand 13 = .ok (.if_icmp .ge 27, 3) := by decide +kernel
theorem dX0_cellsAgainstHand_16 : decode cX0_cellsAgainstHand 16 = .ok (.aload_n 0, 1) := by decide +kernel
theorem dX0_cellsAgainstHand_17 : decode cX0_cellsAgainstHand 17 = .ok (.iload_n 1, 1) := by decide +kernel
theorem dX0_cellsAgainstHand_18 : decode cX0_cellsAgainstHand 18 = .ok (.iload 5, 2) := by decide +kernel
theorem dX0_cellsAgainstHand_20 : decode cX0_cellsAgainstHand 20 = .ok (.iload_n 2, 1) := by decide +kernel
theorem dX0_cellsAgainstHand_21 : decode cX0_cellsAgainstHand 21 = .ok (.invokevirtual 162, 3) := by decide +kernel
theorem dX0_cellsAgainstHand_24 : decode cX0_cellsAgainstHand 24 = .ok (.invokestatic 165, 3) := by decide +kernel
theorem dX0_cellsAgainstHand_27 : decode cX0_cellsAgainstHand 27 = .ok (.iload_n 3, 1) := by decide +kernel
theorem dX0_cellsAgainstHand_28 : decode cX0_cellsAgainstHand 28 = .ok (.if_icmp .ne 6, 3) := by decide +kernel
theorem dX0_cellsAgainstHand_31 : decode cX0_cellsAgainstHand 31 = .ok (.iinc 4 1, 3) := by decide +kernel
theorem dX0_cellsAgainstHand_34 : decode cX0_cellsAgainstHand 34 = .ok (.iinc 5 1, 3) := by decide +kernel
theorem dX0_cellsAgainstHand_37 : decode cX0_cellsAgainstHand 37 = .ok (.goto (-31), 3) := by decide +kernel
theorem dX0_cellsAgainstHand_40 : decode cX0_cellsAgainstHand 40 = .ok (.iload 4, 2) := by decide +kernel
theorem dX0_cellsAgainstHand_42 : decode cX0_cellsAgainstHand 42 = .ok (.ireturn, 1) := by decide +kernel
set_option maxRecDepth 20000 in
theorem ggX0_compareWithHand_X0_sortAt : GoodIn wsX0_compareWithHand wsX0_sortAt := goodIn_r _ [7, 8, 9, 10, 6, 11, 39, 40, 41, 42, 43, 44, 45, 46, 47, 48, 49, 50] (by decide +kernel) (by decide +kernel)
set_option maxRecDepth 20000 in
theorem gX0_compareWithHand_X0_sortAt : GoodIn wsX0_compareWithHand (wsV RX0 107 RX0 yX0_sortAt wsX0_sortAt) := goodIn_app (goodIn_of _ (by decide +kernel)) ggX0_compareWithHand_X0_sortAt
set_option maxRecDepth 20000 in
theorem ggX0_compareWithHand_X0_numberAt : GoodIn wsX0_compareWithHand wsX0_numberAt := goodIn_r _ [15, 16, 9, 10, 6, 11, 39, 40, 41, 42, 43, 44, 45, 46, 47, 48, 49, 50] (by decide +kernel) (by decide +kernel)
set_option maxRecDepth 20000 in
theorem gX0_compareWithHand_X0_numberAt : GoodIn wsX0_compareWithHand (wsV RX0 110 RX0 yX0_numberAt wsX0_numberAt) := goodIn_app (goodIn_of _ (by decide +kernel)) ggX0_compareWithHand_X0_numberAt
set_option maxRecDepth 20000 in
theorem ggX0_compareWithHand_X0_compareValues : GoodIn wsX0_compareWithHand wsX0_compareValues := goodIn_r _ [20, 21, 22, 23, 24, 25, 26, 27, 6, 28, 29, 30, 31, 32, 33, 34, 35, 39, 40, 41, 42, 43, 44, 45, 46, 47, 48, 49, 50] (by decide +kernel) (by decide +kernel)
set_option maxRecDepth 20000 in
theorem gX0_compareWithHand_X0_compareValues : GoodIn wsX0_compareWithHand (wsV RX0 144 RX0 yX0_compareValues wsX0_compareValues) := goodIn_app (goodIn_of _ (by decide +kernel)) ggX0_compareWithHand_X0_compareValues
set_option maxRecDepth 20000 in
theorem ggX0_compareWithHand_X5_made : GoodIn wsX0_compareWithHand wsX5_made := goodIn_r _ [38] (by decide +kernel) (by decide +kernel)
set_option maxRecDepth 20000 in
theorem gX0_compareWithHand_X5_made_n99 : GoodIn wsX0_compareWithHand (wsX5_made) := ggX0_compareWithHand_X5_made
set_option maxRecDepth 20000 in
theorem ggX0_compareWithHand_J13_compare_74951 : GoodIn wsX0_compareWithHand wsJ13_compare_74951 := goodIn_r _ [35] (by decide +kernel) (by decide +kernel)
set_option maxRecDepth 20000 in
theorem gX0_compareWithHand_J13_compare_74951 : GoodIn wsX0_compareWithHand (va_wsS RX0 148 yJ13_compare_74951 wsJ13_compare_74951) := goodIn_app (goodIn_of _ (by decide +kernel)) ggX0_compareWithHand_J13_compare_74951
theorem dX0_compareWithHand_0 : decode cX0_compareWithHand 0 = .ok (.iload_n 3, 1) := by decide +kernel
theorem dX0_compareWithHand_1 : decode cX0_compareWithHand 1 = .ok (.bipush 8, 2) := by decide +kernel
theorem dX0_compareWithHand_3 : decode cX0_compareWithHand 3 = .ok (.if_icmp .ne 28, 3) := by decide +kernel
theorem dX0_compareWithHand_6 : decode cX0_compareWithHand 6 = .ok (.aload_n 0, 1) := by decide +kernel
theorem dX0_compareWithHand_7 : decode cX0_compareWithHand 7 = .ok (.aload_n 0, 1) := by decide +kernel
theorem dX0_compareWithHand_8 : decode cX0_compareWithHand 8 = .ok (.iload_n 1, 1) := by decide +kernel
theorem dX0_compareWithHand_9 : decode cX0_compareWithHand 9 = .ok (.iload_n 2, 1) := by decide +kernel
theorem dX0_compareWithHand_10 : decode cX0_compareWithHand 10 = .ok (.invokevirtual 107, 3) := by decide +kernel
theorem dX0_compareWithHand_13 : decode cX0_compareWithHand 13 = .ok (.aload_n 0, 1) := by decide +kernel
theorem dX0_compareWithHand_14 : decode cX0_compareWithHand 14 = .ok (.iload_n 1, 1) := by decide +kernel
theorem dX0_compareWithHand_15 : decode cX0_compareWithHand 15 = .ok (.iload_n 2, 1) := by decide +kernel
theorem dX0_compareWithHand_16 : decode cX0_compareWithHand 16 = .ok (.invokevirtual 110, 3) := by decide +kernel
theorem dX0_compareWithHand_19 : decode cX0_compareWithHand 19 = .ok (.aload_n 0, 1) := by decide +kernel
theorem dX0_compareWithHand_20 : decode cX0_compareWithHand 20 = .ok (.getfield 37, 3) := by decide +kernel
theorem dX0_compareWithHand_23 : decode cX0_compareWithHand 23 = .ok (.aload_n 0, 1) := by decide +kernel
theorem dX0_compareWithHand_24 : decode cX0_compareWithHand 24 = .ok (.getfield 53, 3) := by decide +kernel
theorem dX0_compareWithHand_27 : decode cX0_compareWithHand 27 = .ok (.invokevirtual 144, 3) := by decide +kernel
theorem dX0_compareWithHand_30 : decode cX0_compareWithHand 30 = .ok (.ireturn, 1) := by decide +kernel
theorem dX0_compareWithHand_31 : decode cX0_compareWithHand 31 = .ok (.iload_n 3, 1) := by decide +kernel
theorem dX0_compareWithHand_32 : decode cX0_compareWithHand 32 = .ok (.aload_n 0, 1) := by decide +kernel
theorem dX0_compareWithHand_33 : decode cX0_compareWithHand 33 = .ok (.iload_n 1, 1) := by decide +kernel
theorem dX0_compareWithHand_34 : decode cX0_compareWithHand 34 = .ok (.iload_n 2, 1) := by decide +kernel
theorem dX0_compareWithHand_35 : decode cX0_compareWithHand 35 = .ok (.invokevirtual 110, 3) := by decide +kernel
theorem dX0_compareWithHand_38 : decode cX0_compareWithHand 38 = .ok (.invokestatic 99, 3) := by decide +kernel
theorem dX0_compareWithHand_41 : decode cX0_compareWithHand 41 = .ok (.iload_n 3, 1) := by decide +kernel
theorem dX0_compareWithHand_42 : decode cX0_compareWithHand 42 = .ok (.aload_n 0, 1) := by decide +kernel
theorem dX0_compareWithHand_43 : decode cX0_compareWithHand 43 = .ok (.getfield 53, 3) := by decide +kernel
theorem dX0_compareWithHand_46 : decode cX0_compareWithHand 46 = .ok (.invokestatic 99, 3) := by decide +kernel
theorem dX0_compareWithHand_49 : decode cX0_compareWithHand 49 = .ok (.invokestatic 148, 3) := by decide +kernel
theorem dX0_compareWithHand_52 : decode cX0_compareWithHand 52 = .ok (.ireturn, 1) := by decide +kernel
set_option maxRecDepth 20000 in
theorem ggX0_explanation_X0_explains : GoodIn wsX0_explanation wsX0_explains := goodIn_r _ [5, 6, 7, 8, 4, 9, 10, 11, 12, 13, 14, 15, 16, 17, 18, 19, 20, 21, 22, 23, 24, 25, 26, 27, 28, 29, 30, 31, 32, 33, 34, 35, 36, 37, 38, 39, 40, 41, 42, 43, 44, 45, 46, 47, 48, 49, 50, 51, 52, 53, 54, 55, 56, 57, 58, 59, 60, 61, 62, 63, 64, 65, 66, 67, 68, 69, 70, 71, 72, 73] (by decide +kernel) (by decide +kernel)
set_option maxRecDepth 20000 in
theorem gX0_explanation_X0_explains : GoodIn wsX0_explanation (wsV RX0 168 RX0 yX0_explains wsX0_explains) := goodIn_app (goodIn_of _ (by decide +kernel)) ggX0_explanation_X0_explains
theorem dX0_explanation_0 : decode cX0_explanation 0 = .ok (.iconst 0, 1) := by decide +kernel
theorem dX0_explanation_1 : decode cX0_explanation 1 = .ok (.istore_n 1, 1) := by decide +kernel
theorem dX0_explanation_2 : decode cX0_explanation 2 = .ok (.iload_n 1, 1) := by decide +kernel
theorem dX0_explanation_3 : decode cX0_explanation 3 = .ok (.bipush 6, 2) := by decide +kernel
theorem dX0_explanation_5 : decode cX0_explanation 5 = .ok (.if_icmp .ge 57, 3) := by decide +kernel
theorem dX0_explanation_8 : decode cX0_explanation 8 = .ok (.iconst 0, 1) := by decide +kernel
theorem dX0_explanation_9 : decode cX0_explanation 9 = .ok (.istore_n 2, 1) := by decide +kernel
theorem dX0_explanation_10 : decode cX0_explanation 10 = .ok (.iload_n 2, 1) := by decide +kernel
theorem dX0_explanation_11 : decode cX0_explanation 11 = .ok (.bipush 8, 2) := by decide +kernel
theorem dX0_explanation_13 : decode cX0_explanation 13 = .ok (.if_icmp .gt 43, 3) := by decide +kernel
theorem dX0_explanation_16 : decode cX0_explanation 16 = .ok (.iconst 0, 1) := by decide +kernel
theorem dX0_explanation_17 : decode cX0_explanation 17 = .ok (.istore_n 3, 1) := by decide +kernel
theorem dX0_explanation_18 : decode cX0_explanation 18 = .ok (.iload_n 3, 1) := by decide +kernel
theorem dX0_explanation_19 : decode cX0_explanation 19 = .ok (.iconst 1, 1) := by decide +kernel
theorem dX0_explanation_20 : decode cX0_explanation 20 = .ok (.if_icmp .gt 30, 3) := by decide +kernel
theorem dX0_explanation_23 : decode cX0_explanation 23 = .ok (.aload_n 0, 1) := by decide +kernel
theorem dX0_explanation_24 : decode cX0_explanation 24 = .ok (.iload_n 1, 1) := by decide +kernel
theorem dX0_explanation_25 : decode cX0_explanation 25 = .ok (.iload_n 2, 1) := by decide +kernel
theorem dX0_explanation_26 : decode cX0_explanation 26 = .ok (.iload_n 3, 1) := by decide +kernel
theorem dX0_explanation_27 : decode cX0_explanation 27 = .ok (.invokevirtual 168, 3) := by decide +kernel
theorem dX0_explanation_30 : decode cX0_explanation 30 = .ok (.ifCond .eq 14, 3) := by decide +kernel
theorem dX0_explanation_33 : decode cX0_explanation 33 = .ok (.bipush 18, 2) := by decide +kernel
theorem dX0_explanation_35 : decode cX0_explanation 35 = .ok (.iload_n 1, 1) := by decide +kernel
theorem dX0_explanation_36 : decode cX0_explanation 36 = .ok (.imul, 1) := by decide +kernel
theorem dX0_explanation_37 : decode cX0_explanation 37 = .ok (.iconst 2, 1) := by decide +kernel
theorem dX0_explanation_38 : decode cX0_explanation 38 = .ok (.iload_n 2, 1) := by decide +kernel
theorem dX0_explanation_39 : decode cX0_explanation 39 = .ok (.imul, 1) := by decide +kernel
theorem dX0_explanation_40 : decode cX0_explanation 40 = .ok (.iadd, 1) := by decide +kernel
theorem dX0_explanation_41 : decode cX0_explanation 41 = .ok (.iload_n 3, 1) := by decide +kernel
theorem dX0_explanation_42 : decode cX0_explanation 42 = .ok (.iadd, 1) := by decide +kernel
theorem dX0_explanation_43 : decode cX0_explanation 43 = .ok (.ireturn, 1) := by decide +kernel
theorem dX0_explanation_44 : decode cX0_explanation 44 = .ok (.iinc 3 1, 3) := by decide +kernel
theorem dX0_explanation_47 : decode cX0_explanation 47 = .ok (.goto (-29), 3) := by decide +kernel
theorem dX0_explanation_50 : decode cX0_explanation 50 = .ok (.iinc 2 1, 3) := by decide +kernel
theorem dX0_explanation_53 : decode cX0_explanation 53 = .ok (.goto (-43), 3) := by decide +kernel
theorem dX0_explanation_56 : decode cX0_explanation 56 = .ok (.iinc 1 1, 3) := by decide +kernel
theorem dX0_explanation_59 : decode cX0_explanation 59 = .ok (.goto (-57), 3) := by decide +kernel
theorem dX0_explanation_62 : decode cX0_explanation 62 = .ok (.iconst (-1), 1) := by decide +kernel
theorem dX0_explanation_63 : decode cX0_explanation 63 = .ok (.ireturn, 1) := by decide +kernel
set_option maxRecDepth 20000 in
theorem ggX0_explains_X0_sizeOf : GoodIn wsX0_explains wsX0_sizeOf := goodIn_r _ [5, 6, 58, 59, 60, 61, 62, 63, 64, 65, 66, 67, 68, 69] (by decide +kernel) (by decide +kernel)
set_option maxRecDepth 20000 in
theorem gX0_explains_X0_sizeOf : GoodIn wsX0_explains (wsV RX0 76 RX0 yX0_sizeOf wsX0_sizeOf) := goodIn_app (goodIn_of _ (by decide +kernel)) ggX0_explains_X0_sizeOf
set_option maxRecDepth 20000 in
theorem ggX0_explains_X0_canRead : GoodIn wsX0_explains wsX0_canRead := goodIn_r _ [10, 11, 12, 13, 4, 14, 15, 16, 17, 18, 19, 58, 59, 60, 61, 62, 63, 64, 65, 66, 67, 68, 69] (by decide +kernel) (by decide +kernel)
set_option maxRecDepth 20000 in
theorem gX0_explains_X0_canRead : GoodIn wsX0_explains (wsV RX0 90 RX0 yX0_canRead wsX0_canRead) := goodIn_app (goodIn_of _ (by decide +kernel)) ggX0_explains_X0_canRead
set_option maxRecDepth 20000 in
theorem ggX0_explains_X0_compareCells : GoodIn wsX0_explains wsX0_compareCells := goodIn_r _ [23, 24, 25, 26, 4, 27, 28, 29, 30, 31, 32, 33, 34, 35, 36, 37, 38, 39, 40, 41, 42, 43, 44, 45, 46, 47, 48, 49, 50, 51, 52, 53, 54, 55, 56, 17, 57, 58, 59, 60, 61, 62, 63, 64, 65, 66, 67, 68, 69] (by decide +kernel) (by decide +kernel)
set_option maxRecDepth 20000 in
theorem gX0_explains_X0_compareCells : GoodIn wsX0_explains (wsV RX0 137 RX0 yX0_compareCells wsX0_compareCells) := goodIn_app (goodIn_of _ (by decide +kernel)) ggX0_explains_X0_compareCells
theorem dX0_explains_0 : decode cX0_explains 0 = .ok (.aload_n 0, 1) := by decide +kernel
theorem dX0_explains_1 : decode cX0_explains 1 = .ok (.iload_n 1, 1) := by decide +kernel
theorem dX0_explains_2 : decode cX0_explains 2 = .ok (.invokevirtual 76, 3) := by decide +kernel
theorem dX0_explains_5 : decode cX0_explains 5 = .ok (.iconst 2, 1) := by decide +kernel
theorem dX0_explains_6 : decode cX0_explains 6 = .ok (.if_icmp .lt 12, 3) := by decide +kernel
theorem dX0_explains_9 : decode cX0_explains 9 = .ok (.aload_n 0, 1) := by decide +kernel
theorem dX0_explains_10 : decode cX0_explains 10 = .ok (.iload_n 1, 1) := by decide +kernel
theorem dX0_explains_11 : decode cX0_explains 11 = .ok (.iload_n 2, 1) := by decide +kernel
theorem dX0_explains_12 : decode cX0_explains 12 = .ok (.invokevirtual 90, 3) := by decide +kernel
theorem dX0_explains_15 : decode cX0_explains 15 = .ok (.ifCond .ne 5, 3) := by decide +kernel
theorem dX0_explains_18 : decode cX0_explains 18 = .ok (.iconst 0, 1) := by decide +kernel
theorem dX0_explains_19 : decode cX0_explains 19 = .ok (.ireturn, 1) := by decide +kernel
theorem dX0_explains_20 : decode cX0_explains 20 = .ok (.iconst 1, 1) := by decide +kernel
theorem dX0_explains_21 : decode cX0_explains 21 = .ok (.istore 4, 2) := by decide +kernel
theorem dX0_explains_23 : decode cX0_explains 23 = .ok (.iload 4, 2) := by decide +kernel
theorem dX0_explains_25 : decode cX0_explains 25 = .ok (.aload_n 0, 1) := by decide +kernel
theorem dX0_explains_26 : decode cX0_explains 26 = .ok (.iload_n 1, 1) := by decide +kernel
theorem dX0_explains_27 : decode cX0_explains 27 = .ok (.invokevirtual 76, 3) := by decide +kernel
theorem dX0_explains_30 : decode cX0_explains 30 = .ok (.if_icmp .ge 42, 3) := by decide +kernel
theorem dX0_explains_33 : decode cX0_explains 33 = .ok (.aload_n 0, 1) := by decide +kernel
theorem dX0_explains_34 : decode cX0_explains 34 = .ok (.iload_n 1, 1) := by decide +kernel
theorem dX0_explains_35 : decode cX0_explains 35 = .ok (.iload_n 2, 1) := by decide +kernel
theorem dX0_explains_36 : decode cX0_explains 36 = .ok (.iload 4, 2) := by decide +kernel
theorem dX0_explains_38 : decode cX0_explains 38 = .ok (.iload 4, 2) := by decide +kernel
theorem dX0_explains_40 : decode cX0_explains 40 = .ok (.iconst 1, 1) := by decide +kernel
theorem dX0_explains_41 : decode cX0_explains 41 = .ok (.isub, 1) := by decide +kernel
theorem dX0_explains_42 : decode cX0_explains 42 = .ok (.invokevirtual 137, 3) := by decide +kernel
theorem dX0_explains_45 : decode cX0_explains 45 = .ok (.istore 5, 2) := by decide +kernel
theorem dX0_explains_47 : decode cX0_explains 47 = .ok (.iload_n 3, 1) := by decide +kernel
theorem dX0_explains_48 : decode cX0_explains 48 = .ok (.ifCond .ne 11, 3) := by decide +kernel
theorem dX0_explains_51 : decode cX0_explains 51 = .ok (.iload 5, 2) := by decide +kernel
theorem dX0_explains_53 : decode cX0_explains 53 = .ok (.ifCond .ge 13, 3) := by decide +kernel
theorem dX0_explains_56 : decode cX0_explains 56 = .ok (.goto 8, 3) := by decide +kernel
theorem dX0_explains_59 : decode cX0_explains 59 = .ok (.iload 5, 2) := by decide +kernel
theorem dX0_explains_61 : decode cX0_explains 61 = .ok (.ifCond .le 5, 3) := by decide +kernel
theorem dX0_explains_64 : decode cX0_explains 64 = .ok (.iconst 0, 1) := by decide +kernel
theorem dX0_explains_65 : decode cX0_explains 65 = .ok (.ireturn, 1) := by decide +kernel
theorem dX0_explains_66 : decode cX0_explains 66 = .ok (.iinc 4 1, 3) := by decide +kernel
theorem dX0_explains_69 : decode cX0_explains 69 = .ok (.goto (-46), 3) := by decide +kernel
theorem dX0_explains_72 : decode cX0_explains 72 = .ok (.iconst 1, 1) := by decide +kernel
theorem dX0_explains_73 : decode cX0_explains 73 = .ok (.ireturn, 1) := by decide +kernel
