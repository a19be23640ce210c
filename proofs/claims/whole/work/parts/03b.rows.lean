theorem dX1_init_0 : decode cX1_init 0 = .ok (.aload_n 0, 1) := by decide +kernel
theorem dX1_init_1 : decode cX1_init 1 = .ok (.invokespecial 3, 3) := by decide +kernel
theorem dX1_init_4 : decode cX1_init 4 = .ok (.aload_n 0, 1) := by decide +kernel
theorem dX1_init_5 : decode cX1_init 5 = .ok (.bipush 20, 2) := by decide +kernel
theorem dX1_init_7 : decode cX1_init 7 = .ok (.newarray .int, 2) := by decide +kernel
theorem dX1_init_9 : decode cX1_init 9 = .ok (.putfield 9, 3) := by decide +kernel
theorem dX1_init_12 : decode cX1_init 12 = .ok (.aload_n 0, 1) := by decide +kernel
theorem dX1_init_13 : decode cX1_init 13 = .ok (.bipush 20, 2) := by decide +kernel
theorem dX1_init_15 : decode cX1_init 15 = .ok (.newarray .int, 2) := by decide +kernel
theorem dX1_init_17 : decode cX1_init 17 = .ok (.putfield 15, 3) := by decide +kernel
theorem dX1_init_20 : decode cX1_init 20 = .ok (.return_, 1) := by decide +kernel
theorem dX1_add_0 : decode cX1_add 0 = .ok (.aload_n 0, 1) := by decide +kernel
theorem dX1_add_1 : decode cX1_add 1 = .ok (.getfield 18, 3) := by decide +kernel
theorem dX1_add_4 : decode cX1_add 4 = .ok (.ifCond .lt 42, 3) := by decide +kernel
theorem dX1_add_7 : decode cX1_add 7 = .ok (.aload_n 0, 1) := by decide +kernel
theorem dX1_add_8 : decode cX1_add 8 = .ok (.getfield 18, 3) := by decide +kernel
theorem dX1_add_11 : decode cX1_add 11 = .ok (.bipush 20, 2) := by decide +kernel
theorem dX1_add_13 : decode cX1_add 13 = .ok (.if_icmp .ge 33, 3) := by decide +kernel
theorem dX1_add_16 : decode cX1_add 16 = .ok (.aload_n 0, 1) := by decide +kernel
theorem dX1_add_17 : decode cX1_add 17 = .ok (.getfield 9, 3) := by decide +kernel
theorem dX1_add_20 : decode cX1_add 20 = .ok (.aload_n 0, 1) := by decide +kernel
theorem dX1_add_21 : decode cX1_add 21 = .ok (.getfield 18, 3) := by decide +kernel
theorem dX1_add_24 : decode cX1_add 24 = .ok (.iload_n 1, 1) := by decide +kernel
theorem dX1_add_25 : decode cX1_add 25 = .ok (.iastore, 1) := by decide +kernel
theorem dX1_add_26 : decode cX1_add 26 = .ok (.aload_n 0, 1) := by decide +kernel
theorem dX1_add_27 : decode cX1_add 27 = .ok (.getfield 15, 3) := by decide +kernel
theorem dX1_add_30 : decode cX1_add 30 = .ok (.aload_n 0, 1) := by decide +kernel
theorem dX1_add_31 : decode cX1_add 31 = .ok (.getfield 18, 3) := by decide +kernel
theorem dX1_add_34 : decode cX1_add 34 = .ok (.iload_n 2, 1) := by decide +kernel
theorem dX1_add_35 : decode cX1_add 35 = .ok (.iastore, 1) := by decide +kernel
theorem dX1_add_36 : decode cX1_add 36 = .ok (.aload_n 0, 1) := by decide +kernel
theorem dX1_add_37 : decode cX1_add 37 = .ok (.dup, 1) := by decide +kernel
theorem dX1_add_38 : decode cX1_add 38 = .ok (.getfield 18, 3) := by decide +kernel
theorem dX1_add_41 : decode cX1_add 41 = .ok (.iconst 1, 1) := by decide +kernel
theorem dX1_add_42 : decode cX1_add 42 = .ok (.iadd, 1) := by decide +kernel
theorem dX1_add_43 : decode cX1_add 43 = .ok (.putfield 18, 3) := by decide +kernel
theorem dX1_add_46 : decode cX1_add 46 = .ok (.return_, 1) := by decide +kernel
set_option maxRecDepth 20000 in
theorem ggX1_firstWrong_X4_isPlace : GoodIn wsX1_firstWrong wsX4_isPlace := goodIn_r _ [8, 9, 19, 20, 21, 22, 23] (by decide +kernel) (by decide +kernel)
set_option maxRecDepth 20000 in
theorem gX1_firstWrong_X4_isPlace : GoodIn wsX1_firstWrong (wsV RX1 22 RX4 yX4_isPlace wsX4_isPlace) := goodIn_app (goodIn_of _ (by decide +kernel)) ggX1_firstWrong_X4_isPlace
set_option maxRecDepth 20000 in
theorem ggX1_firstWrong_X4_positionOf : GoodIn wsX1_firstWrong wsX4_positionOf := goodIn_r _ [13, 14, 15, 5, 6, 7, 8, 9, 19, 20, 21, 22, 23] (by decide +kernel) (by decide +kernel)
set_option maxRecDepth 20000 in
theorem gX1_firstWrong_X4_positionOf : GoodIn wsX1_firstWrong (wsV RX1 28 RX4 yX4_positionOf wsX4_positionOf) := goodIn_app (goodIn_of _ (by decide +kernel)) ggX1_firstWrong_X4_positionOf
theorem dX1_firstWrong_0 : decode cX1_firstWrong 0 = .ok (.iconst 0, 1) := by decide +kernel
theorem dX1_firstWrong_1 : decode cX1_firstWrong 1 = .ok (.istore_n 2, 1) := by decide +kernel
theorem dX1_firstWrong_2 : decode cX1_firstWrong 2 = .ok (.iload_n 2, 1) := by decide +kernel
theorem dX1_firstWrong_3 : decode cX1_firstWrong 3 = .ok (.aload_n 0, 1) := by decide +kernel
theorem dX1_firstWrong_4 : decode cX1_firstWrong 4 = .ok (.getfield 18, 3) := by decide +kernel
theorem dX1_firstWrong_7 : decode cX1_firstWrong 7 = .ok (.if_icmp .ge 49, 3) := by decide +kernel
theorem dX1_firstWrong_10 : decode cX1_firstWrong 10 = .ok (.iload_n 2, 1) := by decide +kernel
theorem dX1_firstWrong_11 : decode cX1_firstWrong 11 = .ok (.bipush 20, 2) := by decide +kernel
theorem dX1_firstWrong_13 : decode cX1_firstWrong 13 = .ok (.if_icmp .ge 43, 3) := by decide +kernel
theorem dX1_firstWrong_16 : decode cX1_firstWrong 16 = .ok (.aload_n 1, 1) := by decide +kernel
theorem dX1_firstWrong_17 : decode cX1_firstWrong 17 = .ok (.aload_n 0, 1) := by decide +kernel
theorem dX1_firstWrong_18 : decode cX1_firstWrong 18 = .ok (.getfield 9, 3) := by decide +kernel
theorem dX1_firstWrong_21 : decode cX1_firstWrong 21 = .ok (.iload_n 2, 1) := by decide +kernel
theorem dX1_firstWrong_22 : decode cX1_firstWrong 22 = .ok (.iaload, 1) := by decide +kernel
theorem dX1_firstWrong_23 : decode cX1_firstWrong 23 = .ok (.invokevirtual 22, 3) := by decide +kernel
theorem dX1_firstWrong_26 : decode cX1_firstWrong 26 = .ok (.ifCond .eq 22, 3) := by decide +kernel
theorem dX1_firstWrong_29 : decode cX1_firstWrong 29 = .ok (.aload_n 1, 1) := by decide +kernel
theorem dX1_firstWrong_30 : decode cX1_firstWrong 30 = .ok (.aload_n 0, 1) := by decide +kernel
theorem dX1_firstWrong_31 : decode cX1_firstWrong 31 = .ok (.getfield 9, 3) := by decide +kernel
theorem dX1_firstWrong_34 : decode cX1_firstWrong 34 = .ok (.iload_n 2, 1) := by decide +kernel
theorem dX1_firstWrong_35 : decode cX1_firstWrong 35 = .ok (.iaload, 1) := by decide +kernel
theorem dX1_firstWrong_36 : decode cX1_firstWrong 36 = .ok (.invokevirtual 28, 3) := by decide +kernel
theorem dX1_firstWrong_39 : decode cX1_firstWrong 39 = .ok (.aload_n 0, 1) := by decide +kernel
theorem dX1_firstWrong_40 : decode cX1_firstWrong 40 = .ok (.getfield 15, 3) := by decide +kernel
theorem dX1_firstWrong_43 : decode cX1_firstWrong 43 = .ok (.iload_n 2, 1) := by decide +kernel
theorem dX1_firstWrong_44 : decode cX1_firstWrong 44 = .ok (.iaload, 1) := by decide +kernel
theorem dX1_firstWrong_45 : decode cX1_firstWrong 45 = .ok (.if_icmp .eq 5, 3) := by decide +kernel
theorem dX1_firstWrong_48 : decode cX1_firstWrong 48 = .ok (.iload_n 2, 1) := by decide +kernel
theorem dX1_firstWrong_49 : decode cX1_firstWrong 49 = .ok (.ireturn, 1) := by decide +kernel
theorem dX1_firstWrong_50 : decode cX1_firstWrong 50 = .ok (.iinc 2 1, 3) := by decide +kernel
theorem dX1_firstWrong_53 : decode cX1_firstWrong 53 = .ok (.goto (-51), 3) := by decide +kernel
theorem dX1_firstWrong_56 : decode cX1_firstWrong 56 = .ok (.iconst (-1), 1) := by decide +kernel
theorem dX1_firstWrong_57 : decode cX1_firstWrong 57 = .ok (.ireturn, 1) := by decide +kernel
theorem dX2_init_0 : decode cX2_init 0 = .ok (.aload_n 0, 1) := by decide +kernel
theorem dX2_init_1 : decode cX2_init 1 = .ok (.invokespecial 3, 3) := by decide +kernel
theorem dX2_init_4 : decode cX2_init 4 = .ok (.aload_n 0, 1) := by decide +kernel
theorem dX2_init_5 : decode cX2_init 5 = .ok (.bipush 16, 2) := by decide +kernel
theorem dX2_init_7 : decode cX2_init 7 = .ok (.anewarray 9, 3) := by decide +kernel
theorem dX2_init_10 : decode cX2_init 10 = .ok (.putfield 11, 3) := by decide +kernel
theorem dX2_init_13 : decode cX2_init 13 = .ok (.return_, 1) := by decide +kernel
set_option maxRecDepth 20000 in
theorem ggX2_remember_J9_floorMod_7cf53 : GoodIn wsX2_remember wsJ9_floorMod_7cf53 := goodIn_r _ [14] (by decide +kernel) (by decide +kernel)
set_option maxRecDepth 20000 in
theorem gX2_remember_J9_floorMod_7cf53 : GoodIn wsX2_remember (va_wsS RX2 21 yJ9_floorMod_7cf53 wsJ9_floorMod_7cf53) := goodIn_app (goodIn_of _ (by decide +kernel)) ggX2_remember_J9_floorMod_7cf53
set_option maxRecDepth 20000 in
theorem ggX2_remember_X0_init : GoodIn wsX2_remember wsX0_init := goodIn_r _ [17, 18, 19, 20, 21, 22, 23, 24, 25, 26, 27, 28, 29, 30, 31, 46, 47, 48, 49, 50, 51, 52, 53, 54, 55, 56, 57] (by decide +kernel) (by decide +kernel)
set_option maxRecDepth 20000 in
theorem gX2_remember_X0_init : GoodIn wsX2_remember (wsX0_init) := ggX2_remember_X0_init
set_option maxRecDepth 20000 in
theorem ggX2_remember_X0_copyFrom : GoodIn wsX2_remember wsX0_copyFrom := goodIn_r _ [35, 22, 36, 37, 38, 39, 23, 24, 26, 27, 28, 29, 30, 40, 41, 31, 42, 46, 47, 48, 49, 50, 51, 52, 53, 54, 55, 56, 57] (by decide +kernel) (by decide +kernel)
set_option maxRecDepth 20000 in
theorem gX2_remember_X0_copyFrom : GoodIn wsX2_remember (wsV RX2 28 RX0 yX0_copyFrom wsX0_copyFrom) := goodIn_app (goodIn_of _ (by decide +kernel)) ggX2_remember_X0_copyFrom
theorem dX2_remember_0 : decode cX2_remember 0 = .ok (.aload_n 0, 1) := by decide +kernel
theorem dX2_remember_1 : decode cX2_remember 1 = .ok (.getfield 17, 3) := by decide +kernel
theorem dX2_remember_4 : decode cX2_remember 4 = .ok (.bipush 16, 2) := by decide +kernel
theorem dX2_remember_6 : decode cX2_remember 6 = .ok (.invokestatic 21, 3) := by decide +kernel
theorem dX2_remember_9 : decode cX2_remember 9 = .ok (.istore_n 2, 1) := by decide +kernel
theorem dX2_remember_10 : decode cX2_remember 10 = .ok (.aload_n 0, 1) := by decide +kernel
theorem dX2_remember_11 : decode cX2_remember 11 = .ok (.getfield 11, 3) := by decide +kernel
theorem dX2_remember_14 : decode cX2_remember 14 = .ok (.iload_n 2, 1) := by decide +kernel
theorem dX2_remember_15 : decode cX2_remember 15 = .ok (.aaload, 1) := by decide +kernel
theorem dX2_remember_16 : decode cX2_remember 16 = .ok (.astore_n 3, 1) := by decide +kernel
theorem dX2_remember_17 : decode cX2_remember 17 = .ok (.aload_n 3, 1) := by decide +kernel
theorem dX2_remember_18 : decode cX2_remember 18 = .ok (.ifnonnull 18, 3) := by decide +kernel
theorem dX2_remember_21 : decode cX2_remember 21 = .ok (.new 9, 3) := by decide +kernel
theorem dX2_remember_24 : decode cX2_remember 24 = .ok (.dup, 1) := by decide +kernel
theorem dX2_remember_25 : decode cX2_remember 25 = .ok (.invokespecial 27, 3) := by decide +kernel
theorem dX2_remember_28 : decode cX2_remember 28 = .ok (.astore_n 3, 1) := by decide +kernel
theorem dX2_remember_29 : decode cX2_remember 29 = .ok (.aload_n 0, 1) := by decide +kernel
theorem dX2_remember_30 : decode cX2_remember 30 = .ok (.getfield 11, 3) := by decide +kernel
theorem dX2_remember_33 : decode cX2_remember 33 = .ok (.iload_n 2, 1) := by decide +kernel
theorem dX2_remember_34 : decode cX2_remember 34 = .ok (.aload_n 3, 1) := by decide +kernel
theorem dX2_remember_35 : decode cX2_remember 35 = .ok (.aastore, 1) := by decide +kernel
theorem dX2_remember_36 : decode cX2_remember 36 = .ok (.aload_n 3, 1) := by decide +kernel
theorem dX2_remember_37 : decode cX2_remember 37 = .ok (.aload_n 1, 1) := by decide +kernel
theorem dX2_remember_38 : decode cX2_remember 38 = .ok (.invokevirtual 28, 3) := by decide +kernel
theorem dX2_remember_41 : decode cX2_remember 41 = .ok (.aload_n 0, 1) := by decide +kernel
theorem dX2_remember_42 : decode cX2_remember 42 = .ok (.iload_n 2, 1) := by decide +kernel
theorem dX2_remember_43 : decode cX2_remember 43 = .ok (.iconst 1, 1) := by decide +kernel
theorem dX2_remember_44 : decode cX2_remember 44 = .ok (.iadd, 1) := by decide +kernel
theorem dX2_remember_45 : decode cX2_remember 45 = .ok (.putfield 17, 3) := by decide +kernel
theorem dX2_remember_48 : decode cX2_remember 48 = .ok (.aload_n 0, 1) := by decide +kernel
theorem dX2_remember_49 : decode cX2_remember 49 = .ok (.aload_n 0, 1) := by decide +kernel
theorem dX2_remember_50 : decode cX2_remember 50 = .ok (.getfield 32, 3) := by decide +kernel
theorem dX2_remember_53 : decode cX2_remember 53 = .ok (.iconst 1, 1) := by decide +kernel
theorem dX2_remember_54 : decode cX2_remember 54 = .ok (.iadd, 1) := by decide +kernel
theorem dX2_remember_55 : decode cX2_remember 55 = .ok (.bipush 16, 2) := by decide +kernel
theorem dX2_remember_57 : decode cX2_remember 57 = .ok (.invokestatic 35, 3) := by decide +kernel
theorem dX2_remember_60 : decode cX2_remember 60 = .ok (.putfield 32, 3) := by decide +kernel
theorem dX2_remember_63 : decode cX2_remember 63 = .ok (.return_, 1) := by decide +kernel
set_option maxRecDepth 20000 in
theorem ggX2_takeBack_J9_floorMod_7cf53 : GoodIn wsX2_takeBack wsJ9_floorMod_7cf53 := goodIn_r _ [7] (by decide +kernel) (by decide +kernel)
set_option maxRecDepth 20000 in
theorem gX2_takeBack_J9_floorMod_7cf53 : GoodIn wsX2_takeBack (va_wsS RX2 21 yJ9_floorMod_7cf53 wsJ9_floorMod_7cf53) := goodIn_app (goodIn_of _ (by decide +kernel)) ggX2_takeBack_J9_floorMod_7cf53
set_option maxRecDepth 20000 in
theorem ggX2_takeBack_X0_copyFrom : GoodIn wsX2_takeBack wsX0_copyFrom := goodIn_r _ [12, 13, 14, 15, 16, 17, 18, 19, 20, 21, 22, 23, 24, 25, 26, 27, 28, 32, 33, 34, 35, 36, 37, 38, 39, 40, 41, 42, 43] (by decide +kernel) (by decide +kernel)
set_option maxRecDepth 20000 in
theorem gX2_takeBack_X0_copyFrom : GoodIn wsX2_takeBack (wsV RX2 28 RX0 yX0_copyFrom wsX0_copyFrom) := goodIn_app (goodIn_of _ (by decide +kernel)) ggX2_takeBack_X0_copyFrom
theorem dX2_takeBack_0 : decode cX2_takeBack 0 = .ok (.aload_n 0, 1) := by decide +kernel
theorem dX2_takeBack_1 : decode cX2_takeBack 1 = .ok (.getfield 17, 3) := by decide +kernel
theorem dX2_takeBack_4 : decode cX2_takeBack 4 = .ok (.iload_n 1, 1) := by decide +kernel
theorem dX2_takeBack_5 : decode cX2_takeBack 5 = .ok (.isub, 1) := by decide +kernel
theorem dX2_takeBack_6 : decode cX2_takeBack 6 = .ok (.bipush 16, 2) := by decide +kernel
theorem dX2_takeBack_8 : decode cX2_takeBack 8 = .ok (.invokestatic 21, 3) := by decide +kernel
theorem dX2_takeBack_11 : decode cX2_takeBack 11 = .ok (.istore_n 3, 1) := by decide +kernel
theorem dX2_takeBack_12 : decode cX2_takeBack 12 = .ok (.aload_n 0, 1) := by decide +kernel
theorem dX2_takeBack_13 : decode cX2_takeBack 13 = .ok (.getfield 11, 3) := by decide +kernel
theorem dX2_takeBack_16 : decode cX2_takeBack 16 = .ok (.iload_n 3, 1) := by decide +kernel
theorem dX2_takeBack_17 : decode cX2_takeBack 17 = .ok (.aaload, 1) := by decide +kernel
theorem dX2_takeBack_18 : decode cX2_takeBack 18 = .ok (.astore 4, 2) := by decide +kernel
theorem dX2_takeBack_20 : decode cX2_takeBack 20 = .ok (.aload 4, 2) := by decide +kernel
theorem dX2_takeBack_22 : decode cX2_takeBack 22 = .ok (.ifnull 32, 3) := by decide +kernel
theorem dX2_takeBack_25 : decode cX2_takeBack 25 = .ok (.iload_n 1, 1) := by decide +kernel
theorem dX2_takeBack_26 : decode cX2_takeBack 26 = .ok (.aload_n 0, 1) := by decide +kernel
theorem dX2_takeBack_27 : decode cX2_takeBack 27 = .ok (.getfield 32, 3) := by decide +kernel
theorem dX2_takeBack_30 : decode cX2_takeBack 30 = .ok (.if_icmp .gt 24, 3) := by decide +kernel
theorem dX2_takeBack_33 : decode cX2_takeBack 33 = .ok (.aload_n 2, 1) := by decide +kernel
theorem dX2_takeBack_34 : decode cX2_takeBack 34 = .ok (.aload 4, 2) := by decide +kernel
theorem dX2_takeBack_36 : decode cX2_takeBack 36 = .ok (.invokevirtual 28, 3) := by decide +kernel
theorem dX2_takeBack_39 : decode cX2_takeBack 39 = .ok (.aload_n 0, 1) := by decide +kernel
theorem dX2_takeBack_40 : decode cX2_takeBack 40 = .ok (.iload_n 3, 1) := by decide +kernel
theorem dX2_takeBack_41 : decode cX2_takeBack 41 = .ok (.putfield 17, 3) := by decide +kernel
theorem dX2_takeBack_44 : decode cX2_takeBack 44 = .ok (.aload_n 0, 1) := by decide +kernel
theorem dX2_takeBack_45 : decode cX2_takeBack 45 = .ok (.dup, 1) := by decide +kernel
theorem dX2_takeBack_46 : decode cX2_takeBack 46 = .ok (.getfield 32, 3) := by decide +kernel
theorem dX2_takeBack_49 : decode cX2_takeBack 49 = .ok (.iload_n 1, 1) := by decide +kernel
theorem dX2_takeBack_50 : decode cX2_takeBack 50 = .ok (.isub, 1) := by decide +kernel
theorem dX2_takeBack_51 : decode cX2_takeBack 51 = .ok (.putfield 32, 3) := by decide +kernel
theorem dX2_takeBack_54 : decode cX2_takeBack 54 = .ok (.return_, 1) := by decide +kernel
theorem dX3_init_0 : decode cX3_init 0 = .ok (.aload_n 0, 1) := by decide +kernel
theorem dX3_init_1 : decode cX3_init 1 = .ok (.invokespecial 3, 3) := by decide +kernel
theorem dX3_init_4 : decode cX3_init 4 = .ok (.aload_n 0, 1) := by decide +kernel
theorem dX3_init_5 : decode cX3_init 5 = .ok (.bipush 12, 2) := by decide +kernel
theorem dX3_init_7 : decode cX3_init 7 = .ok (.newarray .int, 2) := by decide +kernel
theorem dX3_init_9 : decode cX3_init 9 = .ok (.putfield 9, 3) := by decide +kernel
theorem dX3_init_12 : decode cX3_init 12 = .ok (.aload_n 0, 1) := by decide +kernel
theorem dX3_init_13 : decode cX3_init 13 = .ok (.bipush 12, 2) := by decide +kernel
theorem dX3_init_15 : decode cX3_init 15 = .ok (.newarray .int, 2) := by decide +kernel
theorem dX3_init_17 : decode cX3_init 17 = .ok (.putfield 15, 3) := by decide +kernel
theorem dX3_init_20 : decode cX3_init 20 = .ok (.aload_n 0, 1) := by decide +kernel
theorem dX3_init_21 : decode cX3_init 21 = .ok (.bipush 12, 2) := by decide +kernel
theorem dX3_init_23 : decode cX3_init 23 = .ok (.newarray .long, 2) := by decide +kernel
theorem dX3_init_25 : decode cX3_init 25 = .ok (.putfield 18, 3) := by decide +kernel
theorem dX3_init_28 : decode cX3_init 28 = .ok (.return_, 1) := by decide +kernel
theorem dX3_clear_0 : decode cX3_clear 0 = .ok (.aload_n 0, 1) := by decide +kernel
theorem dX3_clear_1 : decode cX3_clear 1 = .ok (.iconst 0, 1) := by decide +kernel
theorem dX3_clear_2 : decode cX3_clear 2 = .ok (.putfield 22, 3) := by decide +kernel
theorem dX3_clear_5 : decode cX3_clear 5 = .ok (.return_, 1) := by decide +kernel
theorem dX3_add_0 : decode cX3_add 0 = .ok (.aload_n 0, 1) := by decide +kernel
theorem dX3_add_1 : decode cX3_add 1 = .ok (.getfield 22, 3) := by decide +kernel
theorem dX3_add_4 : decode cX3_add 4 = .ok (.ifCond .lt 42, 3) := by decide +kernel
theorem dX3_add_7 : decode cX3_add 7 = .ok (.aload_n 0, 1) := by decide +kernel
theorem dX3_add_8 : decode cX3_add 8 = .ok (.getfield 22, 3) := by decide +kernel
theorem dX3_add_11 : decode cX3_add 11 = .ok (.bipush 12, 2) := by decide +kernel
theorem dX3_add_13 : decode cX3_add 13 = .ok (.if_icmp .ge 33, 3) := by decide +kernel
theorem dX3_add_16 : decode cX3_add 16 = .ok (.iload_n 1, 1) := by decide +kernel
theorem dX3_add_17 : decode cX3_add 17 = .ok (.ifCond .lt 29, 3) := by decide +kernel
theorem dX3_add_20 : decode cX3_add 20 = .ok (.iload_n 1, 1) := by decide +kernel
theorem dX3_add_21 : decode cX3_add 21 = .ok (.bipush 12, 2) := by decide +kernel
theorem dX3_add_23 : decode cX3_add 23 = .ok (.if_icmp .ge 23, 3) := by decide +kernel
theorem dX3_add_26 : decode cX3_add 26 = .ok (.aload_n 0, 1) := by decide +kernel
theorem dX3_add_27 : decode cX3_add 27 = .ok (.getfield 9, 3) := by decide +kernel
theorem dX3_add_30 : decode cX3_add 30 = .ok (.aload_n 0, 1) := by decide +kernel
theorem dX3_add_31 : decode cX3_add 31 = .ok (.getfield 22, 3) := by decide +kernel
theorem dX3_add_34 : decode cX3_add 34 = .ok (.iload_n 1, 1) := by decide +kernel
theorem dX3_add_35 : decode cX3_add 35 = .ok (.iastore, 1) := by decide +kernel
theorem dX3_add_36 : decode cX3_add 36 = .ok (.aload_n 0, 1) := by decide +kernel
theorem dX3_add_37 : decode cX3_add 37 = .ok (.dup, 1) := by decide +kernel
theorem dX3_add_38 : decode cX3_add 38 = .ok (.getfield 22, 3) := by decide +kernel
theorem dX3_add_41 : decode cX3_add 41 = .ok (.iconst 1, 1) := by decide +kernel
theorem dX3_add_42 : decode cX3_add 42 = .ok (.iadd, 1) := by decide +kernel
theorem dX3_add_43 : decode cX3_add 43 = .ok (.putfield 22, 3) := by decide +kernel
theorem dX3_add_46 : decode cX3_add 46 = .ok (.return_, 1) := by decide +kernel
theorem dX3_countMoved_0 : decode cX3_countMoved 0 = .ok (.iconst 0, 1) := by decide +kernel
theorem dX3_countMoved_1 : decode cX3_countMoved 1 = .ok (.istore_n 1, 1) := by decide +kernel
theorem dX3_countMoved_2 : decode cX3_countMoved 2 = .ok (.iconst 0, 1) := by decide +kernel
theorem dX3_countMoved_3 : decode cX3_countMoved 3 = .ok (.istore_n 2, 1) := by decide +kernel
theorem dX3_countMoved_4 : decode cX3_countMoved 4 = .ok (.iload_n 2, 1) := by decide +kernel
theorem dX3_countMoved_5 : decode cX3_countMoved 5 = .ok (.aload_n 0, 1) := by decide +kernel
theorem dX3_countMoved_6 : decode cX3_countMoved 6 = .ok (.getfield 22, 3) := by decide +kernel
theorem dX3_countMoved_9 : decode cX3_countMoved 9 = .ok (.if_icmp .ge 28, 3) := by decide +kernel
theorem dX3_countMoved_12 : decode cX3_countMoved 12 = .ok (.iload_n 2, 1) := by decide +kernel
theorem dX3_countMoved_13 : decode cX3_countMoved 13 = .ok (.bipush 12, 2) := by decide +kernel
theorem dX3_countMoved_15 : decode cX3_countMoved 15 = .ok (.if_icmp .ge 22, 3) := by decide +kernel
theorem dX3_countMoved_18 : decode cX3_countMoved 18 = .ok (.aload_n 0, 1) := by decide +kernel
theorem dX3_countMoved_19 : decode cX3_countMoved 19 = .ok (.getfield 9, 3) := by decide +kernel
theorem dX3_countMoved_22 : decode cX3_countMoved 22 = .ok (.iload_n 2, 1) := by decide +kernel
theorem dX3_countMoved_23 : decode cX3_countMoved 23 = .ok (.iaload, 1) := by decide +kernel
theorem dX3_countMoved_24 : decode cX3_countMoved 24 = .ok (.iload_n 2, 1) := by decide +kernel
theorem dX3_countMoved_25 : decode cX3_countMoved 25 = .ok (.if_icmp .eq 6, 3) := by decide +kernel
theorem dX3_countMoved_28 : decode cX3_countMoved 28 = .ok (.iinc 1 1, 3) := by decide +kernel
theorem dX3_countMoved_31 : decode cX3_countMoved 31 = .ok (.iinc 2 1, 3) := by decide +kernel
theorem dX3_countMoved_34 : decode cX3_countMoved 34 = .ok (.goto (-30), 3) := by decide +kernel
theorem dX3_countMoved_37 : decode cX3_countMoved 37 = .ok (.iload_n 1, 1) := by decide +kernel
theorem dX3_countMoved_38 : decode cX3_countMoved 38 = .ok (.ireturn, 1) := by decide +kernel
set_option maxRecDepth 20000 in
theorem ggX3_applyTo_X3_applyToSlot : GoodIn wsX3_applyTo wsX3_applyToSlot := goodIn_r _ [5, 6, 7, 8, 9, 10, 11, 12, 13, 14, 15, 16, 17, 18, 19, 20, 21, 22, 23, 24, 25, 26, 27, 40, 41, 42, 43, 28, 29, 30, 31, 32, 33, 34, 35, 36, 37, 38, 39] (by decide +kernel) (by decide +kernel)
set_option maxRecDepth 20000 in
theorem gX3_applyTo_X3_applyToSlot : GoodIn wsX3_applyTo (wsV RX3 31 RX3 yX3_applyToSlot wsX3_applyToSlot) := goodIn_app (goodIn_of _ (by decide +kernel)) ggX3_applyTo_X3_applyToSlot
theorem dX3_applyTo_0 : decode cX3_applyTo 0 = .ok (.iconst 0, 1) := by decide +kernel
theorem dX3_applyTo_1 : decode cX3_applyTo 1 = .ok (.istore_n 2, 1) := by decide +kernel
theorem dX3_applyTo_2 : decode cX3_applyTo 2 = .ok (.iload_n 2, 1) := by decide +kernel
theorem dX3_applyTo_3 : decode cX3_applyTo 3 = .ok (.bipush 6, 2) := by decide +kernel
theorem dX3_applyTo_5 : decode cX3_applyTo 5 = .ok (.if_icmp .ge 27, 3) := by decide +kernel
theorem dX3_applyTo_8 : decode cX3_applyTo 8 = .ok (.aload_n 1, 1) := by decide +kernel
theorem dX3_applyTo_9 : decode cX3_applyTo 9 = .ok (.getfield 26, 3) := by decide +kernel
theorem dX3_applyTo_12 : decode cX3_applyTo 12 = .ok (.iload_n 2, 1) := by decide +kernel
theorem dX3_applyTo_13 : decode cX3_applyTo 13 = .ok (.ishr, 1) := by decide +kernel
theorem dX3_applyTo_14 : decode cX3_applyTo 14 = .ok (.iconst 1, 1) := by decide +kernel
theorem dX3_applyTo_15 : decode cX3_applyTo 15 = .ok (.iand, 1) := by decide +kernel
theorem dX3_applyTo_16 : decode cX3_applyTo 16 = .ok (.iconst 1, 1) := by decide +kernel
theorem dX3_applyTo_17 : decode cX3_applyTo 17 = .ok (.if_icmp .ne 9, 3) := by decide +kernel
theorem dX3_applyTo_20 : decode cX3_applyTo 20 = .ok (.aload_n 0, 1) := by decide +kernel
theorem dX3_applyTo_21 : decode cX3_applyTo 21 = .ok (.aload_n 1, 1) := by decide +kernel
theorem dX3_applyTo_22 : decode cX3_applyTo 22 = .ok (.iload_n 2, 1) := by decide +kernel
theorem dX3_applyTo_23 : decode cX3_applyTo 23 = .ok (.invokevirtual 31, 3) := by decide +kernel
theorem dX3_applyTo_26 : decode cX3_applyTo 26 = .ok (.iinc 2 1, 3) := by decide +kernel
theorem dX3_applyTo_29 : decode cX3_applyTo 29 = .ok (.goto (-27), 3) := by decide +kernel
theorem dX3_applyTo_32 : decode cX3_applyTo 32 = .ok (.return_, 1) := by decide +kernel
set_option maxRecDepth 20000 in
theorem ggX3_applyToSlot_X0_sortAt : GoodIn wsX3_applyToSlot wsX0_sortAt := goodIn_r _ [9, 10, 11, 12, 8, 13, 27, 28, 29, 30, 31, 32, 33, 34, 35, 36, 37, 38] (by decide +kernel) (by decide +kernel)
set_option maxRecDepth 20000 in
theorem gX3_applyToSlot_X0_sortAt : GoodIn wsX3_applyToSlot (wsV RX3 35 RX0 yX0_sortAt wsX0_sortAt) := goodIn_app (goodIn_of _ (by decide +kernel)) ggX3_applyToSlot_X0_sortAt
set_option maxRecDepth 20000 in
theorem ggX3_applyToSlot_X0_numberAt : GoodIn wsX3_applyToSlot wsX0_numberAt := goodIn_r _ [17, 18, 11, 12, 8, 13, 27, 28, 29, 30, 31, 32, 33, 34, 35, 36, 37, 38] (by decide +kernel) (by decide +kernel)
set_option maxRecDepth 20000 in
theorem gX3_applyToSlot_X0_numberAt : GoodIn wsX3_applyToSlot (wsV RX3 39 RX0 yX0_numberAt wsX0_numberAt) := goodIn_app (goodIn_of _ (by decide +kernel)) ggX3_applyToSlot_X0_numberAt
set_option maxRecDepth 20000 in
theorem ggX3_applyToSlot_X0_setCell : GoodIn wsX3_applyToSlot wsX0_setCell := goodIn_r _ [22, 10, 18, 11, 12, 8, 13, 27, 28, 29, 30, 31, 32, 33, 34, 35, 36, 37, 38] (by decide +kernel) (by decide +kernel)
set_option maxRecDepth 20000 in
theorem gX3_applyToSlot_X0_setCell : GoodIn wsX3_applyToSlot (wsV RX3 43 RX0 yX0_setCell wsX0_setCell) := goodIn_app (goodIn_of _ (by decide +kernel)) ggX3_applyToSlot_X0_setCell
theorem dX3_applyToSlot_0 : decode cX3_applyToSlot 0 = .ok (.iconst 0, 1) := by decide +kernel
theorem dX3_applyToSlot_1 : decode cX3_applyToSlot 1 = .ok (.istore_n 3, 1) := by decide +kernel
theorem dX3_applyToSlot_2 : decode cX3_applyToSlot 2 = .ok (.iload_n 3, 1) := by decide +kernel
theorem dX3_applyToSlot_3 : decode cX3_applyToSlot 3 = .ok (.aload_n 0, 1) := by decide +kernel
theorem dX3_applyToSlot_4 : decode cX3_applyToSlot 4 = .ok (.getfield 22, 3) := by decide +kernel
theorem dX3_applyToSlot_7 : decode cX3_applyToSlot 7 = .ok (.if_icmp .ge 49, 3) := by decide +kernel
theorem dX3_applyToSlot_10 : decode cX3_applyToSlot 10 = .ok (.iload_n 3, 1) := by decide +kernel
theorem dX3_applyToSlot_11 : decode cX3_applyToSlot 11 = .ok (.bipush 12, 2) := by decide +kernel
theorem dX3_applyToSlot_13 : decode cX3_applyToSlot 13 = .ok (.if_icmp .ge 43, 3) := by decide +kernel
theorem dX3_applyToSlot_16 : decode cX3_applyToSlot 16 = .ok (.aload_n 0, 1) := by decide +kernel
theorem dX3_applyToSlot_17 : decode cX3_applyToSlot 17 = .ok (.getfield 15, 3) := by decide +kernel
theorem dX3_applyToSlot_20 : decode cX3_applyToSlot 20 = .ok (.iload_n 3, 1) := by decide +kernel
theorem dX3_applyToSlot_21 : decode cX3_applyToSlot 21 = .ok (.aload_n 1, 1) := by decide +kernel
theorem dX3_applyToSlot_22 : decode cX3_applyToSlot 22 = .ok (.iload_n 2, 1) := by decide +kernel
theorem dX3_applyToSlot_23 : decode cX3_applyToSlot 23 = .ok (.aload_n 0, 1) := by decide +kernel
theorem dX3_applyToSlot_24 : decode cX3_applyToSlot 24 = .ok (.getfield 9, 3) := by decide +kernel
theorem dX3_applyToSlot_27 : decode cX3_applyToSlot 27 = .ok (.iload_n 3, 1) := by decide +kernel
theorem dX3_applyToSlot_28 : decode cX3_applyToSlot 28 = .ok (.iaload, 1) := by decide +kernel
theorem dX3_applyToSlot_29 : decode cX3_applyToSlot 29 = .ok (.invokevirtual 35, 3) := by decide +kernel
theorem dX3_applyToSlot_32 : decode cX3_applyToSlot 32 = .ok (.iastore, 1) := by decide +kernel
theorem dX3_applyToSlot_33 : decode cX3_applyToSlot 33 = .ok (.aload_n 0, 1) := by decide +kernel
theorem dX3_applyToSlot_34 : decode cX3_applyToSlot 34 = .ok (.getfield 18, 3) := by decide +kernel
theorem dX3_applyToSlot_37 : decode cX3_applyToSlot 37 = .ok (.iload_n 3, 1) := by decide +kernel
theorem dX3_applyToSlot_38 : decode cX3_applyToSlot 38 = .ok (.aload_n 1, 1) := by decide +kernel
theorem dX3_applyToSlot_39 : decode cX3_applyToSlot 39 = .ok (.iload_n 2, 1) := by decide +kernel
theorem dX3_applyToSlot_40 : decode cX3_applyToSlot 40 = .ok (.aload_n 0, 1) := by decide +kernel
theorem dX3_applyToSlot_41 : decode cX3_applyToSlot 41 = .ok (.getfield 9, 3) := by decide +kernel
theorem dX3_applyToSlot_44 : decode cX3_applyToSlot 44 = .ok (.iload_n 3, 1) := by decide +kernel
theorem dX3_applyToSlot_45 : decode cX3_applyToSlot 45 = .ok (.iaload, 1) := by decide +kernel
theorem dX3_applyToSlot_46 : decode cX3_applyToSlot 46 = .ok (.invokevirtual 39, 3) := by decide +kernel
theorem dX3_applyToSlot_49 : decode cX3_applyToSlot 49 = .ok (.lastore, 1) := by decide +kernel
theorem dX3_applyToSlot_50 : decode cX3_applyToSlot 50 = .ok (.iinc 3 1, 3) := by decide +kernel
theorem dX3_applyToSlot_53 : decode cX3_applyToSlot 53 = .ok (.goto (-51), 3) := by decide +kernel
theorem dX3_applyToSlot_56 : decode cX3_applyToSlot 56 = .ok (.iconst 0, 1) := by decide +kernel
theorem dX3_applyToSlot_57 : decode cX3_applyToSlot 57 = .ok (.istore_n 3, 1) := by decide +kernel
theorem dX3_applyToSlot_58 : decode cX3_applyToSlot 58 = .ok (.iload_n 3, 1) := by decide +kernel
theorem dX3_applyToSlot_59 : decode cX3_applyToSlot 59 = .ok (.aload_n 0, 1) := by decide +kernel
theorem dX3_applyToSlot_60 : decode cX3_applyToSlot 60 = .ok (.getfield 22, 3) := by decide +kernel
theorem dX3_applyToSlot_63 : decode cX3_applyToSlot 63 = .ok (.if_icmp .ge 33, 3) := by decide +kernel
theorem dX3_applyToSlot_66 : decode cX3_applyToSlot 66 = .ok (.iload_n 3, 1) := by decide +kernel
theorem dX3_applyToSlot_67 : decode cX3_applyToSlot 67 = .ok (.bipush 12, 2) := by decide +kernel
theorem dX3_applyToSlot_69 : decode cX3_applyToSlot 69 = .ok (.if_icmp .ge 27, 3) := by decide +kernel
theorem dX3_applyToSlot_72 : decode cX3_applyToSlot 72 = .ok (.aload_n 1, 1) := by decide +kernel
theorem dX3_applyToSlot_73 : decode cX3_applyToSlot 73 = .ok (.iload_n 2, 1) := by decide +kernel
theorem dX3_applyToSlot_74 : decode cX3_applyToSlot 74 = .ok (.iload_n 3, 1) := by decide +kernel
theorem dX3_applyToSlot_75 : decode cX3_applyToSlot 75 = .ok (.aload_n 0, 1) := by decide +kernel
theorem dX3_applyToSlot_76 : decode cX3_applyToSlot 76 = .ok (.getfield 15, 3) := by decide +kernel
theorem dX3_applyToSlot_79 : decode cX3_applyToSlot 79 = .ok (.iload_n 3, 1) := by decide +kernel
theorem dX3_applyToSlot_80 : decode cX3_applyToSlot 80 = .ok (.iaload, 1) := by decide +kernel
theorem dX3_applyToSlot_81 : decode cX3_applyToSlot 81 = .ok (.aload_n 0, 1) := by decide +kernel
theorem dX3_applyToSlot_82 : decode cX3_applyToSlot 82 = .ok (.getfield 18, 3) := by decide +kernel
theorem dX3_applyToSlot_85 : decode cX3_applyToSlot 85 = .ok (.iload_n 3, 1) := by decide +kernel
theorem dX3_applyToSlot_86 : decode cX3_applyToSlot 86 = .ok (.laload, 1) := by decide +kernel
theorem dX3_applyToSlot_87 : decode cX3_applyToSlot 87 = .ok (.invokevirtual 43, 3) := by decide +kernel
theorem dX3_applyToSlot_90 : decode cX3_applyToSlot 90 = .ok (.iinc 3 1, 3) := by decide +kernel
theorem dX3_applyToSlot_93 : decode cX3_applyToSlot 93 = .ok (.goto (-35), 3) := by decide +kernel
theorem dX3_applyToSlot_96 : decode cX3_applyToSlot 96 = .ok (.return_, 1) := by decide +kernel
theorem dX4_init_0 : decode cX4_init 0 = .ok (.aload_n 0, 1) := by decide +kernel
theorem dX4_init_1 : decode cX4_init 1 = .ok (.invokespecial 3, 3) := by decide +kernel
theorem dX4_init_4 : decode cX4_init 4 = .ok (.aload_n 0, 1) := by decide +kernel
theorem dX4_init_5 : decode cX4_init 5 = .ok (.bipush 12, 2) := by decide +kernel
theorem dX4_init_7 : decode cX4_init 7 = .ok (.newarray .int, 2) := by decide +kernel
theorem dX4_init_9 : decode cX4_init 9 = .ok (.putfield 9, 3) := by decide +kernel
theorem dX4_init_12 : decode cX4_init 12 = .ok (.aload_n 0, 1) := by decide +kernel
theorem dX4_init_13 : decode cX4_init 13 = .ok (.bipush 12, 2) := by decide +kernel
theorem dX4_init_15 : decode cX4_init 15 = .ok (.newarray .int, 2) := by decide +kernel
theorem dX4_init_17 : decode cX4_init 17 = .ok (.putfield 15, 3) := by decide +kernel
theorem dX4_init_20 : decode cX4_init 20 = .ok (.aload_n 0, 1) := by decide +kernel
theorem dX4_init_21 : decode cX4_init 21 = .ok (.bipush 12, 2) := by decide +kernel
theorem dX4_init_23 : decode cX4_init 23 = .ok (.newarray .int, 2) := by decide +kernel
theorem dX4_init_25 : decode cX4_init 25 = .ok (.putfield 18, 3) := by decide +kernel
theorem dX4_init_28 : decode cX4_init 28 = .ok (.aload_n 0, 1) := by decide +kernel
theorem dX4_init_29 : decode cX4_init 29 = .ok (.bipush 12, 2) := by decide +kernel
theorem dX4_init_31 : decode cX4_init 31 = .ok (.newarray .int, 2) := by decide +kernel
theorem dX4_init_33 : decode cX4_init 33 = .ok (.putfield 21, 3) := by decide +kernel
theorem dX4_init_36 : decode cX4_init 36 = .ok (.return_, 1) := by decide +kernel
set_option maxRecDepth 20000 in
theorem ggX4_sortPlaces_X0_length : GoodIn wsX4_sortPlaces wsX0_length := goodIn_r _ [13, 14, 15, 16, 17, 18, 12, 19, 20, 21, 22, 23, 24, 25, 26, 27, 28, 29, 30, 31, 32, 33, 34, 35, 36, 37, 38, 39, 40, 41, 42, 43, 44, 45, 46, 47, 48, 49, 50, 51, 122, 123, 124, 125, 126, 127, 128, 129, 130, 131, 132, 133] (by decide +kernel) (by decide +kernel)
set_option maxRecDepth 20000 in
theorem gX4_sortPlaces_X0_length : GoodIn wsX4_sortPlaces (wsV RX4 24 RX0 yX0_length wsX0_length) := goodIn_app (goodIn_of _ (by decide +kernel)) ggX4_sortPlaces_X0_length
set_option maxRecDepth 20000 in
theorem ggX4_sortPlaces_X0_comparePlaces : GoodIn wsX4_sortPlaces wsX0_comparePlaces := goodIn_r _ [55, 15, 16, 17, 18, 12, 19, 20, 39, 40, 41, 42, 43, 56, 57, 58, 59, 60, 61, 62, 63, 64, 65, 66, 67, 68, 69, 70, 71, 72, 73, 74, 75, 76, 77, 78, 79, 80, 81, 82, 83, 84, 85, 86, 87, 88, 89, 90, 91, 92, 49, 93, 94, 95, 96, 97, 98, 122, 123, 124, 125, 126, 127, 128, 129, 130, 131, 132, 133] (by decide +kernel) (by decide +kernel)
set_option maxRecDepth 20000 in
theorem gX4_sortPlaces_X0_comparePlaces : GoodIn wsX4_sortPlaces (wsV RX4 39 RX0 yX0_comparePlaces wsX0_comparePlaces) := goodIn_app (goodIn_of _ (by decide +kernel)) ggX4_sortPlaces_X0_comparePlaces
set_option maxRecDepth 20000 in
theorem ggX4_sortPlaces_X4_alikeBefore : GoodIn wsX4_sortPlaces wsX4_alikeBefore := goodIn_r _ [103, 104, 105, 106, 102, 107, 108, 109, 110, 111, 6, 112, 113, 114, 115, 5, 116, 78, 79, 80, 117, 118, 119, 120, 121] (by decide +kernel) (by decide +kernel)
set_option maxRecDepth 20000 in
theorem gX4_sortPlaces_X4_alikeBefore : GoodIn wsX4_sortPlaces (wsV RX4 43 RX4 yX4_alikeBefore wsX4_alikeBefore) := goodIn_app (goodIn_of _ (by decide +kernel)) ggX4_sortPlaces_X4_alikeBefore
set_option maxRecDepth 20000 in
theorem ggX4_sortPlaces_X4_isPlace : GoodIn wsX4_sortPlaces wsX4_isPlace := goodIn_r _ [115, 5, 117, 118, 119, 120, 121] (by decide +kernel) (by decide +kernel)
set_option maxRecDepth 20000 in
theorem gX4_sortPlaces_X4_isPlace : GoodIn wsX4_sortPlaces (wsV RX4 47 RX4 yX4_isPlace wsX4_isPlace) := goodIn_app (goodIn_of _ (by decide +kernel)) ggX4_sortPlaces_X4_isPlace
theorem dX4_sortPlaces_0 : decode cX4_sortPlaces 0 = .ok (.aload_n 0, 1) := by decide +kernel
theorem dX4_sortPlaces_1 : decode cX4_sortPlaces 1 = .ok (.aload_n 1, 1) := by decide +kernel
theorem dX4_sortPlaces_2 : decode cX4_sortPlaces 2 = .ok (.invokevirtual 24, 3) := by decide +kernel
theorem dX4_sortPlaces_5 : decode cX4_sortPlaces 5 = .ok (.bipush 12, 2) := by decide +kernel
theorem dX4_sortPlaces_7 : decode cX4_sortPlaces 7 = .ok (.invokestatic 30, 3) := by decide +kernel
theorem dX4_sortPlaces_10 : decode cX4_sortPlaces 10 = .ok (.putfield 36, 3) := by decide +kernel
theorem dX4_sortPlaces_13 : decode cX4_sortPlaces 13 = .ok (.iconst 0, 1) := by decide +kernel
theorem dX4_sortPlaces_14 : decode cX4_sortPlaces 14 = .ok (.istore_n 3, 1) := by decide +kernel
theorem dX4_sortPlaces_15 : decode cX4_sortPlaces 15 = .ok (.iload_n 3, 1) := by decide +kernel
theorem dX4_sortPlaces_16 : decode cX4_sortPlaces 16 = .ok (.aload_n 0, 1) := by decide +kernel
theorem dX4_sortPlaces_17 : decode cX4_sortPlaces 17 = .ok (.getfield 36, 3) := by decide +kernel
theorem dX4_sortPlaces_20 : decode cX4_sortPlaces 20 = .ok (.if_icmp .ge 55, 3) := by decide +kernel
theorem dX4_sortPlaces_23 : decode cX4_sortPlaces 23 = .ok (.aload_n 0, 1) := by decide +kernel
theorem dX4_sortPlaces_24 : decode cX4_sortPlaces 24 = .ok (.getfield 9, 3) := by decide +kernel
theorem dX4_sortPlaces_27 : decode cX4_sortPlaces 27 = .ok (.iload_n 3, 1) := by decide +kernel
theorem dX4_sortPlaces_28 : decode cX4_sortPlaces 28 = .ok (.iconst 0, 1) := by decide +kernel
theorem dX4_sortPlaces_29 : decode cX4_sortPlaces 29 = .ok (.iastore, 1) := by decide +kernel
theorem dX4_sortPlaces_30 : decode cX4_sortPlaces 30 = .ok (.iconst 0, 1) := by decide +kernel
theorem dX4_sortPlaces_31 : decode cX4_sortPlaces 31 = .ok (.istore 4, 2) := by decide +kernel
theorem dX4_sortPlaces_33 : decode cX4_sortPlaces 33 = .ok (.iload 4, 2) := by decide +kernel
theorem dX4_sortPlaces_35 : decode cX4_sortPlaces 35 = .ok (.aload_n 0, 1) := by decide +kernel
theorem dX4_sortPlaces_36 : decode cX4_sortPlaces 36 = .ok (.getfield 36, 3) := by decide +kernel
theorem dX4_sortPlaces_39 : decode cX4_sortPlaces 39 = .ok (.if_icmp .ge 30, 3) := by decide +kernel
theorem dX4_sortPlaces_42 : decode cX4_sortPlaces 42 = .ok (.aload_n 1, 1) := by decide +kernel
theorem dX4_sortPlaces_43 : decode cX4_sortPlaces 43 = .ok (.iload 4, 2) := by decide +kernel
theorem dX4_sortPlaces_45 : decode cX4_sortPlaces 45 = .ok (.iload_n 3, 1) := by decide +kernel
theorem dX4_sortPlaces_46 : decode cX4_sortPlaces 46 = .ok (.iload_n 2, 1) := by decide +kernel
theorem dX4_sortPlaces_47 : decode cX4_sortPlaces 47 = .ok (.invokevirtual 39, 3) := by decide +kernel
theorem dX4_sortPlaces_50 : decode cX4_sortPlaces 50 = .ok (.ifCond .ge 13, 3) := by decide +kernel
theorem dX4_sortPlaces_53 : decode cX4_sortPlaces 53 = .ok (.aload_n 0, 1) := by decide +kernel
theorem dX4_sortPlaces_54 : decode cX4_sortPlaces 54 = .ok (.getfield 9, 3) := by decide +kernel
theorem dX4_sortPlaces_57 : decode cX4_sortPlaces 57 = .ok (.iload_n 3, 1) := by decide +kernel
theorem dX4_sortPlaces_58 : decode cX4_sortPlaces 58 = .ok (.dup2, 1) := by decide +kernel
theorem dX4_sortPlaces_59 : decode cX4_sortPlaces 59 = .ok (.iaload, 1) := by decide +kernel
theorem dX4_sortPlaces_60 : decode cX4_sortPlaces 60 = .ok (.iconst 1, 1) := by decide +kernel
theorem dX4_sortPlaces_61 : decode cX4_sortPlaces 61 = .ok (.iadd, 1) := by decide +kernel
theorem dX4_sortPlaces_62 : decode cX4_sortPlaces 62 = .ok (.iastore, 1) := by decide +kernel
theorem dX4_sortPlaces_63 : decode cX4_sortPlaces 63 = .ok (.iinc 4 1, 3) := by decide +kernel
theorem dX4_sortPlaces_66 : decode cX4_sortPlaces 66 = .ok (.goto (-33), 3) := by decide +kernel
theorem dX4_sortPlaces_69 : decode cX4_sortPlaces 69 = .ok (.iinc 3 1, 3) := by decide +kernel
theorem dX4_sortPlaces_72 : decode cX4_sortPlaces 72 = .ok (.goto (-57), 3) := by decide +kernel
theorem dX4_sortPlaces_75 : decode cX4_sortPlaces 75 = .ok (.iconst 0, 1) := by decide +kernel
theorem dX4_sortPlaces_76 : decode cX4_sortPlaces 76 = .ok (.istore_n 3, 1) := by decide +kernel
theorem dX4_sortPlaces_77 : decode cX4_sortPlaces 77 = .ok (.iload_n 3, 1) := by decide +kernel
theorem dX4_sortPlaces_78 : decode cX4_sortPlaces 78 = .ok (.aload_n 0, 1) := by decide +kernel
theorem dX4_sortPlaces_79 : decode cX4_sortPlaces 79 = .ok (.getfield 36, 3) := by decide +kernel
theorem dX4_sortPlaces_82 : decode cX4_sortPlaces 82 = .ok (.if_icmp .ge 27, 3) := by decide +kernel
theorem dX4_sortPlaces_85 : decode cX4_sortPlaces 85 = .ok (.aload_n 0, 1) := by decide +kernel
theorem dX4_sortPlaces_86 : decode cX4_sortPlaces 86 = .ok (.getfield 15, 3) := by decide +kernel
theorem dX4_sortPlaces_89 : decode cX4_sortPlaces 89 = .ok (.iload_n 3, 1) := by decide +kernel
theorem dX4_sortPlaces_90 : decode cX4_sortPlaces 90 = .ok (.aload_n 0, 1) := by decide +kernel
theorem dX4_sortPlaces_91 : decode cX4_sortPlaces 91 = .ok (.getfield 9, 3) := by decide +kernel
theorem dX4_sortPlaces_94 : decode cX4_sortPlaces 94 = .ok (.iload_n 3, 1) := by decide +kernel
theorem dX4_sortPlaces_95 : decode cX4_sortPlaces 95 = .ok (.iaload, 1) := by decide +kernel
theorem dX4_sortPlaces_96 : decode cX4_sortPlaces 96 = .ok (.aload_n 0, 1) := by decide +kernel
theorem dX4_sortPlaces_97 : decode cX4_sortPlaces 97 = .ok (.iload_n 3, 1) := by decide +kernel
theorem dX4_sortPlaces_98 : decode cX4_sortPlaces 98 = .ok (.invokevirtual 43, 3) := by decide +kernel
theorem dX4_sortPlaces_101 : decode cX4_sortPlaces 101 = .ok (.iadd, 1) := by decide +kernel
theorem dX4_sortPlaces_102 : decode cX4_sortPlaces 102 = .ok (.iastore, 1) := by decide +kernel
theorem dX4_sortPlaces_103 : decode cX4_sortPlaces 103 = .ok (.iinc 3 1, 3) := by decide +kernel
theorem dX4_sortPlaces_106 : decode cX4_sortPlaces 106 = .ok (.goto (-29), 3) := by decide +kernel
theorem dX4_sortPlaces_109 : decode cX4_sortPlaces 109 = .ok (.iconst 0, 1) := by decide +kernel
theorem dX4_sortPlaces_110 : decode cX4_sortPlaces 110 = .ok (.istore_n 3, 1) := by decide +kernel
theorem dX4_sortPlaces_111 : decode cX4_sortPlaces 111 = .ok (.iload_n 3, 1) := by decide +kernel
theorem dX4_sortPlaces_112 : decode cX4_sortPlaces 112 = .ok (.aload_n 0, 1) := by decide +kernel
theorem dX4_sortPlaces_113 : decode cX4_sortPlaces 113 = .ok (.getfield 36, 3) := by decide +kernel
theorem dX4_sortPlaces_116 : decode cX4_sortPlaces 116 = .ok (.if_icmp .ge 34, 3) := by decide +kernel
theorem dX4_sortPlaces_119 : decode cX4_sortPlaces 119 = .ok (.aload_n 0, 1) := by decide +kernel
theorem dX4_sortPlaces_120 : decode cX4_sortPlaces 120 = .ok (.aload_n 0, 1) := by decide +kernel
theorem dX4_sortPlaces_121 : decode cX4_sortPlaces 121 = .ok (.getfield 15, 3) := by decide +kernel
theorem dX4_sortPlaces_124 : decode cX4_sortPlaces 124 = .ok (.iload_n 3, 1) := by decide +kernel
theorem dX4_sortPlaces_125 : decode cX4_sortPlaces 125 = .ok (.iaload, 1) := by decide +kernel
theorem dX4_sortPlaces_126 : decode cX4_sortPlaces 126 = .ok (.invokevirtual 47, 3) := by decide +kernel
theorem dX4_sortPlaces_129 : decode cX4_sortPlaces 129 = .ok (.ifCond .eq 15, 3) := by decide +kernel
theorem dX4_sortPlaces_132 : decode cX4_sortPlaces 132 = .ok (.aload_n 0, 1) := by decide +kernel
theorem dX4_sortPlaces_133 : decode cX4_sortPlaces 133 = .ok (.getfield 18, 3) := by decide +kernel
theorem dX4_sortPlaces_136 : decode cX4_sortPlaces 136 = .ok (.aload_n 0, 1) := by decide +kernel
theorem dX4_sortPlaces_137 : decode cX4_sortPlaces 137 = .ok (.getfield 15, 3) := by decide +kernel
theorem dX4_sortPlaces_140 : decode cX4_sortPlaces 140 = .ok (.iload_n 3, 1) := by decide +kernel
theorem dX4_sortPlaces_141 : decode cX4_sortPlaces 141 = .ok (.iaload, 1) := by decide +kernel
theorem dX4_sortPlaces_142 : decode cX4_sortPlaces 142 = .ok (.iload_n 3, 1) := by decide +kernel
theorem dX4_sortPlaces_143 : decode cX4_sortPlaces 143 = .ok (.iastore, 1) := by decide +kernel
theorem dX4_sortPlaces_144 : decode cX4_sortPlaces 144 = .ok (.iinc 3 1, 3) := by decide +kernel
theorem dX4_sortPlaces_147 : decode cX4_sortPlaces 147 = .ok (.goto (-36), 3) := by decide +kernel
theorem dX4_sortPlaces_150 : decode cX4_sortPlaces 150 = .ok (.return_, 1) := by decide +kernel
theorem dX4_isFit_0 : decode cX4_isFit 0 = .ok (.aload_n 0, 1) := by decide +kernel
theorem dX4_isFit_1 : decode cX4_isFit 1 = .ok (.getfield 36, 3) := by decide +kernel
theorem dX4_isFit_4 : decode cX4_isFit 4 = .ok (.iconst (-1), 1) := by decide +kernel
theorem dX4_isFit_5 : decode cX4_isFit 5 = .ok (.if_icmp .eq 7, 3) := by decide +kernel
theorem dX4_isFit_8 : decode cX4_isFit 8 = .ok (.iconst 1, 1) := by decide +kernel
theorem dX4_isFit_9 : decode cX4_isFit 9 = .ok (.goto 4, 3) := by decide +kernel
theorem dX4_isFit_12 : decode cX4_isFit 12 = .ok (.iconst 0, 1) := by decide +kernel
theorem dX4_isFit_13 : decode cX4_isFit 13 = .ok (.ireturn, 1) := by decide +kernel
theorem dX4_isPlace_0 : decode cX4_isPlace 0 = .ok (.iload_n 1, 1) := by decide +kernel
theorem dX4_isPlace_1 : decode cX4_isPlace 1 = .ok (.ifCond .lt 21, 3) := by decide +kernel
theorem dX4_isPlace_4 : decode cX4_isPlace 4 = .ok (.iload_n 1, 1) := by decide +kernel
theorem dX4_isPlace_5 : decode cX4_isPlace 5 = .ok (.aload_n 0, 1) := by decide +kernel
theorem dX4_isPlace_6 : decode cX4_isPlace 6 = .ok (.getfield 36, 3) := by decide +kernel
theorem dX4_isPlace_9 : decode cX4_isPlace 9 = .ok (.if_icmp .ge 13, 3) := by decide +kernel
theorem dX4_isPlace_12 : decode cX4_isPlace 12 = .ok (.iload_n 1, 1) := by decide +kernel
theorem dX4_isPlace_13 : decode cX4_isPlace 13 = .ok (.bipush 12, 2) := by decide +kernel
theorem dX4_isPlace_15 : decode cX4_isPlace 15 = .ok (.if_icmp .ge 7, 3) := by decide +kernel
theorem dX4_isPlace_18 : decode cX4_isPlace 18 = .ok (.iconst 1, 1) := by decide +kernel
theorem dX4_isPlace_19 : decode cX4_isPlace 19 = .ok (.goto 4, 3) := by decide +kernel
theorem dX4_isPlace_22 : decode cX4_isPlace 22 = .ok (.iconst 0, 1) := by decide +kernel
theorem dX4_isPlace_23 : decode cX4_isPlace 23 = .ok (.ireturn, 1) := by decide +kernel
set_option maxRecDepth 20000 in
theorem ggX4_lesserThan_X4_isPlace : GoodIn wsX4_lesserThan wsX4_isPlace := goodIn_r _ [6, 7, 8, 9, 10, 11, 12] (by decide +kernel) (by decide +kernel)
set_option maxRecDepth 20000 in
theorem gX4_lesserThan_X4_isPlace : GoodIn wsX4_lesserThan (wsV RX4 47 RX4 yX4_isPlace wsX4_isPlace) := goodIn_app (goodIn_of _ (by decide +kernel)) ggX4_lesserThan_X4_isPlace
theorem dX4_lesserThan_0 : decode cX4_lesserThan 0 = .ok (.aload_n 0, 1) := by decide +kernel
theorem dX4_lesserThan_1 : decode cX4_lesserThan 1 = .ok (.iload_n 1, 1) := by decide +kernel
theorem dX4_lesserThan_2 : decode cX4_lesserThan 2 = .ok (.invokevirtual 47, 3) := by decide +kernel
theorem dX4_lesserThan_5 : decode cX4_lesserThan 5 = .ok (.ifCond .eq 12, 3) := by decide +kernel
theorem dX4_lesserThan_8 : decode cX4_lesserThan 8 = .ok (.aload_n 0, 1) := by decide +kernel
theorem dX4_lesserThan_9 : decode cX4_lesserThan 9 = .ok (.getfield 9, 3) := by decide +kernel
theorem dX4_lesserThan_12 : decode cX4_lesserThan 12 = .ok (.iload_n 1, 1) := by decide +kernel
theorem dX4_lesserThan_13 : decode cX4_lesserThan 13 = .ok (.iaload, 1) := by decide +kernel
theorem dX4_lesserThan_14 : decode cX4_lesserThan 14 = .ok (.goto 4, 3) := by decide +kernel
theorem dX4_lesserThan_17 : decode cX4_lesserThan 17 = .ok (.iconst 0, 1) := by decide +kernel
theorem dX4_lesserThan_18 : decode cX4_lesserThan 18 = .ok (.ireturn, 1) := by decide +kernel
set_option maxRecDepth 20000 in
theorem ggX4_positionOf_X4_isPlace : GoodIn wsX4_positionOf wsX4_isPlace := goodIn_r _ [6, 7, 8, 9, 10, 11, 12] (by decide +kernel) (by decide +kernel)
set_option maxRecDepth 20000 in
theorem gX4_positionOf_X4_isPlace : GoodIn wsX4_positionOf (wsV RX4 47 RX4 yX4_isPlace wsX4_isPlace) := goodIn_app (goodIn_of _ (by decide +kernel)) ggX4_positionOf_X4_isPlace
theorem dX4_positionOf_0 : decode cX4_positionOf 0 = .ok (.aload_n 0, 1) := by decide +kernel
theorem dX4_positionOf_1 : decode cX4_positionOf 1 = .ok (.iload_n 1, 1) := by decide +kernel
theorem dX4_positionOf_2 : decode cX4_positionOf 2 = .ok (.invokevirtual 47, 3) := by decide +kernel
theorem dX4_positionOf_5 : decode cX4_positionOf 5 = .ok (.ifCond .eq 12, 3) := by decide +kernel
theorem dX4_positionOf_8 : decode cX4_positionOf 8 = .ok (.aload_n 0, 1) := by decide +kernel
theorem dX4_positionOf_9 : decode cX4_positionOf 9 = .ok (.getfield 15, 3) := by decide +kernel
theorem dX4_positionOf_12 : decode cX4_positionOf 12 = .ok (.iload_n 1, 1) := by decide +kernel
theorem dX4_positionOf_13 : decode cX4_positionOf 13 = .ok (.iaload, 1) := by decide +kernel
theorem dX4_positionOf_14 : decode cX4_positionOf 14 = .ok (.goto 4, 3) := by decide +kernel
theorem dX4_positionOf_17 : decode cX4_positionOf 17 = .ok (.iconst (-1), 1) := by decide +kernel
theorem dX4_positionOf_18 : decode cX4_positionOf 18 = .ok (.ireturn, 1) := by decide +kernel
set_option maxRecDepth 20000 in
theorem ggX4_placeAt_X4_isPlace : GoodIn wsX4_placeAt wsX4_isPlace := goodIn_r _ [6, 7, 8, 9, 10, 11, 12] (by decide +kernel) (by decide +kernel)
set_option maxRecDepth 20000 in
theorem gX4_placeAt_X4_isPlace : GoodIn wsX4_placeAt (wsV RX4 47 RX4 yX4_isPlace wsX4_isPlace) := goodIn_app (goodIn_of _ (by decide +kernel)) ggX4_placeAt_X4_isPlace
theorem dX4_placeAt_0 : decode cX4_placeAt 0 = .ok (.aload_n 0, 1) := by decide +kernel
theorem dX4_placeAt_1 : decode cX4_placeAt 1 = .ok (.iload_n 1, 1) := by decide +kernel
theorem dX4_placeAt_2 : decode cX4_placeAt 2 = .ok (.invokevirtual 47, 3) := by decide +kernel
theorem dX4_placeAt_5 : decode cX4_placeAt 5 = .ok (.ifCond .eq 12, 3) := by decide +kernel
theorem dX4_placeAt_8 : decode cX4_placeAt 8 = .ok (.aload_n 0, 1) := by decide +kernel
theorem dX4_placeAt_9 : decode cX4_placeAt 9 = .ok (.getfield 18, 3) := by decide +kernel
theorem dX4_placeAt_12 : decode cX4_placeAt 12 = .ok (.iload_n 1, 1) := by decide +kernel
theorem dX4_placeAt_13 : decode cX4_placeAt 13 = .ok (.iaload, 1) := by decide +kernel
theorem dX4_placeAt_14 : decode cX4_placeAt 14 = .ok (.goto 4, 3) := by decide +kernel
theorem dX4_placeAt_17 : decode cX4_placeAt 17 = .ok (.iconst (-1), 1) := by decide +kernel
theorem dX4_placeAt_18 : decode cX4_placeAt 18 = .ok (.ireturn, 1) := by decide +kernel
set_option maxRecDepth 20000 in
theorem ggX4_compareByRank_X4_lesserThan : GoodIn wsX4_compareByRank wsX4_lesserThan := goodIn_r _ [5, 6, 7, 8, 9, 4, 10, 11, 16, 17, 18, 19, 20] (by decide +kernel) (by decide +kernel)
set_option maxRecDepth 20000 in
theorem gX4_compareByRank_X4_lesserThan : GoodIn wsX4_compareByRank (wsV RX4 51 RX4 yX4_lesserThan wsX4_lesserThan) := goodIn_app (goodIn_of _ (by decide +kernel)) ggX4_compareByRank_X4_lesserThan
set_option maxRecDepth 20000 in
theorem ggX4_compareByRank_J6_compare_7cf53 : GoodIn wsX4_compareByRank wsJ6_compare_7cf53 := goodIn_r _ [15] (by decide +kernel) (by decide +kernel)
set_option maxRecDepth 20000 in
theorem gX4_compareByRank_J6_compare_7cf53 : GoodIn wsX4_compareByRank (va_wsS RX4 54 yJ6_compare_7cf53 wsJ6_compare_7cf53) := goodIn_app (goodIn_of _ (by decide +kernel)) ggX4_compareByRank_J6_compare_7cf53
theorem dX4_compareByRank_0 : decode cX4_compareByRank 0 = .ok (.aload_n 0, 1) := by decide +kernel
theorem dX4_compareByRank_1 : decode cX4_compareByRank 1 = .ok (.iload_n 1, 1) := by decide +kernel
theorem dX4_compareByRank_2 : decode cX4_compareByRank 2 = .ok (.invokevirtual 51, 3) := by decide +kernel
theorem dX4_compareByRank_5 : decode cX4_compareByRank 5 = .ok (.aload_n 0, 1) := by decide +kernel
theorem dX4_compareByRank_6 : decode cX4_compareByRank 6 = .ok (.iload_n 2, 1) := by decide +kernel
theorem dX4_compareByRank_7 : decode cX4_compareByRank 7 = .ok (.invokevirtual 51, 3) := by decide +kernel
theorem dX4_compareByRank_10 : decode cX4_compareByRank 10 = .ok (.invokestatic 54, 3) := by decide +kernel
theorem dX4_compareByRank_13 : decode cX4_compareByRank 13 = .ok (.ireturn, 1) := by decide +kernel
set_option maxRecDepth 20000 in
theorem ggX4_alikeBefore_X4_compareByRank : GoodIn wsX4_alikeBefore wsX4_compareByRank := goodIn_r _ [5, 6, 7, 8, 4, 9, 10, 11, 12, 13, 14, 15, 16, 17, 18, 19, 20, 21, 22, 23, 24] (by decide +kernel) (by decide +kernel)
set_option maxRecDepth 20000 in
theorem gX4_alikeBefore_X4_compareByRank : GoodIn wsX4_alikeBefore (wsV RX4 59 RX4 yX4_compareByRank wsX4_compareByRank) := goodIn_app (goodIn_of _ (by decide +kernel)) ggX4_alikeBefore_X4_compareByRank
theorem dX4_alikeBefore_0 : decode cX4_alikeBefore 0 = .ok (.iconst 0, 1) := by decide +kernel
theorem dX4_alikeBefore_1 : decode cX4_alikeBefore 1 = .ok (.istore_n 2, 1) := by decide +kernel
theorem dX4_alikeBefore_2 : decode cX4_alikeBefore 2 = .ok (.iconst 0, 1) := by decide +kernel
theorem dX4_alikeBefore_3 : decode cX4_alikeBefore 3 = .ok (.istore_n 3, 1) := by decide +kernel
theorem dX4_alikeBefore_4 : decode cX4_alikeBefore 4 = .ok (.iload_n 3, 1) := by decide +kernel
theorem dX4_alikeBefore_5 : decode cX4_alikeBefore 5 = .ok (.iload_n 1, 1) := by decide +kernel
theorem dX4_alikeBefore_6 : decode cX4_alikeBefore 6 = .ok (.if_icmp .ge 21, 3) := by decide +kernel
theorem dX4_alikeBefore_9 : decode cX4_alikeBefore 9 = .ok (.aload_n 0, 1) := by decide +kernel
theorem dX4_alikeBefore_10 : decode cX4_alikeBefore 10 = .ok (.iload_n 3, 1) := by decide +kernel
theorem dX4_alikeBefore_11 : decode cX4_alikeBefore 11 = .ok (.iload_n 1, 1) := by decide +kernel
theorem dX4_alikeBefore_12 : decode cX4_alikeBefore 12 = .ok (.invokevirtual 59, 3) := by decide +kernel
theorem dX4_alikeBefore_15 : decode cX4_alikeBefore 15 = .ok (.ifCond .ne 6, 3) := by decide +kernel
theorem dX4_alikeBefore_18 : decode cX4_alikeBefore 18 = .ok (.iinc 2 1, 3) := by decide +kernel
theorem dX4_alikeBefore_21 : decode cX4_alikeBefore 21 = .ok (.iinc 3 1, 3) := by decide +kernel
theorem dX4_alikeBefore_24 : decode cX4_alikeBefore 24 = .ok (.goto (-20), 3) := by decide +kernel
theorem dX4_alikeBefore_27 : decode cX4_alikeBefore 27 = .ok (.iload_n 2, 1) := by decide +kernel
theorem dX4_alikeBefore_28 : decode cX4_alikeBefore 28 = .ok (.ireturn, 1) := by decide +kernel
set_option maxRecDepth 20000 in
theorem ggX4_alikeTo_X4_compareByRank : GoodIn wsX4_alikeTo wsX4_compareByRank := goodIn_r _ [6, 7, 8, 9, 5, 10, 11, 12, 13, 14, 15, 1, 16, 17, 18, 19, 20, 21, 22, 23, 24] (by decide +kernel) (by decide +kernel)
set_option maxRecDepth 20000 in
theorem gX4_alikeTo_X4_compareByRank : GoodIn wsX4_alikeTo (wsV RX4 59 RX4 yX4_compareByRank wsX4_compareByRank) := goodIn_app (goodIn_of _ (by decide +kernel)) ggX4_alikeTo_X4_compareByRank
theorem dX4_alikeTo_0 : decode cX4_alikeTo 0 = .ok (.iconst 0, 1) := by decide +kernel
theorem dX4_alikeTo_1 : decode cX4_alikeTo 1 = .ok (.istore_n 2, 1) := by decide +kernel
theorem dX4_alikeTo_2 : decode cX4_alikeTo 2 = .ok (.iconst 0, 1) := by decide +kernel
theorem dX4_alikeTo_3 : decode cX4_alikeTo 3 = .ok (.istore_n 3, 1) := by decide +kernel
theorem dX4_alikeTo_4 : decode cX4_alikeTo 4 = .ok (.iload_n 3, 1) := by decide +kernel
theorem dX4_alikeTo_5 : decode cX4_alikeTo 5 = .ok (.aload_n 0, 1) := by decide +kernel
theorem dX4_alikeTo_6 : decode cX4_alikeTo 6 = .ok (.getfield 36, 3) := by decide +kernel
theorem dX4_alikeTo_9 : decode cX4_alikeTo 9 = .ok (.if_icmp .ge 21, 3) := by decide +kernel
theorem dX4_alikeTo_12 : decode cX4_alikeTo 12 = .ok (.aload_n 0, 1) := by decide +kernel
theorem dX4_alikeTo_13 : decode cX4_alikeTo 13 = .ok (.iload_n 3, 1) := by decide +kernel
theorem dX4_alikeTo_14 : decode cX4_alikeTo 14 = .ok (.iload_n 1, 1) := by decide +kernel
theorem dX4_alikeTo_15 : decode cX4_alikeTo 15 = .ok (.invokevirtual 59, 3) := by decide +kernel
theorem dX4_alikeTo_18 : decode cX4_alikeTo 18 = .ok (.ifCond .ne 6, 3) := by decide +kernel
theorem dX4_alikeTo_21 : decode cX4_alikeTo 21 = .ok (.iinc 2 1, 3) := by decide +kernel
theorem dX4_alikeTo_24 : decode cX4_alikeTo 24 = .ok (.iinc 3 1, 3) := by decide +kernel
theorem dX4_alikeTo_27 : decode cX4_alikeTo 27 = .ok (.goto (-23), 3) := by decide +kernel
theorem dX4_alikeTo_30 : decode cX4_alikeTo 30 = .ok (.iload_n 2, 1) := by decide +kernel
theorem dX4_alikeTo_31 : decode cX4_alikeTo 31 = .ok (.ireturn, 1) := by decide +kernel
set_option maxRecDepth 20000 in
theorem ggX4_classesBelow_X4_compareByRank : GoodIn wsX4_classesBelow wsX4_compareByRank := goodIn_r _ [6, 7, 8, 9, 5, 10, 11, 12, 13, 14, 15, 1, 16, 17, 18, 19, 24, 25, 26, 27, 28] (by decide +kernel) (by decide +kernel)
set_option maxRecDepth 20000 in
theorem gX4_classesBelow_X4_compareByRank : GoodIn wsX4_classesBelow (wsV RX4 59 RX4 yX4_compareByRank wsX4_compareByRank) := goodIn_app (goodIn_of _ (by decide +kernel)) ggX4_classesBelow_X4_compareByRank
set_option maxRecDepth 20000 in
theorem ggX4_classesBelow_X4_alikeBefore : GoodIn wsX4_classesBelow wsX4_alikeBefore := goodIn_r _ [23, 2, 3, 4, 5, 6, 7, 8, 9, 10, 11, 12, 13, 14, 15, 1, 16, 17, 18, 19, 24, 25, 26, 27, 28] (by decide +kernel) (by decide +kernel)
set_option maxRecDepth 20000 in
theorem gX4_classesBelow_X4_alikeBefore : GoodIn wsX4_classesBelow (wsV RX4 43 RX4 yX4_alikeBefore wsX4_alikeBefore) := goodIn_app (goodIn_of _ (by decide +kernel)) ggX4_classesBelow_X4_alikeBefore
theorem dX4_classesBelow_0 : decode cX4_classesBelow 0 = .ok (.iconst 0, 1) := by decide +kernel
theorem dX4_classesBelow_1 : decode cX4_classesBelow 1 = .ok (.istore_n 2, 1) := by decide +kernel
theorem dX4_classesBelow_2 : decode cX4_classesBelow 2 = .ok (.iconst 0, 1) := by decide +kernel
theorem dX4_classesBelow_3 : decode cX4_classesBelow 3 = .ok (.istore_n 3, 1) := by decide +kernel
theorem dX4_classesBelow_4 : decode cX4_classesBelow 4 = .ok (.iload_n 3, 1) := by decide +kernel
theorem dX4_classesBelow_5 : decode cX4_classesBelow 5 = .ok (.aload_n 0, 1) := by decide +kernel
theorem dX4_classesBelow_6 : decode cX4_classesBelow 6 = .ok (.getfield 36, 3) := by decide +kernel
theorem dX4_classesBelow_9 : decode cX4_classesBelow 9 = .ok (.if_icmp .ge 29, 3) := by decide +kernel
theorem dX4_classesBelow_12 : decode cX4_classesBelow 12 = .ok (.aload_n 0, 1) := by decide +kernel
theorem dX4_classesBelow_13 : decode cX4_classesBelow 13 = .ok (.iload_n 3, 1) := by decide +kernel
theorem dX4_classesBelow_14 : decode cX4_classesBelow 14 = .ok (.iload_n 1, 1) := by decide +kernel
theorem dX4_classesBelow_15 : decode cX4_classesBelow 15 = .ok (.invokevirtual 59, 3) := by decide +kernel
theorem dX4_classesBelow_18 : decode cX4_classesBelow 18 = .ok (.ifCond .ge 14, 3) := by decide +kernel
theorem dX4_classesBelow_21 : decode cX4_classesBelow 21 = .ok (.aload_n 0, 1) := by decide +kernel
theorem dX4_classesBelow_22 : decode cX4_classesBelow 22 = .ok (.iload_n 3, 1) := by decide +kernel
theorem dX4_classesBelow_23 : decode cX4_classesBelow 23 = .ok (.invokevirtual 43, 3) := by decide +kernel
theorem dX4_classesBelow_26 : decode cX4_classesBelow 26 = .ok (.ifCond .ne 6, 3) := by decide +kernel
theorem dX4_classesBelow_29 : decode cX4_classesBelow 29 = .ok (.iinc 2 1, 3) := by decide +kernel
theorem dX4_classesBelow_32 : decode cX4_classesBelow 32 = .ok (.iinc 3 1, 3) := by decide +kernel
theorem dX4_classesBelow_35 : decode cX4_classesBelow 35 = .ok (.goto (-31), 3) := by decide +kernel
theorem dX4_classesBelow_38 : decode cX4_classesBelow 38 = .ok (.iload_n 2, 1) := by decide +kernel
theorem dX4_classesBelow_39 : decode cX4_classesBelow 39 = .ok (.ireturn, 1) := by decide +kernel
set_option maxRecDepth 20000 in
theorem ggX4_hasOrderOf_X4_positionOf : GoodIn wsX4_hasOrderOf wsX4_positionOf := goodIn_r _ [6, 7, 8, 9, 10, 5, 11, 1, 12, 13, 14, 15, 16] (by decide +kernel) (by decide +kernel)
set_option maxRecDepth 20000 in
theorem gX4_hasOrderOf_X4_positionOf : GoodIn wsX4_hasOrderOf (wsV RX4 62 RX4 yX4_positionOf wsX4_positionOf) := goodIn_app (goodIn_of _ (by decide +kernel)) ggX4_hasOrderOf_X4_positionOf
theorem dX4_hasOrderOf_0 : decode cX4_hasOrderOf 0 = .ok (.iconst 0, 1) := by decide +kernel
theorem dX4_hasOrderOf_1 : decode cX4_hasOrderOf 1 = .ok (.istore_n 2, 1) := by decide +kernel
theorem dX4_hasOrderOf_2 : decode cX4_hasOrderOf 2 = .ok (.iload_n 2, 1) := by decide +kernel
theorem dX4_hasOrderOf_3 : decode cX4_hasOrderOf 3 = .ok (.aload_n 0, 1) := by decide +kernel
theorem dX4_hasOrderOf_4 : decode cX4_hasOrderOf 4 = .ok (.getfield 36, 3) := by decide +kernel
theorem dX4_hasOrderOf_7 : decode cX4_hasOrderOf 7 = .ok (.if_icmp .ge 24, 3) := by decide +kernel
theorem dX4_hasOrderOf_10 : decode cX4_hasOrderOf 10 = .ok (.aload_n 0, 1) := by decide +kernel
theorem dX4_hasOrderOf_11 : decode cX4_hasOrderOf 11 = .ok (.iload_n 2, 1) := by decide +kernel
theorem dX4_hasOrderOf_12 : decode cX4_hasOrderOf 12 = .ok (.invokevirtual 62, 3) := by decide +kernel
theorem dX4_hasOrderOf_15 : decode cX4_hasOrderOf 15 = .ok (.aload_n 1, 1) := by decide +kernel
theorem dX4_hasOrderOf_16 : decode cX4_hasOrderOf 16 = .ok (.iload_n 2, 1) := by decide +kernel
theorem dX4_hasOrderOf_17 : decode cX4_hasOrderOf 17 = .ok (.invokevirtual 62, 3) := by decide +kernel
theorem dX4_hasOrderOf_20 : decode cX4_hasOrderOf 20 = .ok (.if_icmp .eq 5, 3) := by decide +kernel
theorem dX4_hasOrderOf_23 : decode cX4_hasOrderOf 23 = .ok (.iconst 0, 1) := by decide +kernel
theorem dX4_hasOrderOf_24 : decode cX4_hasOrderOf 24 = .ok (.ireturn, 1) := by decide +kernel
theorem dX4_hasOrderOf_25 : decode cX4_hasOrderOf 25 = .ok (.iinc 2 1, 3) := by decide +kernel
theorem dX4_hasOrderOf_28 : decode cX4_hasOrderOf 28 = .ok (.goto (-26), 3) := by decide +kernel
theorem dX4_hasOrderOf_31 : decode cX4_hasOrderOf 31 = .ok (.iconst 1, 1) := by decide +kernel
theorem dX4_hasOrderOf_32 : decode cX4_hasOrderOf 32 = .ok (.ireturn, 1) := by decide +kernel
set_option maxRecDepth 20000 in
theorem ggX4_alikePairs_X4_alikeBefore : GoodIn wsX4_alikePairs wsX4_alikeBefore := goodIn_r _ [6, 7, 8, 9, 5, 10, 11, 12, 13, 14, 15, 16, 17, 18, 19, 1, 20, 21, 22, 23, 24, 25, 26, 27, 28] (by decide +kernel) (by decide +kernel)
set_option maxRecDepth 20000 in
theorem gX4_alikePairs_X4_alikeBefore : GoodIn wsX4_alikePairs (wsV RX4 43 RX4 yX4_alikeBefore wsX4_alikeBefore) := goodIn_app (goodIn_of _ (by decide +kernel)) ggX4_alikePairs_X4_alikeBefore
theorem dX4_alikePairs_0 : decode cX4_alikePairs 0 = .ok (.iconst 0, 1) := by decide +kernel
theorem dX4_alikePairs_1 : decode cX4_alikePairs 1 = .ok (.istore_n 1, 1) := by decide +kernel
theorem dX4_alikePairs_2 : decode cX4_alikePairs 2 = .ok (.iconst 0, 1) := by decide +kernel
theorem dX4_alikePairs_3 : decode cX4_alikePairs 3 = .ok (.istore_n 2, 1) := by decide +kernel
theorem dX4_alikePairs_4 : decode cX4_alikePairs 4 = .ok (.iload_n 2, 1) := by decide +kernel
theorem dX4_alikePairs_5 : decode cX4_alikePairs 5 = .ok (.aload_n 0, 1) := by decide +kernel
theorem dX4_alikePairs_6 : decode cX4_alikePairs 6 = .ok (.getfield 36, 3) := by decide +kernel
theorem dX4_alikePairs_9 : decode cX4_alikePairs 9 = .ok (.if_icmp .ge 17, 3) := by decide +kernel
theorem dX4_alikePairs_12 : decode cX4_alikePairs 12 = .ok (.iload_n 1, 1) := by decide +kernel
theorem dX4_alikePairs_13 : decode cX4_alikePairs 13 = .ok (.aload_n 0, 1) := by decide +kernel
theorem dX4_alikePairs_14 : decode cX4_alikePairs 14 = .ok (.iload_n 2, 1) := by decide +kernel
theorem dX4_alikePairs_15 : decode cX4_alikePairs 15 = .ok (.invokevirtual 43, 3) := by decide +kernel
theorem dX4_alikePairs_18 : decode cX4_alikePairs 18 = .ok (.iadd, 1) := by decide +kernel
theorem dX4_alikePairs_19 : decode cX4_alikePairs 19 = .ok (.istore_n 1, 1) := by decide +kernel
theorem dX4_alikePairs_20 : decode cX4_alikePairs 20 = .ok (.iinc 2 1, 3) := by decide +kernel
theorem dX4_alikePairs_23 : decode cX4_alikePairs 23 = .ok (.goto (-19), 3) := by decide +kernel
theorem dX4_alikePairs_26 : decode cX4_alikePairs 26 = .ok (.iload_n 1, 1) := by decide +kernel
theorem dX4_alikePairs_27 : decode cX4_alikePairs 27 = .ok (.ireturn, 1) := by decide +kernel
set_option maxRecDepth 20000 in
theorem ggX4_inversions_X4_greaterBefore : GoodIn wsX4_inversions wsX4_greaterBefore := goodIn_r _ [6, 7, 8, 9, 5, 10, 11, 12, 13, 14, 15, 16, 17, 18, 19, 1, 20, 21, 22, 23, 24, 25, 26, 27, 28] (by decide +kernel) (by decide +kernel)
set_option maxRecDepth 20000 in
theorem gX4_inversions_X4_greaterBefore : GoodIn wsX4_inversions (wsV RX4 65 RX4 yX4_greaterBefore wsX4_greaterBefore) := goodIn_app (goodIn_of _ (by decide +kernel)) ggX4_inversions_X4_greaterBefore
theorem dX4_inversions_0 : decode cX4_inversions 0 = .ok (.iconst 0, 1) := by decide +kernel
theorem dX4_inversions_1 : decode cX4_inversions 1 = .ok (.istore_n 1, 1) := by decide +kernel
theorem dX4_inversions_2 : decode cX4_inversions 2 = .ok (.iconst 0, 1) := by decide +kernel
theorem dX4_inversions_3 : decode cX4_inversions 3 = .ok (.istore_n 2, 1) := by decide +kernel
theorem dX4_inversions_4 : decode cX4_inversions 4 = .ok (.iload_n 2, 1) := by decide +kernel
theorem dX4_inversions_5 : decode cX4_inversions 5 = .ok (.aload_n 0, 1) := by decide +kernel
theorem dX4_inversions_6 : decode cX4_inversions 6 = .ok (.getfield 36, 3) := by decide +kernel
theorem dX4_inversions_9 : decode cX4_inversions 9 = .ok (.if_icmp .ge 17, 3) := by decide +kernel
theorem dX4_inversions_12 : decode cX4_inversions 12 = .ok (.iload_n 1, 1) := by decide +kernel
theorem dX4_inversions_13 : decode cX4_inversions 13 = .ok (.aload_n 0, 1) := by decide +kernel
theorem dX4_inversions_14 : decode cX4_inversions 14 = .ok (.iload_n 2, 1) := by decide +kernel
theorem dX4_inversions_15 : decode cX4_inversions 15 = .ok (.invokevirtual 65, 3) := by decide +kernel
theorem dX4_inversions_18 : decode cX4_inversions 18 = .ok (.iadd, 1) := by decide +kernel
theorem dX4_inversions_19 : decode cX4_inversions 19 = .ok (.istore_n 1, 1) := by decide +kernel
theorem dX4_inversions_20 : decode cX4_inversions 20 = .ok (.iinc 2 1, 3) := by decide +kernel
theorem dX4_inversions_23 : decode cX4_inversions 23 = .ok (.goto (-19), 3) := by decide +kernel
theorem dX4_inversions_26 : decode cX4_inversions 26 = .ok (.iload_n 1, 1) := by decide +kernel
theorem dX4_inversions_27 : decode cX4_inversions 27 = .ok (.ireturn, 1) := by decide +kernel
set_option maxRecDepth 20000 in
theorem ggX4_sections_X4_compareByRank : GoodIn wsX4_sections wsX4_compareByRank := goodIn_r _ [6, 7, 8, 9, 5, 10, 11, 12, 13, 14, 15, 1, 16, 17, 18, 19, 20, 21, 22, 23, 24] (by decide +kernel) (by decide +kernel)
set_option maxRecDepth 20000 in
theorem gX4_sections_X4_compareByRank : GoodIn wsX4_sections (wsV RX4 59 RX4 yX4_compareByRank wsX4_compareByRank) := goodIn_app (goodIn_of _ (by decide +kernel)) ggX4_sections_X4_compareByRank
theorem dX4_sections_0 : decode cX4_sections 0 = .ok (.aload_n 0, 1) := by decide +kernel
theorem dX4_sections_1 : decode cX4_sections 1 = .ok (.getfield 36, 3) := by decide +kernel
theorem dX4_sections_4 : decode cX4_sections 4 = .ok (.ifCond .le 7, 3) := by decide +kernel
theorem dX4_sections_7 : decode cX4_sections 7 = .ok (.iconst 1, 1) := by decide +kernel
theorem dX4_sections_8 : decode cX4_sections 8 = .ok (.goto 4, 3) := by decide +kernel
theorem dX4_sections_11 : decode cX4_sections 11 = .ok (.iconst 0, 1) := by decide +kernel
theorem dX4_sections_12 : decode cX4_sections 12 = .ok (.istore_n 1, 1) := by decide +kernel
theorem dX4_sections_13 : decode cX4_sections 13 = .ok (.iconst 1, 1) := by decide +kernel
theorem dX4_sections_14 : decode cX4_sections 14 = .ok (.istore_n 2, 1) := by decide +kernel
theorem dX4_sections_15 : decode cX4_sections 15 = .ok (.iload_n 2, 1) := by decide +kernel
theorem dX4_sections_16 : decode cX4_sections 16 = .ok (.aload_n 0, 1) := by decide +kernel
theorem dX4_sections_17 : decode cX4_sections 17 = .ok (.getfield 36, 3) := by decide +kernel
theorem dX4_sections_20 : decode cX4_sections 20 = .ok (.if_icmp .ge 23, 3) := by decide +kernel
theorem dX4_sections_23 : decode cX4_sections 23 = .ok (.aload_n 0, 1) := by decide +kernel
theorem dX4_sections_24 : decode cX4_sections 24 = .ok (.iload_n 2, 1) := by decide +kernel
theorem dX4_sections_25 : decode cX4_sections 25 = .ok (.iload_n 2, 1) := by decide +kernel
theorem dX4_sections_26 : decode cX4_sections 26 = .ok (.iconst 1, 1) := by decide +kernel
theorem dX4_sections_27 : decode cX4_sections 27 = .ok (.isub, 1) := by decide +kernel
theorem dX4_sections_28 : decode cX4_sections 28 = .ok (.invokevirtual 59, 3) := by decide +kernel
theorem dX4_sections_31 : decode cX4_sections 31 = .ok (.ifCond .ge 6, 3) := by decide +kernel
theorem dX4_sections_34 : decode cX4_sections 34 = .ok (.iinc 1 1, 3) := by decide +kernel
theorem dX4_sections_37 : decode cX4_sections 37 = .ok (.iinc 2 1, 3) := by decide +kernel
theorem dX4_sections_40 : decode cX4_sections 40 = .ok (.goto (-25), 3) := by decide +kernel
theorem dX4_sections_43 : decode cX4_sections 43 = .ok (.iload_n 1, 1) := by decide +kernel
theorem dX4_sections_44 : decode cX4_sections 44 = .ok (.ireturn, 1) := by decide +kernel
set_option maxRecDepth 20000 in
theorem ggX4_longestSorted_X4_compareByRank : GoodIn wsX4_longestSorted wsX4_compareByRank := goodIn_r _ [11, 12, 13, 14, 10, 15, 16, 17, 18, 19, 20, 1, 21, 22, 23, 24, 25, 26, 27, 28, 29] (by decide +kernel) (by decide +kernel)
set_option maxRecDepth 20000 in
theorem gX4_longestSorted_X4_compareByRank : GoodIn wsX4_longestSorted (wsV RX4 59 RX4 yX4_compareByRank wsX4_compareByRank) := goodIn_app (goodIn_of _ (by decide +kernel)) ggX4_longestSorted_X4_compareByRank
theorem dX4_longestSorted_0 : decode cX4_longestSorted 0 = .ok (.iconst 0, 1) := by decide +kernel
theorem dX4_longestSorted_1 : decode cX4_longestSorted 1 = .ok (.istore_n 1, 1) := by decide +kernel
theorem dX4_longestSorted_2 : decode cX4_longestSorted 2 = .ok (.iconst 0, 1) := by decide +kernel
theorem dX4_longestSorted_3 : decode cX4_longestSorted 3 = .ok (.istore_n 2, 1) := by decide +kernel
theorem dX4_longestSorted_4 : decode cX4_longestSorted 4 = .ok (.iload_n 2, 1) := by decide +kernel
theorem dX4_longestSorted_5 : decode cX4_longestSorted 5 = .ok (.aload_n 0, 1) := by decide +kernel
theorem dX4_longestSorted_6 : decode cX4_longestSorted 6 = .ok (.getfield 36, 3) := by decide +kernel
theorem dX4_longestSorted_9 : decode cX4_longestSorted 9 = .ok (.if_icmp .ge 78, 3) := by decide +kernel
theorem dX4_longestSorted_12 : decode cX4_longestSorted 12 = .ok (.iload_n 2, 1) := by decide +kernel
theorem dX4_longestSorted_13 : decode cX4_longestSorted 13 = .ok (.bipush 12, 2) := by decide +kernel
theorem dX4_longestSorted_15 : decode cX4_longestSorted 15 = .ok (.if_icmp .ge 72, 3) := by decide +kernel
theorem dX4_longestSorted_18 : decode cX4_longestSorted 18 = .ok (.aload_n 0, 1) := by decide +kernel
theorem dX4_longestSorted_19 : decode cX4_longestSorted 19 = .ok (.getfield 21, 3) := by decide +kernel
theorem dX4_longestSorted_22 : decode cX4_longestSorted 22 = .ok (.iload_n 2, 1) := by decide +kernel
theorem dX4_longestSorted_23 : decode cX4_longestSorted 23 = .ok (.iconst 1, 1) := by decide +kernel
theorem dX4_longestSorted_24 : decode cX4_longestSorted 24 = .ok (.iastore, 1) := by decide +kernel
theorem dX4_longestSorted_25 : decode cX4_longestSorted 25 = .ok (.iconst 0, 1) := by decide +kernel
theorem dX4_longestSorted_26 : decode cX4_longestSorted 26 = .ok (.istore_n 3, 1) := by decide +kernel
theorem dX4_longestSorted_27 : decode cX4_longestSorted 27 = .ok (.iload_n 3, 1) := by decide +kernel
theorem dX4_longestSorted_28 : decode cX4_longestSorted 28 = .ok (.iload_n 2, 1) := by decide +kernel
theorem dX4_longestSorted_29 : decode cX4_longestSorted 29 = .ok (.if_icmp .ge 41, 3) := by decide +kernel
theorem dX4_longestSorted_32 : decode cX4_longestSorted 32 = .ok (.aload_n 0, 1) := by decide +kernel
theorem dX4_longestSorted_33 : decode cX4_longestSorted 33 = .ok (.iload_n 2, 1) := by decide +kernel
theorem dX4_longestSorted_34 : decode cX4_longestSorted 34 = .ok (.iload_n 3, 1) := by decide +kernel
theorem dX4_longestSorted_35 : decode cX4_longestSorted 35 = .ok (.invokevirtual 59, 3) := by decide +kernel
theorem dX4_longestSorted_38 : decode cX4_longestSorted 38 = .ok (.ifCond .lt 26, 3) := by decide +kernel
theorem dX4_longestSorted_41 : decode cX4_longestSorted 41 = .ok (.aload_n 0, 1) := by decide +kernel
theorem dX4_longestSorted_42 : decode cX4_longestSorted 42 = .ok (.getfield 21, 3) := by decide +kernel
theorem dX4_longestSorted_45 : decode cX4_longestSorted 45 = .ok (.iload_n 2, 1) := by decide +kernel
theorem dX4_longestSorted_46 : decode cX4_longestSorted 46 = .ok (.aload_n 0, 1) := by decide +kernel
theorem dX4_longestSorted_47 : decode cX4_longestSorted 47 = .ok (.getfield 21, 3) := by decide +kernel
theorem dX4_longestSorted_50 : decode cX4_longestSorted 50 = .ok (.iload_n 2, 1) := by decide +kernel
theorem dX4_longestSorted_51 : decode cX4_longestSorted 51 = .ok (.iaload, 1) := by decide +kernel
theorem dX4_longestSorted_52 : decode cX4_longestSorted 52 = .ok (.aload_n 0, 1) := by decide +kernel
theorem dX4_longestSorted_53 : decode cX4_longestSorted 53 = .ok (.getfield 21, 3) := by decide +kernel
theorem dX4_longestSorted_56 : decode cX4_longestSorted 56 = .ok (.iload_n 3, 1) := by decide +kernel
theorem dX4_longestSorted_57 : decode cX4_longestSorted 57 = .ok (.iaload, 1) := by decide +kernel
theorem dX4_longestSorted_58 : decode cX4_longestSorted 58 = .ok (.iconst 1, 1) := by decide +kernel
theorem dX4_longestSorted_59 : decode cX4_longestSorted 59 = .ok (.iadd, 1) := by decide +kernel
theorem dX4_longestSorted_60 : decode cX4_longestSorted 60 = .ok (.invokestatic 68, 3) := by decide +kernel
theorem dX4_longestSorted_63 : decode cX4_longestSorted 63 = .ok (.iastore, 1) := by decide +kernel
theorem dX4_longestSorted_64 : decode cX4_longestSorted 64 = .ok (.iinc 3 1, 3) := by decide +kernel
theorem dX4_longestSorted_67 : decode cX4_longestSorted 67 = .ok (.goto (-40), 3) := by decide +kernel
theorem dX4_longestSorted_70 : decode cX4_longestSorted 70 = .ok (.iload_n 1, 1) := by decide +kernel
theorem dX4_longestSorted_71 : decode cX4_longestSorted 71 = .ok (.aload_n 0, 1) := by decide +kernel
theorem dX4_longestSorted_72 : decode cX4_longestSorted 72 = .ok (.getfield 21, 3) := by decide +kernel
theorem dX4_longestSorted_75 : decode cX4_longestSorted 75 = .ok (.iload_n 2, 1) := by decide +kernel
theorem dX4_longestSorted_76 : decode cX4_longestSorted 76 = .ok (.iaload, 1) := by decide +kernel
theorem dX4_longestSorted_77 : decode cX4_longestSorted 77 = .ok (.invokestatic 68, 3) := by decide +kernel
theorem dX4_longestSorted_80 : decode cX4_longestSorted 80 = .ok (.istore_n 1, 1) := by decide +kernel
theorem dX4_longestSorted_81 : decode cX4_longestSorted 81 = .ok (.iinc 2 1, 3) := by decide +kernel
theorem dX4_longestSorted_84 : decode cX4_longestSorted 84 = .ok (.goto (-80), 3) := by decide +kernel
theorem dX4_longestSorted_87 : decode cX4_longestSorted 87 = .ok (.iload_n 1, 1) := by decide +kernel
theorem dX4_longestSorted_88 : decode cX4_longestSorted 88 = .ok (.ireturn, 1) := by decide +kernel
set_option maxRecDepth 20000 in
theorem ggX4_exchanges_X4_positionOf : GoodIn wsX4_exchanges wsX4_positionOf := goodIn_r _ [6, 7, 8, 9, 10, 5, 11, 1, 12, 13, 14, 15, 16] (by decide +kernel) (by decide +kernel)
set_option maxRecDepth 20000 in
theorem gX4_exchanges_X4_positionOf : GoodIn wsX4_exchanges (wsV RX4 62 RX4 yX4_positionOf wsX4_positionOf) := goodIn_app (goodIn_of _ (by decide +kernel)) ggX4_exchanges_X4_positionOf
theorem dX4_exchanges_0 : decode cX4_exchanges 0 = .ok (.iconst 0, 1) := by decide +kernel
theorem dX4_exchanges_1 : decode cX4_exchanges 1 = .ok (.istore_n 1, 1) := by decide +kernel
theorem dX4_exchanges_2 : decode cX4_exchanges 2 = .ok (.iconst 0, 1) := by decide +kernel
theorem dX4_exchanges_3 : decode cX4_exchanges 3 = .ok (.istore_n 2, 1) := by decide +kernel
theorem dX4_exchanges_4 : decode cX4_exchanges 4 = .ok (.iconst 0, 1) := by decide +kernel
theorem dX4_exchanges_5 : decode cX4_exchanges 5 = .ok (.istore_n 3, 1) := by decide +kernel
theorem dX4_exchanges_6 : decode cX4_exchanges 6 = .ok (.iload_n 3, 1) := by decide +kernel
theorem dX4_exchanges_7 : decode cX4_exchanges 7 = .ok (.aload_n 0, 1) := by decide +kernel
theorem dX4_exchanges_8 : decode cX4_exchanges 8 = .ok (.getfield 36, 3) := by decide +kernel
theorem dX4_exchanges_11 : decode cX4_exchanges 11 = .ok (.if_icmp .ge 68, 3) := by decide +kernel
theorem dX4_exchanges_14 : decode cX4_exchanges 14 = .ok (.iload_n 3, 1) := by decide +kernel
theorem dX4_exchanges_15 : decode cX4_exchanges 15 = .ok (.istore 4, 2) := by decide +kernel
theorem dX4_exchanges_17 : decode cX4_exchanges 17 = .ok (.iconst 0, 1) := by decide +kernel
theorem dX4_exchanges_18 : decode cX4_exchanges 18 = .ok (.istore 5, 2) := by decide +kernel
theorem dX4_exchanges_20 : decode cX4_exchanges 20 = .ok (.iload 5, 2) := by decide +kernel
theorem dX4_exchanges_22 : decode cX4_exchanges 22 = .ok (.aload_n 0, 1) := by decide +kernel
theorem dX4_exchanges_23 : decode cX4_exchanges 23 = .ok (.getfield 36, 3) := by decide +kernel
theorem dX4_exchanges_26 : decode cX4_exchanges 26 = .ok (.if_icmp .ge 47, 3) := by decide +kernel
theorem dX4_exchanges_29 : decode cX4_exchanges 29 = .ok (.iload_n 2, 1) := by decide +kernel
theorem dX4_exchanges_30 : decode cX4_exchanges 30 = .ok (.iload 4, 2) := by decide +kernel
theorem dX4_exchanges_32 : decode cX4_exchanges 32 = .ok (.ishr, 1) := by decide +kernel
theorem dX4_exchanges_33 : decode cX4_exchanges 33 = .ok (.iconst 1, 1) := by decide +kernel
theorem dX4_exchanges_34 : decode cX4_exchanges 34 = .ok (.iand, 1) := by decide +kernel
theorem dX4_exchanges_35 : decode cX4_exchanges 35 = .ok (.ifCond .ne 38, 3) := by decide +kernel
theorem dX4_exchanges_38 : decode cX4_exchanges 38 = .ok (.iload_n 2, 1) := by decide +kernel
theorem dX4_exchanges_39 : decode cX4_exchanges 39 = .ok (.iconst 1, 1) := by decide +kernel
theorem dX4_exchanges_40 : decode cX4_exchanges 40 = .ok (.iload 4, 2) := by decide +kernel
theorem dX4_exchanges_42 : decode cX4_exchanges 42 = .ok (.ishl, 1) := by decide +kernel
theorem dX4_exchanges_43 : decode cX4_exchanges 43 = .ok (.ior, 1) := by decide +kernel
theorem dX4_exchanges_44 : decode cX4_exchanges 44 = .ok (.istore_n 2, 1) := by decide +kernel
theorem dX4_exchanges_45 : decode cX4_exchanges 45 = .ok (.aload_n 0, 1) := by decide +kernel
theorem dX4_exchanges_46 : decode cX4_exchanges 46 = .ok (.iload 4, 2) := by decide +kernel
theorem dX4_exchanges_48 : decode cX4_exchanges 48 = .ok (.invokevirtual 62, 3) := by decide +kernel
theorem dX4_exchanges_51 : decode cX4_exchanges 51 = .ok (.istore 4, 2) := by decide +kernel
theorem dX4_exchanges_53 : decode cX4_exchanges 53 = .ok (.iload_n 1, 1) := by decide +kernel
theorem dX4_exchanges_54 : decode cX4_exchanges 54 = .ok (.iload 4, 2) := by decide +kernel
theorem dX4_exchanges_56 : decode cX4_exchanges 56 = .ok (.iload_n 3, 1) := by decide +kernel
theorem dX4_exchanges_57 : decode cX4_exchanges 57 = .ok (.if_icmp .ne 7, 3) := by decide +kernel
theorem dX4_exchanges_60 : decode cX4_exchanges 60 = .ok (.iconst 0, 1) := by decide +kernel
theorem dX4_exchanges_61 : decode cX4_exchanges 61 = .ok (.goto 4, 3) := by decide +kernel
theorem dX4_exchanges_64 : decode cX4_exchanges 64 = .ok (.iconst 1, 1) := by decide +kernel
theorem dX4_exchanges_65 : decode cX4_exchanges 65 = .ok (.iadd, 1) := by decide +kernel
theorem dX4_exchanges_66 : decode cX4_exchanges 66 = .ok (.istore_n 1, 1) := by decide +kernel
theorem dX4_exchanges_67 : decode cX4_exchanges 67 = .ok (.iinc 5 1, 3) := by decide +kernel
theorem dX4_exchanges_70 : decode cX4_exchanges 70 = .ok (.goto (-50), 3) := by decide +kernel
theorem dX4_exchanges_73 : decode cX4_exchanges 73 = .ok (.iinc 3 1, 3) := by decide +kernel
theorem dX4_exchanges_76 : decode cX4_exchanges 76 = .ok (.goto (-70), 3) := by decide +kernel
theorem dX4_exchanges_79 : decode cX4_exchanges 79 = .ok (.iload_n 1, 1) := by decide +kernel
theorem dX4_exchanges_80 : decode cX4_exchanges 80 = .ok (.ireturn, 1) := by decide +kernel
set_option maxRecDepth 20000 in
theorem ggX4_bubblePasses_X4_greaterBefore : GoodIn wsX4_bubblePasses wsX4_greaterBefore := goodIn_r _ [10, 11, 12, 13, 9, 14, 15, 16, 17, 18, 19, 20, 21, 22, 23, 1, 24, 25, 26, 27, 28, 29, 30, 31, 32] (by decide +kernel) (by decide +kernel)
set_option maxRecDepth 20000 in
theorem gX4_bubblePasses_X4_greaterBefore : GoodIn wsX4_bubblePasses (wsV RX4 65 RX4 yX4_greaterBefore wsX4_greaterBefore) := goodIn_app (goodIn_of _ (by decide +kernel)) ggX4_bubblePasses_X4_greaterBefore
theorem dX4_bubblePasses_0 : decode cX4_bubblePasses 0 = .ok (.iconst 0, 1) := by decide +kernel
theorem dX4_bubblePasses_1 : decode cX4_bubblePasses 1 = .ok (.istore_n 1, 1) := by decide +kernel
theorem dX4_bubblePasses_2 : decode cX4_bubblePasses 2 = .ok (.iconst 0, 1) := by decide +kernel
theorem dX4_bubblePasses_3 : decode cX4_bubblePasses 3 = .ok (.istore_n 2, 1) := by decide +kernel
theorem dX4_bubblePasses_4 : decode cX4_bubblePasses 4 = .ok (.iload_n 2, 1) := by decide +kernel
theorem dX4_bubblePasses_5 : decode cX4_bubblePasses 5 = .ok (.aload_n 0, 1) := by decide +kernel
theorem dX4_bubblePasses_6 : decode cX4_bubblePasses 6 = .ok (.getfield 36, 3) := by decide +kernel
theorem dX4_bubblePasses_9 : decode cX4_bubblePasses 9 = .ok (.if_icmp .ge 19, 3) := by decide +kernel
theorem dX4_bubblePasses_12 : decode cX4_bubblePasses 12 = .ok (.iload_n 1, 1) := by decide +kernel
theorem dX4_bubblePasses_13 : decode cX4_bubblePasses 13 = .ok (.aload_n 0, 1) := by decide +kernel
theorem dX4_bubblePasses_14 : decode cX4_bubblePasses 14 = .ok (.iload_n 2, 1) := by decide +kernel
theorem dX4_bubblePasses_15 : decode cX4_bubblePasses 15 = .ok (.invokevirtual 65, 3) := by decide +kernel
theorem dX4_bubblePasses_18 : decode cX4_bubblePasses 18 = .ok (.invokestatic 68, 3) := by decide +kernel
theorem dX4_bubblePasses_21 : decode cX4_bubblePasses 21 = .ok (.istore_n 1, 1) := by decide +kernel
theorem dX4_bubblePasses_22 : decode cX4_bubblePasses 22 = .ok (.iinc 2 1, 3) := by decide +kernel
theorem dX4_bubblePasses_25 : decode cX4_bubblePasses 25 = .ok (.goto (-21), 3) := by decide +kernel
theorem dX4_bubblePasses_28 : decode cX4_bubblePasses 28 = .ok (.iload_n 1, 1) := by decide +kernel
theorem dX4_bubblePasses_29 : decode cX4_bubblePasses 29 = .ok (.ireturn, 1) := by decide +kernel
set_option maxRecDepth 20000 in
theorem ggX4_greaterBefore_X4_compareByRank : GoodIn wsX4_greaterBefore wsX4_compareByRank := goodIn_r _ [5, 6, 7, 8, 4, 9, 10, 11, 12, 13, 14, 15, 16, 17, 18, 19, 20, 21, 22, 23, 24] (by decide +kernel) (by decide +kernel)
set_option maxRecDepth 20000 in
theorem gX4_greaterBefore_X4_compareByRank : GoodIn wsX4_greaterBefore (wsV RX4 59 RX4 yX4_compareByRank wsX4_compareByRank) := goodIn_app (goodIn_of _ (by decide +kernel)) ggX4_greaterBefore_X4_compareByRank
theorem dX4_greaterBefore_0 : decode cX4_greaterBefore 0 = .ok (.iconst 0, 1) := by decide +kernel
theorem dX4_greaterBefore_1 : decode cX4_greaterBefore 1 = .ok (.istore_n 2, 1) := by decide +kernel
theorem dX4_greaterBefore_2 : decode cX4_greaterBefore 2 = .ok (.iconst 0, 1) := by decide +kernel
theorem dX4_greaterBefore_3 : decode cX4_greaterBefore 3 = .ok (.istore_n 3, 1) := by decide +kernel
theorem dX4_greaterBefore_4 : decode cX4_greaterBefore 4 = .ok (.iload_n 3, 1) := by decide +kernel
theorem dX4_greaterBefore_5 : decode cX4_greaterBefore 5 = .ok (.iload_n 1, 1) := by decide +kernel
theorem dX4_greaterBefore_6 : decode cX4_greaterBefore 6 = .ok (.if_icmp .ge 21, 3) := by decide +kernel
theorem dX4_greaterBefore_9 : decode cX4_greaterBefore 9 = .ok (.aload_n 0, 1) := by decide +kernel
theorem dX4_greaterBefore_10 : decode cX4_greaterBefore 10 = .ok (.iload_n 1, 1) := by decide +kernel
theorem dX4_greaterBefore_11 : decode cX4_greaterBefore 11 = .ok (.iload_n 3, 1) := by decide +kernel
theorem dX4_greaterBefore_12 : decode cX4_greaterBefore 12 = .ok (.invokevirtual 59, 3) := by decide +kernel
theorem dX4_greaterBefore_15 : decode cX4_greaterBefore 15 = .ok (.ifCond .ge 6, 3) := by decide +kernel
theorem dX4_greaterBefore_18 : decode cX4_greaterBefore 18 = .ok (.iinc 2 1, 3) := by decide +kernel
theorem dX4_greaterBefore_21 : decode cX4_greaterBefore 21 = .ok (.iinc 3 1, 3) := by decide +kernel
theorem dX4_greaterBefore_24 : decode cX4_greaterBefore 24 = .ok (.goto (-20), 3) := by decide +kernel
theorem dX4_greaterBefore_27 : decode cX4_greaterBefore 27 = .ok (.iload_n 2, 1) := by decide +kernel
theorem dX4_greaterBefore_28 : decode cX4_greaterBefore 28 = .ok (.ireturn, 1) := by decide +kernel
