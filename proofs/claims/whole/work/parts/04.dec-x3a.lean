theorem dX3_init_0 : decode cX3_init 0 = .ok (.aload_n 0, 1) := by decide +kernel
theorem dX3_init_1 : decode cX3_init 1 = .ok (.invokespecial 1, 3) := by decide +kernel
theorem dX3_init_4 : decode cX3_init 4 = .ok (.aload_n 0, 1) := by decide +kernel
theorem dX3_init_5 : decode cX3_init 5 = .ok (.bipush 10, 2) := by decide +kernel
theorem dX3_init_7 : decode cX3_init 7 = .ok (.putfield 7, 3) := by decide +kernel
theorem dX3_init_10 : decode cX3_init 10 = .ok (.aload_n 0, 1) := by decide +kernel
theorem dX3_init_11 : decode cX3_init 11 = .ok (.bipush 40, 2) := by decide +kernel
theorem dX3_init_13 : decode cX3_init 13 = .ok (.newarray .int, 2) := by decide +kernel
theorem dX3_init_15 : decode cX3_init 15 = .ok (.putfield 13, 3) := by decide +kernel
theorem dX3_init_18 : decode cX3_init 18 = .ok (.aload_n 0, 1) := by decide +kernel
theorem dX3_init_19 : decode cX3_init 19 = .ok (.bipush 40, 2) := by decide +kernel
theorem dX3_init_21 : decode cX3_init 21 = .ok (.newarray .int, 2) := by decide +kernel
theorem dX3_init_23 : decode cX3_init 23 = .ok (.putfield 17, 3) := by decide +kernel
theorem dX3_init_26 : decode cX3_init 26 = .ok (.aload_n 0, 1) := by decide +kernel
theorem dX3_init_27 : decode cX3_init 27 = .ok (.bipush 40, 2) := by decide +kernel
theorem dX3_init_29 : decode cX3_init 29 = .ok (.newarray .int, 2) := by decide +kernel
theorem dX3_init_31 : decode cX3_init 31 = .ok (.putfield 20, 3) := by decide +kernel
theorem dX3_init_34 : decode cX3_init 34 = .ok (.aload_n 0, 1) := by decide +kernel
theorem dX3_init_35 : decode cX3_init 35 = .ok (.iconst 3, 1) := by decide +kernel
theorem dX3_init_36 : decode cX3_init 36 = .ok (.putfield 23, 3) := by decide +kernel
theorem dX3_init_39 : decode cX3_init 39 = .ok (.aload_n 0, 1) := by decide +kernel
theorem dX3_init_40 : decode cX3_init 40 = .ok (.iconst 1, 1) := by decide +kernel
theorem dX3_init_41 : decode cX3_init 41 = .ok (.putfield 26, 3) := by decide +kernel
theorem dX3_init_44 : decode cX3_init 44 = .ok (.aload_n 0, 1) := by decide +kernel
theorem dX3_init_45 : decode cX3_init 45 = .ok (.bipush 8, 2) := by decide +kernel
theorem dX3_init_47 : decode cX3_init 47 = .ok (.newarray .int, 2) := by decide +kernel
theorem dX3_init_49 : decode cX3_init 49 = .ok (.putfield 29, 3) := by decide +kernel
theorem dX3_init_52 : decode cX3_init 52 = .ok (.aload_n 0, 1) := by decide +kernel
theorem dX3_init_53 : decode cX3_init 53 = .ok (.sipush 200, 3) := by decide +kernel
theorem dX3_init_56 : decode cX3_init 56 = .ok (.newarray .int, 2) := by decide +kernel
theorem dX3_init_58 : decode cX3_init 58 = .ok (.putfield 32, 3) := by decide +kernel
theorem dX3_init_61 : decode cX3_init 61 = .ok (.aload_n 0, 1) := by decide +kernel
theorem dX3_init_62 : decode cX3_init 62 = .ok (.sipush 200, 3) := by decide +kernel
theorem dX3_init_65 : decode cX3_init 65 = .ok (.newarray .int, 2) := by decide +kernel
theorem dX3_init_67 : decode cX3_init 67 = .ok (.putfield 35, 3) := by decide +kernel
theorem dX3_init_70 : decode cX3_init 70 = .ok (.aload_n 0, 1) := by decide +kernel
theorem dX3_init_71 : decode cX3_init 71 = .ok (.bipush 20, 2) := by decide +kernel
theorem dX3_init_73 : decode cX3_init 73 = .ok (.newarray .int, 2) := by decide +kernel
theorem dX3_init_75 : decode cX3_init 75 = .ok (.putfield 38, 3) := by decide +kernel
theorem dX3_init_78 : decode cX3_init 78 = .ok (.aload_n 0, 1) := by decide +kernel
theorem dX3_init_79 : decode cX3_init 79 = .ok (.bipush 13, 2) := by decide +kernel
theorem dX3_init_81 : decode cX3_init 81 = .ok (.newarray .int, 2) := by decide +kernel
theorem dX3_init_83 : decode cX3_init 83 = .ok (.putfield 41, 3) := by decide +kernel
theorem dX3_init_86 : decode cX3_init 86 = .ok (.aload_n 0, 1) := by decide +kernel
theorem dX3_init_87 : decode cX3_init 87 = .ok (.bipush 13, 2) := by decide +kernel
theorem dX3_init_89 : decode cX3_init 89 = .ok (.newarray .int, 2) := by decide +kernel
theorem dX3_init_91 : decode cX3_init 91 = .ok (.putfield 44, 3) := by decide +kernel
theorem dX3_init_94 : decode cX3_init 94 = .ok (.aload_n 0, 1) := by decide +kernel
theorem dX3_init_95 : decode cX3_init 95 = .ok (.getfield 29, 3) := by decide +kernel
theorem dX3_init_98 : decode cX3_init 98 = .ok (.iconst 0, 1) := by decide +kernel
theorem dX3_init_99 : decode cX3_init 99 = .ok (.iconst 3, 1) := by decide +kernel
theorem dX3_init_100 : decode cX3_init 100 = .ok (.iastore, 1) := by decide +kernel
theorem dX3_init_101 : decode cX3_init 101 = .ok (.aload_n 0, 1) := by decide +kernel
theorem dX3_init_102 : decode cX3_init 102 = .ok (.bipush 10, 2) := by decide +kernel
theorem dX3_init_104 : decode cX3_init 104 = .ok (.invokevirtual 47, 3) := by decide +kernel
theorem dX3_init_107 : decode cX3_init 107 = .ok (.return_, 1) := by decide +kernel
theorem dX3_in_0 : decode cX3_in 0 = .ok (.lload_n 0, 1) := by decide +kernel
theorem dX3_in_1 : decode cX3_in 1 = .ok (.lload_n 2, 1) := by decide +kernel
theorem dX3_in_2 : decode cX3_in 2 = .ok (.lcmp, 1) := by decide +kernel
theorem dX3_in_3 : decode cX3_in 3 = .ok (.ifCond .lt 14, 3) := by decide +kernel
theorem dX3_in_6 : decode cX3_in 6 = .ok (.lload_n 0, 1) := by decide +kernel
theorem dX3_in_7 : decode cX3_in 7 = .ok (.lload 4, 2) := by decide +kernel
theorem dX3_in_9 : decode cX3_in 9 = .ok (.lcmp, 1) := by decide +kernel
theorem dX3_in_10 : decode cX3_in 10 = .ok (.ifCond .gt 7, 3) := by decide +kernel
theorem dX3_in_13 : decode cX3_in 13 = .ok (.iconst 1, 1) := by decide +kernel
theorem dX3_in_14 : decode cX3_in 14 = .ok (.goto 4, 3) := by decide +kernel
theorem dX3_in_17 : decode cX3_in 17 = .ok (.iconst 0, 1) := by decide +kernel
theorem dX3_in_18 : decode cX3_in 18 = .ok (.ireturn, 1) := by decide +kernel
set_option maxRecDepth 20000 in
theorem ggX3_isGreat_X3_in : GoodIn wsX3_isGreat wsX3_in := goodIn_r _ [6] (by decide +kernel) (by decide +kernel)
set_option maxRecDepth 20000 in
theorem gX3_isGreat_X3_in : GoodIn wsX3_isGreat (va_wsS RX3 56 yX3_in wsX3_in) := goodIn_app (goodIn_of _ (by decide +kernel)) ggX3_isGreat_X3_in
theorem dX3_isGreat_0 : decode cX3_isGreat 0 = .ok (.lload_n 0, 1) := by decide +kernel
theorem dX3_isGreat_1 : decode cX3_isGreat 1 = .ok (.lconst 1, 1) := by decide +kernel
theorem dX3_isGreat_2 : decode cX3_isGreat 2 = .ok (.ldc2_w 54, 3) := by decide +kernel
theorem dX3_isGreat_5 : decode cX3_isGreat 5 = .ok (.invokestatic 56, 3) := by decide +kernel
theorem dX3_isGreat_8 : decode cX3_isGreat 8 = .ok (.ifCond .eq 19, 3) := by decide +kernel
theorem dX3_isGreat_11 : decode cX3_isGreat 11 = .ok (.iload_n 2, 1) := by decide +kernel
theorem dX3_isGreat_12 : decode cX3_isGreat 12 = .ok (.i2l, 1) := by decide +kernel
theorem dX3_isGreat_13 : decode cX3_isGreat 13 = .ok (.lconst 1, 1) := by decide +kernel
theorem dX3_isGreat_14 : decode cX3_isGreat 14 = .ok (.ldc2_w 60, 3) := by decide +kernel
theorem dX3_isGreat_17 : decode cX3_isGreat 17 = .ok (.invokestatic 56, 3) := by decide +kernel
theorem dX3_isGreat_20 : decode cX3_isGreat 20 = .ok (.ifCond .eq 7, 3) := by decide +kernel
theorem dX3_isGreat_23 : decode cX3_isGreat 23 = .ok (.iconst 1, 1) := by decide +kernel
theorem dX3_isGreat_24 : decode cX3_isGreat 24 = .ok (.goto 4, 3) := by decide +kernel
theorem dX3_isGreat_27 : decode cX3_isGreat 27 = .ok (.iconst 0, 1) := by decide +kernel
theorem dX3_isGreat_28 : decode cX3_isGreat 28 = .ok (.ireturn, 1) := by decide +kernel
theorem dX3_goesOf_0 : decode cX3_goesOf 0 = .ok (.iload_n 2, 1) := by decide +kernel
theorem dX3_goesOf_1 : decode cX3_goesOf 1 = .ok (.iconst 1, 1) := by decide +kernel
theorem dX3_goesOf_2 : decode cX3_goesOf 2 = .ok (.if_icmp .ne 7, 3) := by decide +kernel
theorem dX3_goesOf_5 : decode cX3_goesOf 5 = .ok (.lload_n 3, 1) := by decide +kernel
theorem dX3_goesOf_6 : decode cX3_goesOf 6 = .ok (.lconst 1, 1) := by decide +kernel
theorem dX3_goesOf_7 : decode cX3_goesOf 7 = .ok (.lsub, 1) := by decide +kernel
theorem dX3_goesOf_8 : decode cX3_goesOf 8 = .ok (.lreturn, 1) := by decide +kernel
theorem dX3_goesOf_9 : decode cX3_goesOf 9 = .ok (.iload_n 2, 1) := by decide +kernel
theorem dX3_goesOf_10 : decode cX3_goesOf 10 = .ok (.i2l, 1) := by decide +kernel
theorem dX3_goesOf_11 : decode cX3_goesOf 11 = .ok (.lload_n 3, 1) := by decide +kernel
theorem dX3_goesOf_12 : decode cX3_goesOf 12 = .ok (.lmul, 1) := by decide +kernel
theorem dX3_goesOf_13 : decode cX3_goesOf 13 = .ok (.lstore 5, 2) := by decide +kernel
theorem dX3_goesOf_15 : decode cX3_goesOf 15 = .ok (.lload 5, 2) := by decide +kernel
theorem dX3_goesOf_17 : decode cX3_goesOf 17 = .ok (.lload_n 0, 1) := by decide +kernel
theorem dX3_goesOf_18 : decode cX3_goesOf 18 = .ok (.lcmp, 1) := by decide +kernel
theorem dX3_goesOf_19 : decode cX3_goesOf 19 = .ok (.ifCond .le 22, 3) := by decide +kernel
theorem dX3_goesOf_22 : decode cX3_goesOf 22 = .ok (.iload_n 2, 1) := by decide +kernel
theorem dX3_goesOf_23 : decode cX3_goesOf 23 = .ok (.i2l, 1) := by decide +kernel
theorem dX3_goesOf_24 : decode cX3_goesOf 24 = .ok (.lload 5, 2) := by decide +kernel
theorem dX3_goesOf_26 : decode cX3_goesOf 26 = .ok (.lload_n 0, 1) := by decide +kernel
theorem dX3_goesOf_27 : decode cX3_goesOf 27 = .ok (.lsub, 1) := by decide +kernel
theorem dX3_goesOf_28 : decode cX3_goesOf 28 = .ok (.lmul, 1) := by decide +kernel
theorem dX3_goesOf_29 : decode cX3_goesOf 29 = .ok (.lconst 1, 1) := by decide +kernel
theorem dX3_goesOf_30 : decode cX3_goesOf 30 = .ok (.lsub, 1) := by decide +kernel
theorem dX3_goesOf_31 : decode cX3_goesOf 31 = .ok (.iload_n 2, 1) := by decide +kernel
theorem dX3_goesOf_32 : decode cX3_goesOf 32 = .ok (.iconst 1, 1) := by decide +kernel
theorem dX3_goesOf_33 : decode cX3_goesOf 33 = .ok (.isub, 1) := by decide +kernel
theorem dX3_goesOf_34 : decode cX3_goesOf 34 = .ok (.i2l, 1) := by decide +kernel
theorem dX3_goesOf_35 : decode cX3_goesOf 35 = .ok (.ldiv, 1) := by decide +kernel
theorem dX3_goesOf_36 : decode cX3_goesOf 36 = .ok (.lstore 5, 2) := by decide +kernel
theorem dX3_goesOf_38 : decode cX3_goesOf 38 = .ok (.goto (-23), 3) := by decide +kernel
theorem dX3_goesOf_41 : decode cX3_goesOf 41 = .ok (.lload 5, 2) := by decide +kernel
theorem dX3_goesOf_43 : decode cX3_goesOf 43 = .ok (.lconst 1, 1) := by decide +kernel
theorem dX3_goesOf_44 : decode cX3_goesOf 44 = .ok (.lsub, 1) := by decide +kernel
theorem dX3_goesOf_45 : decode cX3_goesOf 45 = .ok (.lreturn, 1) := by decide +kernel
set_option maxRecDepth 20000 in
theorem ggX3_goes_X3_isGreat : GoodIn wsX3_goes wsX3_isGreat := goodIn_r _ [6, 7, 8, 9, 10, 5, 11] (by decide +kernel) (by decide +kernel)
set_option maxRecDepth 20000 in
theorem gX3_goes_X3_isGreat : GoodIn wsX3_goes (va_wsS RX3 62 yX3_isGreat wsX3_isGreat) := goodIn_app (goodIn_of _ (by decide +kernel)) ggX3_goes_X3_isGreat
set_option maxRecDepth 20000 in
theorem ggX3_goes_X3_in : GoodIn wsX3_goes wsX3_in := goodIn_r _ [11] (by decide +kernel) (by decide +kernel)
set_option maxRecDepth 20000 in
theorem gX3_goes_X3_in : GoodIn wsX3_goes (va_wsS RX3 56 yX3_in wsX3_in) := goodIn_app (goodIn_of _ (by decide +kernel)) ggX3_goes_X3_in
set_option maxRecDepth 20000 in
theorem ggX3_goes_X3_goesOf : GoodIn wsX3_goes wsX3_goesOf := goodIn_r _ [14] (by decide +kernel) (by decide +kernel)
set_option maxRecDepth 20000 in
theorem gX3_goes_X3_goesOf : GoodIn wsX3_goes (va_wsS RX3 66 yX3_goesOf wsX3_goesOf) := goodIn_app (goodIn_of _ (by decide +kernel)) ggX3_goes_X3_goesOf
theorem dX3_goes_0 : decode cX3_goes 0 = .ok (.aload_n 0, 1) := by decide +kernel
theorem dX3_goes_1 : decode cX3_goes 1 = .ok (.iconst 0, 1) := by decide +kernel
theorem dX3_goes_2 : decode cX3_goes 2 = .ok (.putfield 51, 3) := by decide +kernel
theorem dX3_goes_5 : decode cX3_goes 5 = .ok (.lload_n 1, 1) := by decide +kernel
theorem dX3_goes_6 : decode cX3_goes 6 = .ok (.iload_n 3, 1) := by decide +kernel
theorem dX3_goes_7 : decode cX3_goes 7 = .ok (.invokestatic 62, 3) := by decide +kernel
theorem dX3_goes_10 : decode cX3_goes 10 = .ok (.ifCond .eq 23, 3) := by decide +kernel
theorem dX3_goes_13 : decode cX3_goes 13 = .ok (.lload 4, 2) := by decide +kernel
theorem dX3_goes_15 : decode cX3_goes 15 = .ok (.lconst 1, 1) := by decide +kernel
theorem dX3_goes_16 : decode cX3_goes 16 = .ok (.lload_n 1, 1) := by decide +kernel
theorem dX3_goes_17 : decode cX3_goes 17 = .ok (.invokestatic 56, 3) := by decide +kernel
theorem dX3_goes_20 : decode cX3_goes 20 = .ok (.ifCond .eq 13, 3) := by decide +kernel
theorem dX3_goes_23 : decode cX3_goes 23 = .ok (.lload_n 1, 1) := by decide +kernel
theorem dX3_goes_24 : decode cX3_goes 24 = .ok (.iload_n 3, 1) := by decide +kernel
theorem dX3_goes_25 : decode cX3_goes 25 = .ok (.lload 4, 2) := by decide +kernel
theorem dX3_goes_27 : decode cX3_goes 27 = .ok (.invokestatic 66, 3) := by decide +kernel
theorem dX3_goes_30 : decode cX3_goes 30 = .ok (.goto 6, 3) := by decide +kernel
theorem dX3_goes_33 : decode cX3_goes 33 = .ok (.ldc2_w 70, 3) := by decide +kernel
theorem dX3_goes_36 : decode cX3_goes 36 = .ok (.lreturn, 1) := by decide +kernel
set_option maxRecDepth 20000 in
theorem ggX3_turn_X3_isGreat : GoodIn wsX3_turn wsX3_isGreat := goodIn_r _ [6, 7, 8, 9, 10, 5, 11] (by decide +kernel) (by decide +kernel)
set_option maxRecDepth 20000 in
theorem gX3_turn_X3_isGreat : GoodIn wsX3_turn (va_wsS RX3 62 yX3_isGreat wsX3_isGreat) := goodIn_app (goodIn_of _ (by decide +kernel)) ggX3_turn_X3_isGreat
set_option maxRecDepth 20000 in
theorem ggX3_turn_X3_in : GoodIn wsX3_turn wsX3_in := goodIn_r _ [11] (by decide +kernel) (by decide +kernel)
set_option maxRecDepth 20000 in
theorem gX3_turn_X3_in : GoodIn wsX3_turn (va_wsS RX3 56 yX3_in wsX3_in) := goodIn_app (goodIn_of _ (by decide +kernel)) ggX3_turn_X3_in
theorem dX3_turn_0 : decode cX3_turn 0 = .ok (.aload_n 0, 1) := by decide +kernel
theorem dX3_turn_1 : decode cX3_turn 1 = .ok (.iconst 0, 1) := by decide +kernel
theorem dX3_turn_2 : decode cX3_turn 2 = .ok (.putfield 51, 3) := by decide +kernel
theorem dX3_turn_5 : decode cX3_turn 5 = .ok (.lload_n 1, 1) := by decide +kernel
theorem dX3_turn_6 : decode cX3_turn 6 = .ok (.iload_n 3, 1) := by decide +kernel
theorem dX3_turn_7 : decode cX3_turn 7 = .ok (.invokestatic 62, 3) := by decide +kernel
theorem dX3_turn_10 : decode cX3_turn 10 = .ok (.ifCond .eq 15, 3) := by decide +kernel
theorem dX3_turn_13 : decode cX3_turn 13 = .ok (.lload 4, 2) := by decide +kernel
theorem dX3_turn_15 : decode cX3_turn 15 = .ok (.lconst 0, 1) := by decide +kernel
theorem dX3_turn_16 : decode cX3_turn 16 = .ok (.lload_n 1, 1) := by decide +kernel
theorem dX3_turn_17 : decode cX3_turn 17 = .ok (.lconst 1, 1) := by decide +kernel
theorem dX3_turn_18 : decode cX3_turn 18 = .ok (.lsub, 1) := by decide +kernel
theorem dX3_turn_19 : decode cX3_turn 19 = .ok (.invokestatic 56, 3) := by decide +kernel
theorem dX3_turn_22 : decode cX3_turn 22 = .ok (.ifCond .ne 7, 3) := by decide +kernel
theorem dX3_turn_25 : decode cX3_turn 25 = .ok (.ldc2_w 70, 3) := by decide +kernel
theorem dX3_turn_28 : decode cX3_turn 28 = .ok (.lreturn, 1) := by decide +kernel
theorem dX3_turn_29 : decode cX3_turn 29 = .ok (.lload 4, 2) := by decide +kernel
theorem dX3_turn_31 : decode cX3_turn 31 = .ok (.lconst 1, 1) := by decide +kernel
theorem dX3_turn_32 : decode cX3_turn 32 = .ok (.ladd, 1) := by decide +kernel
theorem dX3_turn_33 : decode cX3_turn 33 = .ok (.lstore 6, 2) := by decide +kernel
theorem dX3_turn_35 : decode cX3_turn 35 = .ok (.lload 6, 2) := by decide +kernel
theorem dX3_turn_37 : decode cX3_turn 37 = .ok (.iload_n 3, 1) := by decide +kernel
theorem dX3_turn_38 : decode cX3_turn 38 = .ok (.i2l, 1) := by decide +kernel
theorem dX3_turn_39 : decode cX3_turn 39 = .ok (.lrem, 1) := by decide +kernel
theorem dX3_turn_40 : decode cX3_turn 40 = .ok (.lconst 0, 1) := by decide +kernel
theorem dX3_turn_41 : decode cX3_turn 41 = .ok (.lcmp, 1) := by decide +kernel
theorem dX3_turn_42 : decode cX3_turn 42 = .ok (.ifCond .eq 26, 3) := by decide +kernel
theorem dX3_turn_45 : decode cX3_turn 45 = .ok (.lload_n 1, 1) := by decide +kernel
theorem dX3_turn_46 : decode cX3_turn 46 = .ok (.lload 6, 2) := by decide +kernel
theorem dX3_turn_48 : decode cX3_turn 48 = .ok (.iload_n 3, 1) := by decide +kernel
theorem dX3_turn_49 : decode cX3_turn 49 = .ok (.i2l, 1) := by decide +kernel
theorem dX3_turn_50 : decode cX3_turn 50 = .ok (.ldiv, 1) := by decide +kernel
theorem dX3_turn_51 : decode cX3_turn 51 = .ok (.iload_n 3, 1) := by decide +kernel
theorem dX3_turn_52 : decode cX3_turn 52 = .ok (.iconst 1, 1) := by decide +kernel
theorem dX3_turn_53 : decode cX3_turn 53 = .ok (.isub, 1) := by decide +kernel
theorem dX3_turn_54 : decode cX3_turn 54 = .ok (.i2l, 1) := by decide +kernel
theorem dX3_turn_55 : decode cX3_turn 55 = .ok (.lmul, 1) := by decide +kernel
theorem dX3_turn_56 : decode cX3_turn 56 = .ok (.ladd, 1) := by decide +kernel
theorem dX3_turn_57 : decode cX3_turn 57 = .ok (.lload 6, 2) := by decide +kernel
theorem dX3_turn_59 : decode cX3_turn 59 = .ok (.iload_n 3, 1) := by decide +kernel
theorem dX3_turn_60 : decode cX3_turn 60 = .ok (.i2l, 1) := by decide +kernel
theorem dX3_turn_61 : decode cX3_turn 61 = .ok (.lrem, 1) := by decide +kernel
theorem dX3_turn_62 : decode cX3_turn 62 = .ok (.ladd, 1) := by decide +kernel
theorem dX3_turn_63 : decode cX3_turn 63 = .ok (.lstore 6, 2) := by decide +kernel
theorem dX3_turn_65 : decode cX3_turn 65 = .ok (.goto (-30), 3) := by decide +kernel
theorem dX3_turn_68 : decode cX3_turn 68 = .ok (.lload 6, 2) := by decide +kernel
theorem dX3_turn_70 : decode cX3_turn 70 = .ok (.iload_n 3, 1) := by decide +kernel
theorem dX3_turn_71 : decode cX3_turn 71 = .ok (.i2l, 1) := by decide +kernel
theorem dX3_turn_72 : decode cX3_turn 72 = .ok (.ldiv, 1) := by decide +kernel
theorem dX3_turn_73 : decode cX3_turn 73 = .ok (.lreturn, 1) := by decide +kernel
set_option maxRecDepth 20000 in
theorem ggX3_last_X3_isGreat : GoodIn wsX3_last wsX3_isGreat := goodIn_r _ [6, 7, 8, 9, 10, 5, 11] (by decide +kernel) (by decide +kernel)
set_option maxRecDepth 20000 in
theorem gX3_last_X3_isGreat : GoodIn wsX3_last (va_wsS RX3 62 yX3_isGreat wsX3_isGreat) := goodIn_app (goodIn_of _ (by decide +kernel)) ggX3_last_X3_isGreat
set_option maxRecDepth 20000 in
theorem ggX3_last_X3_goesOf : GoodIn wsX3_last wsX3_goesOf := goodIn_r _ [14] (by decide +kernel) (by decide +kernel)
set_option maxRecDepth 20000 in
theorem gX3_last_X3_goesOf : GoodIn wsX3_last (va_wsS RX3 66 yX3_goesOf wsX3_goesOf) := goodIn_app (goodIn_of _ (by decide +kernel)) ggX3_last_X3_goesOf
theorem dX3_last_0 : decode cX3_last 0 = .ok (.aload_n 0, 1) := by decide +kernel
theorem dX3_last_1 : decode cX3_last 1 = .ok (.iconst 0, 1) := by decide +kernel
theorem dX3_last_2 : decode cX3_last 2 = .ok (.putfield 51, 3) := by decide +kernel
theorem dX3_last_5 : decode cX3_last 5 = .ok (.lload_n 1, 1) := by decide +kernel
theorem dX3_last_6 : decode cX3_last 6 = .ok (.iload_n 3, 1) := by decide +kernel
theorem dX3_last_7 : decode cX3_last 7 = .ok (.invokestatic 62, 3) := by decide +kernel
theorem dX3_last_10 : decode cX3_last 10 = .ok (.ifCond .eq 12, 3) := by decide +kernel
theorem dX3_last_13 : decode cX3_last 13 = .ok (.lload_n 1, 1) := by decide +kernel
theorem dX3_last_14 : decode cX3_last 14 = .ok (.iload_n 3, 1) := by decide +kernel
theorem dX3_last_15 : decode cX3_last 15 = .ok (.lload_n 1, 1) := by decide +kernel
theorem dX3_last_16 : decode cX3_last 16 = .ok (.invokestatic 66, 3) := by decide +kernel
theorem dX3_last_19 : decode cX3_last 19 = .ok (.goto 6, 3) := by decide +kernel
theorem dX3_last_22 : decode cX3_last 22 = .ok (.ldc2_w 70, 3) := by decide +kernel
theorem dX3_last_25 : decode cX3_last 25 = .ok (.lreturn, 1) := by decide +kernel
set_option maxRecDepth 20000 in
theorem ggX3_isHeap_X3_in : GoodIn wsX3_isHeap wsX3_in := goodIn_r _ [6] (by decide +kernel) (by decide +kernel)
set_option maxRecDepth 20000 in
theorem gX3_isHeap_X3_in : GoodIn wsX3_isHeap (va_wsS RX3 56 yX3_in wsX3_in) := goodIn_app (goodIn_of _ (by decide +kernel)) ggX3_isHeap_X3_in
theorem dX3_isHeap_0 : decode cX3_isHeap 0 = .ok (.iload_n 0, 1) := by decide +kernel
theorem dX3_isHeap_1 : decode cX3_isHeap 1 = .ok (.i2l, 1) := by decide +kernel
theorem dX3_isHeap_2 : decode cX3_isHeap 2 = .ok (.ldc2_w 72, 3) := by decide +kernel
theorem dX3_isHeap_5 : decode cX3_isHeap 5 = .ok (.ldc2_w 74, 3) := by decide +kernel
theorem dX3_isHeap_8 : decode cX3_isHeap 8 = .ok (.invokestatic 56, 3) := by decide +kernel
theorem dX3_isHeap_11 : decode cX3_isHeap 11 = .ok (.ifCond .eq 22, 3) := by decide +kernel
theorem dX3_isHeap_14 : decode cX3_isHeap 14 = .ok (.iload_n 1, 1) := by decide +kernel
theorem dX3_isHeap_15 : decode cX3_isHeap 15 = .ok (.i2l, 1) := by decide +kernel
theorem dX3_isHeap_16 : decode cX3_isHeap 16 = .ok (.lconst 1, 1) := by decide +kernel
theorem dX3_isHeap_17 : decode cX3_isHeap 17 = .ok (.iconst 1, 1) := by decide +kernel
theorem dX3_isHeap_18 : decode cX3_isHeap 18 = .ok (.iload_n 0, 1) := by decide +kernel
theorem dX3_isHeap_19 : decode cX3_isHeap 19 = .ok (.ishl, 1) := by decide +kernel
theorem dX3_isHeap_20 : decode cX3_isHeap 20 = .ok (.iconst 2, 1) := by decide +kernel
theorem dX3_isHeap_21 : decode cX3_isHeap 21 = .ok (.isub, 1) := by decide +kernel
theorem dX3_isHeap_22 : decode cX3_isHeap 22 = .ok (.i2l, 1) := by decide +kernel
theorem dX3_isHeap_23 : decode cX3_isHeap 23 = .ok (.invokestatic 56, 3) := by decide +kernel
theorem dX3_isHeap_26 : decode cX3_isHeap 26 = .ok (.ifCond .eq 7, 3) := by decide +kernel
theorem dX3_isHeap_29 : decode cX3_isHeap 29 = .ok (.iconst 1, 1) := by decide +kernel
theorem dX3_isHeap_30 : decode cX3_isHeap 30 = .ok (.goto 4, 3) := by decide +kernel
theorem dX3_isHeap_33 : decode cX3_isHeap 33 = .ok (.iconst 0, 1) := by decide +kernel
theorem dX3_isHeap_34 : decode cX3_isHeap 34 = .ok (.ireturn, 1) := by decide +kernel
theorem dX3_isFirst_0 : decode cX3_isFirst 0 = .ok (.iconst 0, 1) := by decide +kernel
theorem dX3_isFirst_1 : decode cX3_isFirst 1 = .ok (.istore 4, 2) := by decide +kernel
theorem dX3_isFirst_3 : decode cX3_isFirst 3 = .ok (.iconst 0, 1) := by decide +kernel
theorem dX3_isFirst_4 : decode cX3_isFirst 4 = .ok (.istore 5, 2) := by decide +kernel
theorem dX3_isFirst_6 : decode cX3_isFirst 6 = .ok (.iload 5, 2) := by decide +kernel
theorem dX3_isFirst_8 : decode cX3_isFirst 8 = .ok (.iload_n 1, 1) := by decide +kernel
theorem dX3_isFirst_9 : decode cX3_isFirst 9 = .ok (.if_icmp .ge 29, 3) := by decide +kernel
theorem dX3_isFirst_12 : decode cX3_isFirst 12 = .ok (.aload_n 0, 1) := by decide +kernel
theorem dX3_isFirst_13 : decode cX3_isFirst 13 = .ok (.getfield 38, 3) := by decide +kernel
theorem dX3_isFirst_16 : decode cX3_isFirst 16 = .ok (.iload 5, 2) := by decide +kernel
theorem dX3_isFirst_18 : decode cX3_isFirst 18 = .ok (.iload 5, 2) := by decide +kernel
theorem dX3_isFirst_20 : decode cX3_isFirst 20 = .ok (.iastore, 1) := by decide +kernel
theorem dX3_isFirst_21 : decode cX3_isFirst 21 = .ok (.iload 4, 2) := by decide +kernel
theorem dX3_isFirst_23 : decode cX3_isFirst 23 = .ok (.iload_n 2, 1) := by decide +kernel
theorem dX3_isFirst_24 : decode cX3_isFirst 24 = .ok (.iload 5, 2) := by decide +kernel
theorem dX3_isFirst_26 : decode cX3_isFirst 26 = .ok (.ishr, 1) := by decide +kernel
theorem dX3_isFirst_27 : decode cX3_isFirst 27 = .ok (.iconst 1, 1) := by decide +kernel
theorem dX3_isFirst_28 : decode cX3_isFirst 28 = .ok (.iand, 1) := by decide +kernel
theorem dX3_isFirst_29 : decode cX3_isFirst 29 = .ok (.iadd, 1) := by decide +kernel
theorem dX3_isFirst_30 : decode cX3_isFirst 30 = .ok (.istore 4, 2) := by decide +kernel
theorem dX3_isFirst_32 : decode cX3_isFirst 32 = .ok (.iinc 5 1, 3) := by decide +kernel
theorem dX3_isFirst_35 : decode cX3_isFirst 35 = .ok (.goto (-29), 3) := by decide +kernel
theorem dX3_isFirst_38 : decode cX3_isFirst 38 = .ok (.iconst 0, 1) := by decide +kernel
theorem dX3_isFirst_39 : decode cX3_isFirst 39 = .ok (.istore 5, 2) := by decide +kernel
theorem dX3_isFirst_41 : decode cX3_isFirst 41 = .ok (.iconst 0, 1) := by decide +kernel
theorem dX3_isFirst_42 : decode cX3_isFirst 42 = .ok (.istore 6, 2) := by decide +kernel
theorem dX3_isFirst_44 : decode cX3_isFirst 44 = .ok (.iload 6, 2) := by decide +kernel
theorem dX3_isFirst_46 : decode cX3_isFirst 46 = .ok (.iload 4, 2) := by decide +kernel
theorem dX3_isFirst_48 : decode cX3_isFirst 48 = .ok (.if_icmp .ge 77, 3) := by decide +kernel
theorem dX3_isFirst_51 : decode cX3_isFirst 51 = .ok (.iload_n 1, 1) := by decide +kernel
theorem dX3_isFirst_52 : decode cX3_isFirst 52 = .ok (.iload 6, 2) := by decide +kernel
theorem dX3_isFirst_54 : decode cX3_isFirst 54 = .ok (.isub, 1) := by decide +kernel
theorem dX3_isFirst_55 : decode cX3_isFirst 55 = .ok (.istore 7, 2) := by decide +kernel
theorem dX3_isFirst_57 : decode cX3_isFirst 57 = .ok (.iload 5, 2) := by decide +kernel
theorem dX3_isFirst_59 : decode cX3_isFirst 59 = .ok (.iload_n 3, 1) := by decide +kernel
theorem dX3_isFirst_60 : decode cX3_isFirst 60 = .ok (.iadd, 1) := by decide +kernel
theorem dX3_isFirst_61 : decode cX3_isFirst 61 = .ok (.iconst 1, 1) := by decide +kernel
theorem dX3_isFirst_62 : decode cX3_isFirst 62 = .ok (.isub, 1) := by decide +kernel
theorem dX3_isFirst_63 : decode cX3_isFirst 63 = .ok (.iload 7, 2) := by decide +kernel
theorem dX3_isFirst_65 : decode cX3_isFirst 65 = .ok (.irem, 1) := by decide +kernel
theorem dX3_isFirst_66 : decode cX3_isFirst 66 = .ok (.istore 5, 2) := by decide +kernel
theorem dX3_isFirst_68 : decode cX3_isFirst 68 = .ok (.iload_n 2, 1) := by decide +kernel
theorem dX3_isFirst_69 : decode cX3_isFirst 69 = .ok (.aload_n 0, 1) := by decide +kernel
theorem dX3_isFirst_70 : decode cX3_isFirst 70 = .ok (.getfield 38, 3) := by decide +kernel
theorem dX3_isFirst_73 : decode cX3_isFirst 73 = .ok (.iload 5, 2) := by decide +kernel
theorem dX3_isFirst_75 : decode cX3_isFirst 75 = .ok (.iaload, 1) := by decide +kernel
theorem dX3_isFirst_76 : decode cX3_isFirst 76 = .ok (.ishr, 1) := by decide +kernel
theorem dX3_isFirst_77 : decode cX3_isFirst 77 = .ok (.iconst 1, 1) := by decide +kernel
theorem dX3_isFirst_78 : decode cX3_isFirst 78 = .ok (.iand, 1) := by decide +kernel
theorem dX3_isFirst_79 : decode cX3_isFirst 79 = .ok (.ifCond .ne 5, 3) := by decide +kernel
theorem dX3_isFirst_82 : decode cX3_isFirst 82 = .ok (.iconst 0, 1) := by decide +kernel
theorem dX3_isFirst_83 : decode cX3_isFirst 83 = .ok (.ireturn, 1) := by decide +kernel
theorem dX3_isFirst_84 : decode cX3_isFirst 84 = .ok (.iload 5, 2) := by decide +kernel
theorem dX3_isFirst_86 : decode cX3_isFirst 86 = .ok (.istore 8, 2) := by decide +kernel
theorem dX3_isFirst_88 : decode cX3_isFirst 88 = .ok (.iload 8, 2) := by decide +kernel
theorem dX3_isFirst_90 : decode cX3_isFirst 90 = .ok (.iconst 1, 1) := by decide +kernel
theorem dX3_isFirst_91 : decode cX3_isFirst 91 = .ok (.iadd, 1) := by decide +kernel
theorem dX3_isFirst_92 : decode cX3_isFirst 92 = .ok (.iload 7, 2) := by decide +kernel
theorem dX3_isFirst_94 : decode cX3_isFirst 94 = .ok (.if_icmp .ge 25, 3) := by decide +kernel
theorem dX3_isFirst_97 : decode cX3_isFirst 97 = .ok (.aload_n 0, 1) := by decide +kernel
theorem dX3_isFirst_98 : decode cX3_isFirst 98 = .ok (.getfield 38, 3) := by decide +kernel
theorem dX3_isFirst_101 : decode cX3_isFirst 101 = .ok (.iload 8, 2) := by decide +kernel
theorem dX3_isFirst_103 : decode cX3_isFirst 103 = .ok (.aload_n 0, 1) := by decide +kernel
theorem dX3_isFirst_104 : decode cX3_isFirst 104 = .ok (.getfield 38, 3) := by decide +kernel
theorem dX3_isFirst_107 : decode cX3_isFirst 107 = .ok (.iload 8, 2) := by decide +kernel
theorem dX3_isFirst_109 : decode cX3_isFirst 109 = .ok (.iconst 1, 1) := by decide +kernel
theorem dX3_isFirst_110 : decode cX3_isFirst 110 = .ok (.iadd, 1) := by decide +kernel
theorem dX3_isFirst_111 : decode cX3_isFirst 111 = .ok (.iaload, 1) := by decide +kernel
theorem dX3_isFirst_112 : decode cX3_isFirst 112 = .ok (.iastore, 1) := by decide +kernel
theorem dX3_isFirst_113 : decode cX3_isFirst 113 = .ok (.iinc 8 1, 3) := by decide +kernel
theorem dX3_isFirst_116 : decode cX3_isFirst 116 = .ok (.goto (-28), 3) := by decide +kernel
theorem dX3_isFirst_119 : decode cX3_isFirst 119 = .ok (.iinc 6 1, 3) := by decide +kernel
theorem dX3_isFirst_122 : decode cX3_isFirst 122 = .ok (.goto (-78), 3) := by decide +kernel
theorem dX3_isFirst_125 : decode cX3_isFirst 125 = .ok (.iconst 1, 1) := by decide +kernel
theorem dX3_isFirst_126 : decode cX3_isFirst 126 = .ok (.ireturn, 1) := by decide +kernel
set_option maxRecDepth 20000 in
theorem ggX3_first_X3_isHeap : GoodIn wsX3_first wsX3_isHeap := goodIn_r _ [6, 7, 8, 9, 10, 5, 11] (by decide +kernel) (by decide +kernel)
set_option maxRecDepth 20000 in
theorem gX3_first_X3_isHeap : GoodIn wsX3_first (va_wsS RX3 76 yX3_isHeap wsX3_isHeap) := goodIn_app (goodIn_of _ (by decide +kernel)) ggX3_first_X3_isHeap
set_option maxRecDepth 20000 in
theorem ggX3_first_X3_in : GoodIn wsX3_first wsX3_in := goodIn_r _ [11] (by decide +kernel) (by decide +kernel)
set_option maxRecDepth 20000 in
theorem gX3_first_X3_in : GoodIn wsX3_first (va_wsS RX3 56 yX3_in wsX3_in) := goodIn_app (goodIn_of _ (by decide +kernel)) ggX3_first_X3_in
set_option maxRecDepth 20000 in
theorem ggX3_first_X3_isFirst : GoodIn wsX3_first wsX3_isFirst := goodIn_r _ [15, 16, 17, 18, 19, 20, 21, 22, 23, 24, 25, 26, 27, 28, 29, 30, 31, 32, 33] (by decide +kernel) (by decide +kernel)
set_option maxRecDepth 20000 in
theorem gX3_first_X3_isFirst : GoodIn wsX3_first (wsV RX3 82 RX3 yX3_isFirst wsX3_isFirst) := goodIn_app (goodIn_of _ (by decide +kernel)) ggX3_first_X3_isFirst
theorem dX3_first_0 : decode cX3_first 0 = .ok (.aload_n 0, 1) := by decide +kernel
theorem dX3_first_1 : decode cX3_first 1 = .ok (.iconst 0, 1) := by decide +kernel
theorem dX3_first_2 : decode cX3_first 2 = .ok (.putfield 51, 3) := by decide +kernel
theorem dX3_first_5 : decode cX3_first 5 = .ok (.iload_n 1, 1) := by decide +kernel
theorem dX3_first_6 : decode cX3_first 6 = .ok (.iload_n 2, 1) := by decide +kernel
theorem dX3_first_7 : decode cX3_first 7 = .ok (.invokestatic 76, 3) := by decide +kernel
theorem dX3_first_10 : decode cX3_first 10 = .ok (.ifCond .eq 15, 3) := by decide +kernel
theorem dX3_first_13 : decode cX3_first 13 = .ok (.iload_n 3, 1) := by decide +kernel
theorem dX3_first_14 : decode cX3_first 14 = .ok (.i2l, 1) := by decide +kernel
theorem dX3_first_15 : decode cX3_first 15 = .ok (.lconst 1, 1) := by decide +kernel
theorem dX3_first_16 : decode cX3_first 16 = .ok (.ldc2_w 80, 3) := by decide +kernel
theorem dX3_first_19 : decode cX3_first 19 = .ok (.invokestatic 56, 3) := by decide +kernel
theorem dX3_first_22 : decode cX3_first 22 = .ok (.ifCond .ne 7, 3) := by decide +kernel
theorem dX3_first_25 : decode cX3_first 25 = .ok (.iconst (-1), 1) := by decide +kernel
theorem dX3_first_26 : decode cX3_first 26 = .ok (.goto 18, 3) := by decide +kernel
theorem dX3_first_29 : decode cX3_first 29 = .ok (.aload_n 0, 1) := by decide +kernel
theorem dX3_first_30 : decode cX3_first 30 = .ok (.iload_n 1, 1) := by decide +kernel
theorem dX3_first_31 : decode cX3_first 31 = .ok (.iload_n 2, 1) := by decide +kernel
theorem dX3_first_32 : decode cX3_first 32 = .ok (.iload_n 3, 1) := by decide +kernel
theorem dX3_first_33 : decode cX3_first 33 = .ok (.invokevirtual 82, 3) := by decide +kernel
theorem dX3_first_36 : decode cX3_first 36 = .ok (.ifCond .eq 7, 3) := by decide +kernel
theorem dX3_first_39 : decode cX3_first 39 = .ok (.iconst 1, 1) := by decide +kernel
theorem dX3_first_40 : decode cX3_first 40 = .ok (.goto 4, 3) := by decide +kernel
theorem dX3_first_43 : decode cX3_first 43 = .ok (.iconst 0, 1) := by decide +kernel
theorem dX3_first_44 : decode cX3_first 44 = .ok (.ireturn, 1) := by decide +kernel
set_option maxRecDepth 20000 in
theorem ggX3_least_X3_isHeap : GoodIn wsX3_least wsX3_isHeap := goodIn_r _ [5, 6, 7, 8, 9, 4, 10] (by decide +kernel) (by decide +kernel)
set_option maxRecDepth 20000 in
theorem gX3_least_X3_isHeap : GoodIn wsX3_least (va_wsS RX3 76 yX3_isHeap wsX3_isHeap) := goodIn_app (goodIn_of _ (by decide +kernel)) ggX3_least_X3_isHeap
set_option maxRecDepth 20000 in
theorem ggX3_least_X3_isFirst : GoodIn wsX3_least wsX3_isFirst := goodIn_r _ [14, 15, 16, 17, 18, 19, 20, 21, 22, 23, 24, 25, 26, 27, 28, 29, 30, 31, 32] (by decide +kernel) (by decide +kernel)
set_option maxRecDepth 20000 in
theorem gX3_least_X3_isFirst : GoodIn wsX3_least (wsV RX3 82 RX3 yX3_isFirst wsX3_isFirst) := goodIn_app (goodIn_of _ (by decide +kernel)) ggX3_least_X3_isFirst
theorem dX3_least_0 : decode cX3_least 0 = .ok (.aload_n 0, 1) := by decide +kernel
theorem dX3_least_1 : decode cX3_least 1 = .ok (.iconst 0, 1) := by decide +kernel
theorem dX3_least_2 : decode cX3_least 2 = .ok (.putfield 51, 3) := by decide +kernel
theorem dX3_least_5 : decode cX3_least 5 = .ok (.iload_n 1, 1) := by decide +kernel
theorem dX3_least_6 : decode cX3_least 6 = .ok (.iload_n 2, 1) := by decide +kernel
theorem dX3_least_7 : decode cX3_least 7 = .ok (.invokestatic 76, 3) := by decide +kernel
theorem dX3_least_10 : decode cX3_least 10 = .ok (.ifCond .ne 5, 3) := by decide +kernel
theorem dX3_least_13 : decode cX3_least 13 = .ok (.iconst (-1), 1) := by decide +kernel
theorem dX3_least_14 : decode cX3_least 14 = .ok (.ireturn, 1) := by decide +kernel
theorem dX3_least_15 : decode cX3_least 15 = .ok (.iconst 1, 1) := by decide +kernel
theorem dX3_least_16 : decode cX3_least 16 = .ok (.istore_n 3, 1) := by decide +kernel
theorem dX3_least_17 : decode cX3_least 17 = .ok (.iload_n 3, 1) := by decide +kernel
theorem dX3_least_18 : decode cX3_least 18 = .ok (.sipush 10000, 3) := by decide +kernel
theorem dX3_least_21 : decode cX3_least 21 = .ok (.if_icmp .gt 21, 3) := by decide +kernel
theorem dX3_least_24 : decode cX3_least 24 = .ok (.aload_n 0, 1) := by decide +kernel
theorem dX3_least_25 : decode cX3_least 25 = .ok (.iload_n 1, 1) := by decide +kernel
theorem dX3_least_26 : decode cX3_least 26 = .ok (.iload_n 2, 1) := by decide +kernel
theorem dX3_least_27 : decode cX3_least 27 = .ok (.iload_n 3, 1) := by decide +kernel
theorem dX3_least_28 : decode cX3_least 28 = .ok (.invokevirtual 82, 3) := by decide +kernel
theorem dX3_least_31 : decode cX3_least 31 = .ok (.ifCond .eq 5, 3) := by decide +kernel
theorem dX3_least_34 : decode cX3_least 34 = .ok (.iload_n 3, 1) := by decide +kernel
theorem dX3_least_35 : decode cX3_least 35 = .ok (.ireturn, 1) := by decide +kernel
theorem dX3_least_36 : decode cX3_least 36 = .ok (.iinc 3 1, 3) := by decide +kernel
theorem dX3_least_39 : decode cX3_least 39 = .ok (.goto (-22), 3) := by decide +kernel
theorem dX3_least_42 : decode cX3_least 42 = .ok (.bipush (-9), 2) := by decide +kernel
theorem dX3_least_44 : decode cX3_least 44 = .ok (.ireturn, 1) := by decide +kernel
theorem dX3_begins_0 : decode cX3_begins 0 = .ok (.aload_n 0, 1) := by decide +kernel
theorem dX3_begins_1 : decode cX3_begins 1 = .ok (.iload_n 1, 1) := by decide +kernel
theorem dX3_begins_2 : decode cX3_begins 2 = .ok (.putfield 7, 3) := by decide +kernel
theorem dX3_begins_5 : decode cX3_begins 5 = .ok (.aload_n 0, 1) := by decide +kernel
theorem dX3_begins_6 : decode cX3_begins 6 = .ok (.iconst 0, 1) := by decide +kernel
theorem dX3_begins_7 : decode cX3_begins 7 = .ok (.putfield 86, 3) := by decide +kernel
theorem dX3_begins_10 : decode cX3_begins 10 = .ok (.aload_n 0, 1) := by decide +kernel
theorem dX3_begins_11 : decode cX3_begins 11 = .ok (.iconst 0, 1) := by decide +kernel
theorem dX3_begins_12 : decode cX3_begins 12 = .ok (.putfield 89, 3) := by decide +kernel
theorem dX3_begins_15 : decode cX3_begins 15 = .ok (.iconst 0, 1) := by decide +kernel
theorem dX3_begins_16 : decode cX3_begins 16 = .ok (.istore_n 2, 1) := by decide +kernel
theorem dX3_begins_17 : decode cX3_begins 17 = .ok (.iload_n 2, 1) := by decide +kernel
theorem dX3_begins_18 : decode cX3_begins 18 = .ok (.bipush 40, 2) := by decide +kernel
theorem dX3_begins_20 : decode cX3_begins 20 = .ok (.if_icmp .ge 31, 3) := by decide +kernel
theorem dX3_begins_23 : decode cX3_begins 23 = .ok (.aload_n 0, 1) := by decide +kernel
theorem dX3_begins_24 : decode cX3_begins 24 = .ok (.getfield 13, 3) := by decide +kernel
theorem dX3_begins_27 : decode cX3_begins 27 = .ok (.iload_n 2, 1) := by decide +kernel
theorem dX3_begins_28 : decode cX3_begins 28 = .ok (.iconst 1, 1) := by decide +kernel
theorem dX3_begins_29 : decode cX3_begins 29 = .ok (.iastore, 1) := by decide +kernel
theorem dX3_begins_30 : decode cX3_begins 30 = .ok (.aload_n 0, 1) := by decide +kernel
theorem dX3_begins_31 : decode cX3_begins 31 = .ok (.getfield 17, 3) := by decide +kernel
theorem dX3_begins_34 : decode cX3_begins 34 = .ok (.iload_n 2, 1) := by decide +kernel
theorem dX3_begins_35 : decode cX3_begins 35 = .ok (.iconst 1, 1) := by decide +kernel
theorem dX3_begins_36 : decode cX3_begins 36 = .ok (.iastore, 1) := by decide +kernel
theorem dX3_begins_37 : decode cX3_begins 37 = .ok (.aload_n 0, 1) := by decide +kernel
theorem dX3_begins_38 : decode cX3_begins 38 = .ok (.getfield 20, 3) := by decide +kernel
theorem dX3_begins_41 : decode cX3_begins 41 = .ok (.iload_n 2, 1) := by decide +kernel
theorem dX3_begins_42 : decode cX3_begins 42 = .ok (.bipush (-9), 2) := by decide +kernel
theorem dX3_begins_44 : decode cX3_begins 44 = .ok (.iastore, 1) := by decide +kernel
theorem dX3_begins_45 : decode cX3_begins 45 = .ok (.iinc 2 1, 3) := by decide +kernel
theorem dX3_begins_48 : decode cX3_begins 48 = .ok (.goto (-31), 3) := by decide +kernel
theorem dX3_begins_51 : decode cX3_begins 51 = .ok (.return_, 1) := by decide +kernel
set_option maxRecDepth 20000 in
theorem ggX3_ring_X3_in : GoodIn wsX3_ring wsX3_in := goodIn_r _ [7] (by decide +kernel) (by decide +kernel)
set_option maxRecDepth 20000 in
theorem gX3_ring_X3_in : GoodIn wsX3_ring (va_wsS RX3 56 yX3_in wsX3_in) := goodIn_app (goodIn_of _ (by decide +kernel)) ggX3_ring_X3_in
set_option maxRecDepth 20000 in
theorem ggX3_ring_X3_begins : GoodIn wsX3_ring wsX3_begins := goodIn_r _ [11, 3, 12, 13, 14, 15, 16, 17, 18, 19, 20, 21, 22, 23, 24, 25, 26, 27, 28, 29, 30, 31, 32, 33] (by decide +kernel) (by decide +kernel)
set_option maxRecDepth 20000 in
theorem gX3_ring_X3_begins : GoodIn wsX3_ring (wsV RX3 47 RX3 yX3_begins wsX3_begins) := goodIn_app (goodIn_of _ (by decide +kernel)) ggX3_ring_X3_begins
theorem dX3_ring_0 : decode cX3_ring 0 = .ok (.aload_n 0, 1) := by decide +kernel
theorem dX3_ring_1 : decode cX3_ring 1 = .ok (.iconst 0, 1) := by decide +kernel
theorem dX3_ring_2 : decode cX3_ring 2 = .ok (.putfield 51, 3) := by decide +kernel
theorem dX3_ring_5 : decode cX3_ring 5 = .ok (.iload_n 1, 1) := by decide +kernel
theorem dX3_ring_6 : decode cX3_ring 6 = .ok (.i2l, 1) := by decide +kernel
theorem dX3_ring_7 : decode cX3_ring 7 = .ok (.lconst 1, 1) := by decide +kernel
theorem dX3_ring_8 : decode cX3_ring 8 = .ok (.ldc2_w 92, 3) := by decide +kernel
theorem dX3_ring_11 : decode cX3_ring 11 = .ok (.invokestatic 56, 3) := by decide +kernel
theorem dX3_ring_14 : decode cX3_ring 14 = .ok (.ifCond .ne 5, 3) := by decide +kernel
theorem dX3_ring_17 : decode cX3_ring 17 = .ok (.iconst (-1), 1) := by decide +kernel
theorem dX3_ring_18 : decode cX3_ring 18 = .ok (.ireturn, 1) := by decide +kernel
theorem dX3_ring_19 : decode cX3_ring 19 = .ok (.aload_n 0, 1) := by decide +kernel
theorem dX3_ring_20 : decode cX3_ring 20 = .ok (.getfield 7, 3) := by decide +kernel
theorem dX3_ring_23 : decode cX3_ring 23 = .ok (.istore_n 2, 1) := by decide +kernel
theorem dX3_ring_24 : decode cX3_ring 24 = .ok (.aload_n 0, 1) := by decide +kernel
theorem dX3_ring_25 : decode cX3_ring 25 = .ok (.iload_n 1, 1) := by decide +kernel
theorem dX3_ring_26 : decode cX3_ring 26 = .ok (.invokevirtual 47, 3) := by decide +kernel
theorem dX3_ring_29 : decode cX3_ring 29 = .ok (.iload_n 2, 1) := by decide +kernel
theorem dX3_ring_30 : decode cX3_ring 30 = .ok (.ireturn, 1) := by decide +kernel
set_option maxRecDepth 20000 in
theorem ggX3_isPerson_X3_in : GoodIn wsX3_isPerson wsX3_in := goodIn_r _ [5] (by decide +kernel) (by decide +kernel)
set_option maxRecDepth 20000 in
theorem gX3_isPerson_X3_in : GoodIn wsX3_isPerson (va_wsS RX3 56 yX3_in wsX3_in) := goodIn_app (goodIn_of _ (by decide +kernel)) ggX3_isPerson_X3_in
theorem dX3_isPerson_0 : decode cX3_isPerson 0 = .ok (.iload_n 1, 1) := by decide +kernel
theorem dX3_isPerson_1 : decode cX3_isPerson 1 = .ok (.i2l, 1) := by decide +kernel
theorem dX3_isPerson_2 : decode cX3_isPerson 2 = .ok (.lconst 0, 1) := by decide +kernel
theorem dX3_isPerson_3 : decode cX3_isPerson 3 = .ok (.aload_n 0, 1) := by decide +kernel
theorem dX3_isPerson_4 : decode cX3_isPerson 4 = .ok (.getfield 7, 3) := by decide +kernel
theorem dX3_isPerson_7 : decode cX3_isPerson 7 = .ok (.iconst 1, 1) := by decide +kernel
theorem dX3_isPerson_8 : decode cX3_isPerson 8 = .ok (.isub, 1) := by decide +kernel
theorem dX3_isPerson_9 : decode cX3_isPerson 9 = .ok (.i2l, 1) := by decide +kernel
theorem dX3_isPerson_10 : decode cX3_isPerson 10 = .ok (.invokestatic 56, 3) := by decide +kernel
theorem dX3_isPerson_13 : decode cX3_isPerson 13 = .ok (.ireturn, 1) := by decide +kernel
set_option maxRecDepth 20000 in
theorem ggX3_lives_X3_isPerson : GoodIn wsX3_lives wsX3_isPerson := goodIn_r _ [10, 11, 12, 13, 9, 14, 15, 16, 17, 18, 19, 20, 21, 22, 23, 24, 25, 26, 27, 28, 29, 30, 31] (by decide +kernel) (by decide +kernel)
set_option maxRecDepth 20000 in
theorem gX3_lives_X3_isPerson : GoodIn wsX3_lives (wsV RX3 94 RX3 yX3_isPerson wsX3_isPerson) := goodIn_app (goodIn_of _ (by decide +kernel)) ggX3_lives_X3_isPerson
set_option maxRecDepth 20000 in
theorem ggX3_lives_X3_in : GoodIn wsX3_lives wsX3_in := goodIn_r _ [14] (by decide +kernel) (by decide +kernel)
set_option maxRecDepth 20000 in
theorem gX3_lives_X3_in : GoodIn wsX3_lives (va_wsS RX3 56 yX3_in wsX3_in) := goodIn_app (goodIn_of _ (by decide +kernel)) ggX3_lives_X3_in
theorem dX3_lives_0 : decode cX3_lives 0 = .ok (.aload_n 0, 1) := by decide +kernel
theorem dX3_lives_1 : decode cX3_lives 1 = .ok (.iconst 0, 1) := by decide +kernel
theorem dX3_lives_2 : decode cX3_lives 2 = .ok (.putfield 51, 3) := by decide +kernel
theorem dX3_lives_5 : decode cX3_lives 5 = .ok (.aload_n 0, 1) := by decide +kernel
theorem dX3_lives_6 : decode cX3_lives 6 = .ok (.iload_n 1, 1) := by decide +kernel
theorem dX3_lives_7 : decode cX3_lives 7 = .ok (.invokevirtual 94, 3) := by decide +kernel
theorem dX3_lives_10 : decode cX3_lives 10 = .ok (.ifCond .eq 15, 3) := by decide +kernel
theorem dX3_lives_13 : decode cX3_lives 13 = .ok (.iload_n 2, 1) := by decide +kernel
theorem dX3_lives_14 : decode cX3_lives 14 = .ok (.i2l, 1) := by decide +kernel
theorem dX3_lives_15 : decode cX3_lives 15 = .ok (.lconst 1, 1) := by decide +kernel
theorem dX3_lives_16 : decode cX3_lives 16 = .ok (.ldc2_w 98, 3) := by decide +kernel
theorem dX3_lives_19 : decode cX3_lives 19 = .ok (.invokestatic 56, 3) := by decide +kernel
theorem dX3_lives_22 : decode cX3_lives 22 = .ok (.ifCond .ne 5, 3) := by decide +kernel
theorem dX3_lives_25 : decode cX3_lives 25 = .ok (.iconst (-1), 1) := by decide +kernel
theorem dX3_lives_26 : decode cX3_lives 26 = .ok (.ireturn, 1) := by decide +kernel
theorem dX3_lives_27 : decode cX3_lives 27 = .ok (.aload_n 0, 1) := by decide +kernel
theorem dX3_lives_28 : decode cX3_lives 28 = .ok (.getfield 86, 3) := by decide +kernel
theorem dX3_lives_31 : decode cX3_lives 31 = .ok (.ifCond .le 6, 3) := by decide +kernel
theorem dX3_lives_34 : decode cX3_lives 34 = .ok (.bipush (-2), 2) := by decide +kernel
theorem dX3_lives_36 : decode cX3_lives 36 = .ok (.ireturn, 1) := by decide +kernel
theorem dX3_lives_37 : decode cX3_lives 37 = .ok (.aload_n 0, 1) := by decide +kernel
theorem dX3_lives_38 : decode cX3_lives 38 = .ok (.getfield 13, 3) := by decide +kernel
theorem dX3_lives_41 : decode cX3_lives 41 = .ok (.iload_n 1, 1) := by decide +kernel
theorem dX3_lives_42 : decode cX3_lives 42 = .ok (.iaload, 1) := by decide +kernel
theorem dX3_lives_43 : decode cX3_lives 43 = .ok (.istore_n 3, 1) := by decide +kernel
theorem dX3_lives_44 : decode cX3_lives 44 = .ok (.aload_n 0, 1) := by decide +kernel
theorem dX3_lives_45 : decode cX3_lives 45 = .ok (.getfield 13, 3) := by decide +kernel
theorem dX3_lives_48 : decode cX3_lives 48 = .ok (.iload_n 1, 1) := by decide +kernel
theorem dX3_lives_49 : decode cX3_lives 49 = .ok (.iload_n 2, 1) := by decide +kernel
theorem dX3_lives_50 : decode cX3_lives 50 = .ok (.iastore, 1) := by decide +kernel
theorem dX3_lives_51 : decode cX3_lives 51 = .ok (.aload_n 0, 1) := by decide +kernel
theorem dX3_lives_52 : decode cX3_lives 52 = .ok (.getfield 17, 3) := by decide +kernel
theorem dX3_lives_55 : decode cX3_lives 55 = .ok (.iload_n 1, 1) := by decide +kernel
theorem dX3_lives_56 : decode cX3_lives 56 = .ok (.iload_n 2, 1) := by decide +kernel
theorem dX3_lives_57 : decode cX3_lives 57 = .ok (.iastore, 1) := by decide +kernel
theorem dX3_lives_58 : decode cX3_lives 58 = .ok (.iload_n 3, 1) := by decide +kernel
theorem dX3_lives_59 : decode cX3_lives 59 = .ok (.ireturn, 1) := by decide +kernel
set_option maxRecDepth 20000 in
theorem ggX3_set_X3_in : GoodIn wsX3_set wsX3_in := goodIn_r _ [10] (by decide +kernel) (by decide +kernel)
set_option maxRecDepth 20000 in
theorem gX3_set_X3_in : GoodIn wsX3_set (va_wsS RX3 56 yX3_in wsX3_in) := goodIn_app (goodIn_of _ (by decide +kernel)) ggX3_set_X3_in
theorem dX3_set_0 : decode cX3_set 0 = .ok (.aload_n 0, 1) := by decide +kernel
theorem dX3_set_1 : decode cX3_set 1 = .ok (.iconst 0, 1) := by decide +kernel
theorem dX3_set_2 : decode cX3_set 2 = .ok (.putfield 51, 3) := by decide +kernel
theorem dX3_set_5 : decode cX3_set 5 = .ok (.iload_n 1, 1) := by decide +kernel
theorem dX3_set_6 : decode cX3_set 6 = .ok (.i2l, 1) := by decide +kernel
theorem dX3_set_7 : decode cX3_set 7 = .ok (.lconst 0, 1) := by decide +kernel
theorem dX3_set_8 : decode cX3_set 8 = .ok (.lconst 1, 1) := by decide +kernel
theorem dX3_set_9 : decode cX3_set 9 = .ok (.invokestatic 56, 3) := by decide +kernel
theorem dX3_set_12 : decode cX3_set 12 = .ok (.ifCond .eq 33, 3) := by decide +kernel
theorem dX3_set_15 : decode cX3_set 15 = .ok (.iload_n 2, 1) := by decide +kernel
theorem dX3_set_16 : decode cX3_set 16 = .ok (.i2l, 1) := by decide +kernel
theorem dX3_set_17 : decode cX3_set 17 = .ok (.iload_n 1, 1) := by decide +kernel
theorem dX3_set_18 : decode cX3_set 18 = .ok (.ifCond .ne 7, 3) := by decide +kernel
theorem dX3_set_21 : decode cX3_set 21 = .ok (.lconst 1, 1) := by decide +kernel
theorem dX3_set_22 : decode cX3_set 22 = .ok (.goto 4, 3) := by decide +kernel
theorem dX3_set_25 : decode cX3_set 25 = .ok (.lconst 0, 1) := by decide +kernel
theorem dX3_set_26 : decode cX3_set 26 = .ok (.iload_n 1, 1) := by decide +kernel
theorem dX3_set_27 : decode cX3_set 27 = .ok (.ifCond .ne 9, 3) := by decide +kernel
theorem dX3_set_30 : decode cX3_set 30 = .ok (.ldc2_w 74, 3) := by decide +kernel
theorem dX3_set_33 : decode cX3_set 33 = .ok (.goto 6, 3) := by decide +kernel
theorem dX3_set_36 : decode cX3_set 36 = .ok (.ldc2_w 72, 3) := by decide +kernel
theorem dX3_set_39 : decode cX3_set 39 = .ok (.invokestatic 56, 3) := by decide +kernel
theorem dX3_set_42 : decode cX3_set 42 = .ok (.ifCond .ne 5, 3) := by decide +kernel
theorem dX3_set_45 : decode cX3_set 45 = .ok (.iconst (-1), 1) := by decide +kernel
theorem dX3_set_46 : decode cX3_set 46 = .ok (.ireturn, 1) := by decide +kernel
theorem dX3_set_47 : decode cX3_set 47 = .ok (.aload_n 0, 1) := by decide +kernel
theorem dX3_set_48 : decode cX3_set 48 = .ok (.getfield 86, 3) := by decide +kernel
theorem dX3_set_51 : decode cX3_set 51 = .ok (.ifCond .le 6, 3) := by decide +kernel
theorem dX3_set_54 : decode cX3_set 54 = .ok (.bipush (-2), 2) := by decide +kernel
theorem dX3_set_56 : decode cX3_set 56 = .ok (.ireturn, 1) := by decide +kernel
theorem dX3_set_57 : decode cX3_set 57 = .ok (.iload_n 1, 1) := by decide +kernel
theorem dX3_set_58 : decode cX3_set 58 = .ok (.ifCond .ne 10, 3) := by decide +kernel
theorem dX3_set_61 : decode cX3_set 61 = .ok (.aload_n 0, 1) := by decide +kernel
theorem dX3_set_62 : decode cX3_set 62 = .ok (.getfield 23, 3) := by decide +kernel
theorem dX3_set_65 : decode cX3_set 65 = .ok (.goto 7, 3) := by decide +kernel
theorem dX3_set_68 : decode cX3_set 68 = .ok (.aload_n 0, 1) := by decide +kernel
theorem dX3_set_69 : decode cX3_set 69 = .ok (.getfield 100, 3) := by decide +kernel
theorem dX3_set_72 : decode cX3_set 72 = .ok (.istore_n 3, 1) := by decide +kernel
theorem dX3_set_73 : decode cX3_set 73 = .ok (.aload_n 0, 1) := by decide +kernel
theorem dX3_set_74 : decode cX3_set 74 = .ok (.iload_n 1, 1) := by decide +kernel
theorem dX3_set_75 : decode cX3_set 75 = .ok (.ifCond .ne 7, 3) := by decide +kernel
theorem dX3_set_78 : decode cX3_set 78 = .ok (.iload_n 2, 1) := by decide +kernel
theorem dX3_set_79 : decode cX3_set 79 = .ok (.goto 7, 3) := by decide +kernel
theorem dX3_set_82 : decode cX3_set 82 = .ok (.aload_n 0, 1) := by decide +kernel
theorem dX3_set_83 : decode cX3_set 83 = .ok (.getfield 23, 3) := by decide +kernel
theorem dX3_set_86 : decode cX3_set 86 = .ok (.putfield 23, 3) := by decide +kernel
theorem dX3_set_89 : decode cX3_set 89 = .ok (.aload_n 0, 1) := by decide +kernel
theorem dX3_set_90 : decode cX3_set 90 = .ok (.iload_n 1, 1) := by decide +kernel
theorem dX3_set_91 : decode cX3_set 91 = .ok (.iconst 1, 1) := by decide +kernel
theorem dX3_set_92 : decode cX3_set 92 = .ok (.if_icmp .ne 7, 3) := by decide +kernel
theorem dX3_set_95 : decode cX3_set 95 = .ok (.iload_n 2, 1) := by decide +kernel
theorem dX3_set_96 : decode cX3_set 96 = .ok (.goto 7, 3) := by decide +kernel
theorem dX3_set_99 : decode cX3_set 99 = .ok (.aload_n 0, 1) := by decide +kernel
theorem dX3_set_100 : decode cX3_set 100 = .ok (.getfield 100, 3) := by decide +kernel
theorem dX3_set_103 : decode cX3_set 103 = .ok (.putfield 100, 3) := by decide +kernel
theorem dX3_set_106 : decode cX3_set 106 = .ok (.iload_n 3, 1) := by decide +kernel
theorem dX3_set_107 : decode cX3_set 107 = .ok (.ireturn, 1) := by decide +kernel
set_option maxRecDepth 20000 in
theorem ggX3_isWord_X3_in : GoodIn wsX3_isWord wsX3_in := goodIn_r _ [5] (by decide +kernel) (by decide +kernel)
set_option maxRecDepth 20000 in
theorem gX3_isWord_X3_in : GoodIn wsX3_isWord (va_wsS RX3 56 yX3_in wsX3_in) := goodIn_app (goodIn_of _ (by decide +kernel)) ggX3_isWord_X3_in
theorem dX3_isWord_0 : decode cX3_isWord 0 = .ok (.iload_n 0, 1) := by decide +kernel
theorem dX3_isWord_1 : decode cX3_isWord 1 = .ok (.i2l, 1) := by decide +kernel
theorem dX3_isWord_2 : decode cX3_isWord 2 = .ok (.lconst 1, 1) := by decide +kernel
theorem dX3_isWord_3 : decode cX3_isWord 3 = .ok (.ldc2_w 103, 3) := by decide +kernel
theorem dX3_isWord_6 : decode cX3_isWord 6 = .ok (.invokestatic 56, 3) := by decide +kernel
theorem dX3_isWord_9 : decode cX3_isWord 9 = .ok (.ireturn, 1) := by decide +kernel
set_option maxRecDepth 20000 in
theorem ggX3_words_X3_in : GoodIn wsX3_words wsX3_in := goodIn_r _ [9] (by decide +kernel) (by decide +kernel)
set_option maxRecDepth 20000 in
theorem gX3_words_X3_in : GoodIn wsX3_words (va_wsS RX3 56 yX3_in wsX3_in) := goodIn_app (goodIn_of _ (by decide +kernel)) ggX3_words_X3_in
set_option maxRecDepth 20000 in
theorem ggX3_words_X3_isWord : GoodIn wsX3_words wsX3_isWord := goodIn_r _ [12, 13, 6, 7, 8, 9] (by decide +kernel) (by decide +kernel)
set_option maxRecDepth 20000 in
theorem gX3_words_X3_isWord : GoodIn wsX3_words (va_wsS RX3 107 yX3_isWord wsX3_isWord) := goodIn_app (goodIn_of _ (by decide +kernel)) ggX3_words_X3_isWord
theorem dX3_words_0 : decode cX3_words 0 = .ok (.aload_n 0, 1) := by decide +kernel
theorem dX3_words_1 : decode cX3_words 1 = .ok (.iconst 0, 1) := by decide +kernel
theorem dX3_words_2 : decode cX3_words 2 = .ok (.putfield 51, 3) := by decide +kernel
theorem dX3_words_5 : decode cX3_words 5 = .ok (.iload_n 1, 1) := by decide +kernel
theorem dX3_words_6 : decode cX3_words 6 = .ok (.i2l, 1) := by decide +kernel
theorem dX3_words_7 : decode cX3_words 7 = .ok (.lconst 1, 1) := by decide +kernel
theorem dX3_words_8 : decode cX3_words 8 = .ok (.ldc2_w 105, 3) := by decide +kernel
theorem dX3_words_11 : decode cX3_words 11 = .ok (.invokestatic 56, 3) := by decide +kernel
theorem dX3_words_14 : decode cX3_words 14 = .ok (.ifCond .eq 48, 3) := by decide +kernel
theorem dX3_words_17 : decode cX3_words 17 = .ok (.iload_n 2, 1) := by decide +kernel
theorem dX3_words_18 : decode cX3_words 18 = .ok (.invokestatic 107, 3) := by decide +kernel
theorem dX3_words_21 : decode cX3_words 21 = .ok (.ifCond .eq 41, 3) := by decide +kernel
theorem dX3_words_24 : decode cX3_words 24 = .ok (.iload_n 1, 1) := by decide +kernel
theorem dX3_words_25 : decode cX3_words 25 = .ok (.iconst 1, 1) := by decide +kernel
theorem dX3_words_26 : decode cX3_words 26 = .ok (.if_icmp .le 10, 3) := by decide +kernel
theorem dX3_words_29 : decode cX3_words 29 = .ok (.iload_n 3, 1) := by decide +kernel
theorem dX3_words_30 : decode cX3_words 30 = .ok (.invokestatic 107, 3) := by decide +kernel
theorem dX3_words_33 : decode cX3_words 33 = .ok (.ifCond .eq 29, 3) := by decide +kernel
theorem dX3_words_36 : decode cX3_words 36 = .ok (.iload_n 1, 1) := by decide +kernel
theorem dX3_words_37 : decode cX3_words 37 = .ok (.iconst 2, 1) := by decide +kernel
theorem dX3_words_38 : decode cX3_words 38 = .ok (.if_icmp .le 11, 3) := by decide +kernel
theorem dX3_words_41 : decode cX3_words 41 = .ok (.iload 4, 2) := by decide +kernel
theorem dX3_words_43 : decode cX3_words 43 = .ok (.invokestatic 107, 3) := by decide +kernel
theorem dX3_words_46 : decode cX3_words 46 = .ok (.ifCond .eq 16, 3) := by decide +kernel
theorem dX3_words_49 : decode cX3_words 49 = .ok (.iload_n 1, 1) := by decide +kernel
theorem dX3_words_50 : decode cX3_words 50 = .ok (.iconst 3, 1) := by decide +kernel
theorem dX3_words_51 : decode cX3_words 51 = .ok (.if_icmp .le 13, 3) := by decide +kernel
theorem dX3_words_54 : decode cX3_words 54 = .ok (.iload 5, 2) := by decide +kernel
theorem dX3_words_56 : decode cX3_words 56 = .ok (.invokestatic 107, 3) := by decide +kernel
theorem dX3_words_59 : decode cX3_words 59 = .ok (.ifCond .ne 5, 3) := by decide +kernel
theorem dX3_words_62 : decode cX3_words 62 = .ok (.iconst (-1), 1) := by decide +kernel
theorem dX3_words_63 : decode cX3_words 63 = .ok (.ireturn, 1) := by decide +kernel
theorem dX3_words_64 : decode cX3_words 64 = .ok (.aload_n 0, 1) := by decide +kernel
theorem dX3_words_65 : decode cX3_words 65 = .ok (.getfield 86, 3) := by decide +kernel
theorem dX3_words_68 : decode cX3_words 68 = .ok (.ifCond .le 6, 3) := by decide +kernel
theorem dX3_words_71 : decode cX3_words 71 = .ok (.bipush (-2), 2) := by decide +kernel
theorem dX3_words_73 : decode cX3_words 73 = .ok (.ireturn, 1) := by decide +kernel
theorem dX3_words_74 : decode cX3_words 74 = .ok (.aload_n 0, 1) := by decide +kernel
theorem dX3_words_75 : decode cX3_words 75 = .ok (.getfield 29, 3) := by decide +kernel
theorem dX3_words_78 : decode cX3_words 78 = .ok (.iconst 0, 1) := by decide +kernel
theorem dX3_words_79 : decode cX3_words 79 = .ok (.iload_n 2, 1) := by decide +kernel
theorem dX3_words_80 : decode cX3_words 80 = .ok (.iastore, 1) := by decide +kernel
theorem dX3_words_81 : decode cX3_words 81 = .ok (.aload_n 0, 1) := by decide +kernel
theorem dX3_words_82 : decode cX3_words 82 = .ok (.getfield 29, 3) := by decide +kernel
theorem dX3_words_85 : decode cX3_words 85 = .ok (.iconst 1, 1) := by decide +kernel
theorem dX3_words_86 : decode cX3_words 86 = .ok (.iload_n 1, 1) := by decide +kernel
theorem dX3_words_87 : decode cX3_words 87 = .ok (.iconst 1, 1) := by decide +kernel
theorem dX3_words_88 : decode cX3_words 88 = .ok (.if_icmp .le 7, 3) := by decide +kernel
theorem dX3_words_91 : decode cX3_words 91 = .ok (.iload_n 3, 1) := by decide +kernel
theorem dX3_words_92 : decode cX3_words 92 = .ok (.goto 4, 3) := by decide +kernel
theorem dX3_words_95 : decode cX3_words 95 = .ok (.iconst 0, 1) := by decide +kernel
theorem dX3_words_96 : decode cX3_words 96 = .ok (.iastore, 1) := by decide +kernel
theorem dX3_words_97 : decode cX3_words 97 = .ok (.aload_n 0, 1) := by decide +kernel
theorem dX3_words_98 : decode cX3_words 98 = .ok (.getfield 29, 3) := by decide +kernel
theorem dX3_words_101 : decode cX3_words 101 = .ok (.iconst 2, 1) := by decide +kernel
theorem dX3_words_102 : decode cX3_words 102 = .ok (.iload_n 1, 1) := by decide +kernel
theorem dX3_words_103 : decode cX3_words 103 = .ok (.iconst 2, 1) := by decide +kernel
theorem dX3_words_104 : decode cX3_words 104 = .ok (.if_icmp .le 8, 3) := by decide +kernel
theorem dX3_words_107 : decode cX3_words 107 = .ok (.iload 4, 2) := by decide +kernel
theorem dX3_words_109 : decode cX3_words 109 = .ok (.goto 4, 3) := by decide +kernel
theorem dX3_words_112 : decode cX3_words 112 = .ok (.iconst 0, 1) := by decide +kernel
theorem dX3_words_113 : decode cX3_words 113 = .ok (.iastore, 1) := by decide +kernel
theorem dX3_words_114 : decode cX3_words 114 = .ok (.aload_n 0, 1) := by decide +kernel
theorem dX3_words_115 : decode cX3_words 115 = .ok (.getfield 29, 3) := by decide +kernel
theorem dX3_words_118 : decode cX3_words 118 = .ok (.iconst 3, 1) := by decide +kernel
theorem dX3_words_119 : decode cX3_words 119 = .ok (.iload_n 1, 1) := by decide +kernel
theorem dX3_words_120 : decode cX3_words 120 = .ok (.iconst 3, 1) := by decide +kernel
theorem dX3_words_121 : decode cX3_words 121 = .ok (.if_icmp .le 8, 3) := by decide +kernel
theorem dX3_words_124 : decode cX3_words 124 = .ok (.iload 5, 2) := by decide +kernel
theorem dX3_words_126 : decode cX3_words 126 = .ok (.goto 4, 3) := by decide +kernel
theorem dX3_words_129 : decode cX3_words 129 = .ok (.iconst 0, 1) := by decide +kernel
theorem dX3_words_130 : decode cX3_words 130 = .ok (.iastore, 1) := by decide +kernel
theorem dX3_words_131 : decode cX3_words 131 = .ok (.aload_n 0, 1) := by decide +kernel
theorem dX3_words_132 : decode cX3_words 132 = .ok (.iload_n 1, 1) := by decide +kernel
theorem dX3_words_133 : decode cX3_words 133 = .ok (.putfield 26, 3) := by decide +kernel
theorem dX3_words_136 : decode cX3_words 136 = .ok (.iload_n 1, 1) := by decide +kernel
theorem dX3_words_137 : decode cX3_words 137 = .ok (.iconst 1, 1) := by decide +kernel
theorem dX3_words_138 : decode cX3_words 138 = .ok (.isub, 1) := by decide +kernel
theorem dX3_words_139 : decode cX3_words 139 = .ok (.istore 7, 2) := by decide +kernel
theorem dX3_words_141 : decode cX3_words 141 = .ok (.iload 7, 2) := by decide +kernel
theorem dX3_words_143 : decode cX3_words 143 = .ok (.ifCond .lt 40, 3) := by decide +kernel
theorem dX3_words_146 : decode cX3_words 146 = .ok (.iload 6, 2) := by decide +kernel
theorem dX3_words_148 : decode cX3_words 148 = .ok (.ifCond .eq 35, 3) := by decide +kernel
theorem dX3_words_151 : decode cX3_words 151 = .ok (.aload_n 0, 1) := by decide +kernel
theorem dX3_words_152 : decode cX3_words 152 = .ok (.getfield 29, 3) := by decide +kernel
theorem dX3_words_155 : decode cX3_words 155 = .ok (.aload_n 0, 1) := by decide +kernel
theorem dX3_words_156 : decode cX3_words 156 = .ok (.getfield 26, 3) := by decide +kernel
theorem dX3_words_159 : decode cX3_words 159 = .ok (.aload_n 0, 1) := by decide +kernel
theorem dX3_words_160 : decode cX3_words 160 = .ok (.getfield 29, 3) := by decide +kernel
theorem dX3_words_163 : decode cX3_words 163 = .ok (.iload 7, 2) := by decide +kernel
theorem dX3_words_165 : decode cX3_words 165 = .ok (.iaload, 1) := by decide +kernel
theorem dX3_words_166 : decode cX3_words 166 = .ok (.iastore, 1) := by decide +kernel
theorem dX3_words_167 : decode cX3_words 167 = .ok (.aload_n 0, 1) := by decide +kernel
theorem dX3_words_168 : decode cX3_words 168 = .ok (.dup, 1) := by decide +kernel
theorem dX3_words_169 : decode cX3_words 169 = .ok (.getfield 26, 3) := by decide +kernel
theorem dX3_words_172 : decode cX3_words 172 = .ok (.iconst 1, 1) := by decide +kernel
theorem dX3_words_173 : decode cX3_words 173 = .ok (.iadd, 1) := by decide +kernel
theorem dX3_words_174 : decode cX3_words 174 = .ok (.putfield 26, 3) := by decide +kernel
theorem dX3_words_177 : decode cX3_words 177 = .ok (.iinc 7 (-1), 3) := by decide +kernel
theorem dX3_words_180 : decode cX3_words 180 = .ok (.goto (-39), 3) := by decide +kernel
theorem dX3_words_183 : decode cX3_words 183 = .ok (.aload_n 0, 1) := by decide +kernel
theorem dX3_words_184 : decode cX3_words 184 = .ok (.getfield 26, 3) := by decide +kernel
theorem dX3_words_187 : decode cX3_words 187 = .ok (.ireturn, 1) := by decide +kernel
theorem dX3_countOf_0 : decode cX3_countOf 0 = .ok (.aload_n 0, 1) := by decide +kernel
theorem dX3_countOf_1 : decode cX3_countOf 1 = .ok (.getfield 23, 3) := by decide +kernel
theorem dX3_countOf_4 : decode cX3_countOf 4 = .ok (.istore_n 2, 1) := by decide +kernel
theorem dX3_countOf_5 : decode cX3_countOf 5 = .ok (.aload_n 0, 1) := by decide +kernel
theorem dX3_countOf_6 : decode cX3_countOf 6 = .ok (.getfield 100, 3) := by decide +kernel
theorem dX3_countOf_9 : decode cX3_countOf 9 = .ok (.ifCond .le 17, 3) := by decide +kernel
theorem dX3_countOf_12 : decode cX3_countOf 12 = .ok (.iload_n 2, 1) := by decide +kernel
theorem dX3_countOf_13 : decode cX3_countOf 13 = .ok (.aload_n 0, 1) := by decide +kernel
theorem dX3_countOf_14 : decode cX3_countOf 14 = .ok (.getfield 29, 3) := by decide +kernel
theorem dX3_countOf_17 : decode cX3_countOf 17 = .ok (.iload_n 1, 1) := by decide +kernel
theorem dX3_countOf_18 : decode cX3_countOf 18 = .ok (.aload_n 0, 1) := by decide +kernel
theorem dX3_countOf_19 : decode cX3_countOf 19 = .ok (.getfield 26, 3) := by decide +kernel
theorem dX3_countOf_22 : decode cX3_countOf 22 = .ok (.irem, 1) := by decide +kernel
theorem dX3_countOf_23 : decode cX3_countOf 23 = .ok (.iaload, 1) := by decide +kernel
