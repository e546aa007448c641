theorem dX3_countOf_24 : decode cX3_countOf 24 = .ok (.iadd, 1) := by decide +kernel
theorem dX3_countOf_25 : decode cX3_countOf 25 = .ok (.istore_n 2, 1) := by decide +kernel
theorem dX3_countOf_26 : decode cX3_countOf 26 = .ok (.aload_n 0, 1) := by decide +kernel
theorem dX3_countOf_27 : decode cX3_countOf 27 = .ok (.getfield 100, 3) := by decide +kernel
theorem dX3_countOf_30 : decode cX3_countOf 30 = .ok (.iconst 2, 1) := by decide +kernel
theorem dX3_countOf_31 : decode cX3_countOf 31 = .ok (.if_icmp .ne 15, 3) := by decide +kernel
theorem dX3_countOf_34 : decode cX3_countOf 34 = .ok (.iload_n 1, 1) := by decide +kernel
theorem dX3_countOf_35 : decode cX3_countOf 35 = .ok (.iconst 2, 1) := by decide +kernel
theorem dX3_countOf_36 : decode cX3_countOf 36 = .ok (.irem, 1) := by decide +kernel
theorem dX3_countOf_37 : decode cX3_countOf 37 = .ok (.iconst 1, 1) := by decide +kernel
theorem dX3_countOf_38 : decode cX3_countOf 38 = .ok (.if_icmp .ne 8, 3) := by decide +kernel
theorem dX3_countOf_41 : decode cX3_countOf 41 = .ok (.iload_n 2, 1) := by decide +kernel
theorem dX3_countOf_42 : decode cX3_countOf 42 = .ok (.ineg, 1) := by decide +kernel
theorem dX3_countOf_43 : decode cX3_countOf 43 = .ok (.goto 4, 3) := by decide +kernel
theorem dX3_countOf_46 : decode cX3_countOf 46 = .ok (.iload_n 2, 1) := by decide +kernel
theorem dX3_countOf_47 : decode cX3_countOf 47 = .ok (.ireturn, 1) := by decide +kernel
set_option maxRecDepth 20000 in
theorem ggX3_count_X3_in : GoodIn wsX3_count wsX3_in := goodIn_r _ [10] (by decide +kernel) (by decide +kernel)
set_option maxRecDepth 20000 in
theorem gX3_count_X3_in : GoodIn wsX3_count (va_wsS RX3 56 yX3_in wsX3_in) := goodIn_app (goodIn_of _ (by decide +kernel)) ggX3_count_X3_in
set_option maxRecDepth 20000 in
theorem ggX3_count_X3_countOf : GoodIn wsX3_count wsX3_countOf := goodIn_r _ [14, 15, 4, 16, 17, 18, 19, 20, 21, 22, 23, 24, 25, 26, 27, 28, 29, 30, 31, 32, 33, 34] (by decide +kernel) (by decide +kernel)
set_option maxRecDepth 20000 in
theorem gX3_count_X3_countOf : GoodIn wsX3_count (wsV RX3 120 RX3 yX3_countOf wsX3_countOf) := goodIn_app (goodIn_of _ (by decide +kernel)) ggX3_count_X3_countOf
theorem dX3_count_0 : decode cX3_count 0 = .ok (.aload_n 0, 1) := by decide +kernel
theorem dX3_count_1 : decode cX3_count 1 = .ok (.iconst 0, 1) := by decide +kernel
theorem dX3_count_2 : decode cX3_count 2 = .ok (.putfield 51, 3) := by decide +kernel
theorem dX3_count_5 : decode cX3_count 5 = .ok (.iload_n 1, 1) := by decide +kernel
theorem dX3_count_6 : decode cX3_count 6 = .ok (.i2l, 1) := by decide +kernel
theorem dX3_count_7 : decode cX3_count 7 = .ok (.lconst 0, 1) := by decide +kernel
theorem dX3_count_8 : decode cX3_count 8 = .ok (.ldc2_w 110, 3) := by decide +kernel
theorem dX3_count_11 : decode cX3_count 11 = .ok (.invokestatic 56, 3) := by decide +kernel
theorem dX3_count_14 : decode cX3_count 14 = .ok (.ifCond .ne 7, 3) := by decide +kernel
theorem dX3_count_17 : decode cX3_count 17 = .ok (.sipush (-1000), 3) := by decide +kernel
theorem dX3_count_20 : decode cX3_count 20 = .ok (.ireturn, 1) := by decide +kernel
theorem dX3_count_21 : decode cX3_count 21 = .ok (.aload_n 0, 1) := by decide +kernel
theorem dX3_count_22 : decode cX3_count 22 = .ok (.dup, 1) := by decide +kernel
theorem dX3_count_23 : decode cX3_count 23 = .ok (.getfield 112, 3) := by decide +kernel
theorem dX3_count_26 : decode cX3_count 26 = .ok (.aload_n 0, 1) := by decide +kernel
theorem dX3_count_27 : decode cX3_count 27 = .ok (.getfield 100, 3) := by decide +kernel
theorem dX3_count_30 : decode cX3_count 30 = .ok (.ifCond .ne 7, 3) := by decide +kernel
theorem dX3_count_33 : decode cX3_count 33 = .ok (.lconst 1, 1) := by decide +kernel
theorem dX3_count_34 : decode cX3_count 34 = .ok (.goto 20, 3) := by decide +kernel
theorem dX3_count_37 : decode cX3_count 37 = .ok (.aload_n 0, 1) := by decide +kernel
theorem dX3_count_38 : decode cX3_count 38 = .ok (.getfield 100, 3) := by decide +kernel
theorem dX3_count_41 : decode cX3_count 41 = .ok (.iconst 1, 1) := by decide +kernel
theorem dX3_count_42 : decode cX3_count 42 = .ok (.if_icmp .ne 9, 3) := by decide +kernel
theorem dX3_count_45 : decode cX3_count 45 = .ok (.ldc2_w 116, 3) := by decide +kernel
theorem dX3_count_48 : decode cX3_count 48 = .ok (.goto 6, 3) := by decide +kernel
theorem dX3_count_51 : decode cX3_count 51 = .ok (.ldc2_w 118, 3) := by decide +kernel
theorem dX3_count_54 : decode cX3_count 54 = .ok (.ladd, 1) := by decide +kernel
theorem dX3_count_55 : decode cX3_count 55 = .ok (.putfield 112, 3) := by decide +kernel
theorem dX3_count_58 : decode cX3_count 58 = .ok (.aload_n 0, 1) := by decide +kernel
theorem dX3_count_59 : decode cX3_count 59 = .ok (.iload_n 1, 1) := by decide +kernel
theorem dX3_count_60 : decode cX3_count 60 = .ok (.invokevirtual 120, 3) := by decide +kernel
theorem dX3_count_63 : decode cX3_count 63 = .ok (.ireturn, 1) := by decide +kernel
theorem dX3_there_0 : decode cX3_there 0 = .ok (.iconst 0, 1) := by decide +kernel
theorem dX3_there_1 : decode cX3_there 1 = .ok (.istore_n 1, 1) := by decide +kernel
theorem dX3_there_2 : decode cX3_there 2 = .ok (.iconst 0, 1) := by decide +kernel
theorem dX3_there_3 : decode cX3_there 3 = .ok (.istore_n 2, 1) := by decide +kernel
theorem dX3_there_4 : decode cX3_there 4 = .ok (.iload_n 2, 1) := by decide +kernel
theorem dX3_there_5 : decode cX3_there 5 = .ok (.aload_n 0, 1) := by decide +kernel
theorem dX3_there_6 : decode cX3_there 6 = .ok (.getfield 7, 3) := by decide +kernel
theorem dX3_there_9 : decode cX3_there 9 = .ok (.if_icmp .ge 26, 3) := by decide +kernel
theorem dX3_there_12 : decode cX3_there 12 = .ok (.iload_n 1, 1) := by decide +kernel
theorem dX3_there_13 : decode cX3_there 13 = .ok (.aload_n 0, 1) := by decide +kernel
theorem dX3_there_14 : decode cX3_there 14 = .ok (.getfield 17, 3) := by decide +kernel
theorem dX3_there_17 : decode cX3_there 17 = .ok (.iload_n 2, 1) := by decide +kernel
theorem dX3_there_18 : decode cX3_there 18 = .ok (.iaload, 1) := by decide +kernel
theorem dX3_there_19 : decode cX3_there 19 = .ok (.ifCond .le 7, 3) := by decide +kernel
theorem dX3_there_22 : decode cX3_there 22 = .ok (.iconst 1, 1) := by decide +kernel
theorem dX3_there_23 : decode cX3_there 23 = .ok (.goto 4, 3) := by decide +kernel
theorem dX3_there_26 : decode cX3_there 26 = .ok (.iconst 0, 1) := by decide +kernel
theorem dX3_there_27 : decode cX3_there 27 = .ok (.iadd, 1) := by decide +kernel
theorem dX3_there_28 : decode cX3_there 28 = .ok (.istore_n 1, 1) := by decide +kernel
theorem dX3_there_29 : decode cX3_there 29 = .ok (.iinc 2 1, 3) := by decide +kernel
theorem dX3_there_32 : decode cX3_there 32 = .ok (.goto (-28), 3) := by decide +kernel
theorem dX3_there_35 : decode cX3_there 35 = .ok (.iload_n 1, 1) := by decide +kernel
theorem dX3_there_36 : decode cX3_there 36 = .ok (.ireturn, 1) := by decide +kernel
theorem dX3_next_0 : decode cX3_next 0 = .ok (.iload_n 1, 1) := by decide +kernel
theorem dX3_next_1 : decode cX3_next 1 = .ok (.istore_n 3, 1) := by decide +kernel
theorem dX3_next_2 : decode cX3_next 2 = .ok (.iload_n 3, 1) := by decide +kernel
theorem dX3_next_3 : decode cX3_next 3 = .ok (.iload_n 2, 1) := by decide +kernel
theorem dX3_next_4 : decode cX3_next 4 = .ok (.iadd, 1) := by decide +kernel
theorem dX3_next_5 : decode cX3_next 5 = .ok (.aload_n 0, 1) := by decide +kernel
theorem dX3_next_6 : decode cX3_next 6 = .ok (.getfield 7, 3) := by decide +kernel
theorem dX3_next_9 : decode cX3_next 9 = .ok (.iadd, 1) := by decide +kernel
theorem dX3_next_10 : decode cX3_next 10 = .ok (.aload_n 0, 1) := by decide +kernel
theorem dX3_next_11 : decode cX3_next 11 = .ok (.getfield 7, 3) := by decide +kernel
theorem dX3_next_14 : decode cX3_next 14 = .ok (.irem, 1) := by decide +kernel
theorem dX3_next_15 : decode cX3_next 15 = .ok (.istore_n 3, 1) := by decide +kernel
theorem dX3_next_16 : decode cX3_next 16 = .ok (.aload_n 0, 1) := by decide +kernel
theorem dX3_next_17 : decode cX3_next 17 = .ok (.getfield 17, 3) := by decide +kernel
theorem dX3_next_20 : decode cX3_next 20 = .ok (.iload_n 3, 1) := by decide +kernel
theorem dX3_next_21 : decode cX3_next 21 = .ok (.iaload, 1) := by decide +kernel
theorem dX3_next_22 : decode cX3_next 22 = .ok (.ifCond .eq (-20), 3) := by decide +kernel
theorem dX3_next_25 : decode cX3_next 25 = .ok (.iload_n 3, 1) := by decide +kernel
theorem dX3_next_26 : decode cX3_next 26 = .ok (.ireturn, 1) := by decide +kernel
set_option maxRecDepth 20000 in
theorem ggX3_goesOn_X3_countOf : GoodIn wsX3_goesOn wsX3_countOf := goodIn_r _ [12, 13, 14, 15, 16, 25, 26, 27, 28, 29, 30, 31, 32, 33, 34, 35, 36, 37, 38, 39, 40, 41] (by decide +kernel) (by decide +kernel)
set_option maxRecDepth 20000 in
theorem gX3_goesOn_X3_countOf : GoodIn wsX3_goesOn (wsV RX3 120 RX3 yX3_countOf wsX3_countOf) := goodIn_app (goodIn_of _ (by decide +kernel)) ggX3_goesOn_X3_countOf
set_option maxRecDepth 20000 in
theorem ggX3_goesOn_X3_next : GoodIn wsX3_goesOn wsX3_next := goodIn_r _ [20, 7, 5, 25, 26, 27, 28, 29, 30, 31, 32, 33, 34, 35, 36, 37, 38, 39, 40, 41] (by decide +kernel) (by decide +kernel)
set_option maxRecDepth 20000 in
theorem gX3_goesOn_X3_next : GoodIn wsX3_goesOn (wsV RX3 124 RX3 yX3_next wsX3_next) := goodIn_app (goodIn_of _ (by decide +kernel)) ggX3_goesOn_X3_next
set_option maxRecDepth 20000 in
theorem ggX3_goesOn_X3_there : GoodIn wsX3_goesOn wsX3_there := goodIn_r _ [24, 7, 5, 25, 26, 27, 28, 29, 30, 31, 32, 33, 34, 35, 36, 37, 38, 39, 40, 41] (by decide +kernel) (by decide +kernel)
set_option maxRecDepth 20000 in
theorem gX3_goesOn_X3_there : GoodIn wsX3_goesOn (wsV RX3 128 RX3 yX3_there wsX3_there) := goodIn_app (goodIn_of _ (by decide +kernel)) ggX3_goesOn_X3_there
theorem dX3_goesOn_0 : decode cX3_goesOn 0 = .ok (.aload_n 0, 1) := by decide +kernel
theorem dX3_goesOn_1 : decode cX3_goesOn 1 = .ok (.aload_n 0, 1) := by decide +kernel
theorem dX3_goesOn_2 : decode cX3_goesOn 2 = .ok (.getfield 86, 3) := by decide +kernel
theorem dX3_goesOn_5 : decode cX3_goesOn 5 = .ok (.invokevirtual 120, 3) := by decide +kernel
theorem dX3_goesOn_8 : decode cX3_goesOn 8 = .ok (.istore_n 1, 1) := by decide +kernel
theorem dX3_goesOn_9 : decode cX3_goesOn 9 = .ok (.aload_n 0, 1) := by decide +kernel
theorem dX3_goesOn_10 : decode cX3_goesOn 10 = .ok (.getfield 89, 3) := by decide +kernel
theorem dX3_goesOn_13 : decode cX3_goesOn 13 = .ok (.istore_n 2, 1) := by decide +kernel
theorem dX3_goesOn_14 : decode cX3_goesOn 14 = .ok (.iload_n 1, 1) := by decide +kernel
theorem dX3_goesOn_15 : decode cX3_goesOn 15 = .ok (.ifCond .le 26, 3) := by decide +kernel
theorem dX3_goesOn_18 : decode cX3_goesOn 18 = .ok (.iconst 1, 1) := by decide +kernel
theorem dX3_goesOn_19 : decode cX3_goesOn 19 = .ok (.istore_n 3, 1) := by decide +kernel
theorem dX3_goesOn_20 : decode cX3_goesOn 20 = .ok (.iload_n 3, 1) := by decide +kernel
theorem dX3_goesOn_21 : decode cX3_goesOn 21 = .ok (.iload_n 1, 1) := by decide +kernel
theorem dX3_goesOn_22 : decode cX3_goesOn 22 = .ok (.if_icmp .ge 16, 3) := by decide +kernel
theorem dX3_goesOn_25 : decode cX3_goesOn 25 = .ok (.aload_n 0, 1) := by decide +kernel
theorem dX3_goesOn_26 : decode cX3_goesOn 26 = .ok (.iload_n 2, 1) := by decide +kernel
theorem dX3_goesOn_27 : decode cX3_goesOn 27 = .ok (.iconst 1, 1) := by decide +kernel
theorem dX3_goesOn_28 : decode cX3_goesOn 28 = .ok (.invokevirtual 124, 3) := by decide +kernel
theorem dX3_goesOn_31 : decode cX3_goesOn 31 = .ok (.istore_n 2, 1) := by decide +kernel
theorem dX3_goesOn_32 : decode cX3_goesOn 32 = .ok (.iinc 3 1, 3) := by decide +kernel
theorem dX3_goesOn_35 : decode cX3_goesOn 35 = .ok (.goto (-15), 3) := by decide +kernel
theorem dX3_goesOn_38 : decode cX3_goesOn 38 = .ok (.goto 24, 3) := by decide +kernel
theorem dX3_goesOn_41 : decode cX3_goesOn 41 = .ok (.iconst 0, 1) := by decide +kernel
theorem dX3_goesOn_42 : decode cX3_goesOn 42 = .ok (.istore_n 3, 1) := by decide +kernel
theorem dX3_goesOn_43 : decode cX3_goesOn 43 = .ok (.iload_n 3, 1) := by decide +kernel
theorem dX3_goesOn_44 : decode cX3_goesOn 44 = .ok (.iload_n 1, 1) := by decide +kernel
theorem dX3_goesOn_45 : decode cX3_goesOn 45 = .ok (.ineg, 1) := by decide +kernel
theorem dX3_goesOn_46 : decode cX3_goesOn 46 = .ok (.if_icmp .ge 16, 3) := by decide +kernel
theorem dX3_goesOn_49 : decode cX3_goesOn 49 = .ok (.aload_n 0, 1) := by decide +kernel
theorem dX3_goesOn_50 : decode cX3_goesOn 50 = .ok (.iload_n 2, 1) := by decide +kernel
theorem dX3_goesOn_51 : decode cX3_goesOn 51 = .ok (.iconst (-1), 1) := by decide +kernel
theorem dX3_goesOn_52 : decode cX3_goesOn 52 = .ok (.invokevirtual 124, 3) := by decide +kernel
theorem dX3_goesOn_55 : decode cX3_goesOn 55 = .ok (.istore_n 2, 1) := by decide +kernel
theorem dX3_goesOn_56 : decode cX3_goesOn 56 = .ok (.iinc 3 1, 3) := by decide +kernel
theorem dX3_goesOn_59 : decode cX3_goesOn 59 = .ok (.goto (-16), 3) := by decide +kernel
theorem dX3_goesOn_62 : decode cX3_goesOn 62 = .ok (.aload_n 0, 1) := by decide +kernel
theorem dX3_goesOn_63 : decode cX3_goesOn 63 = .ok (.getfield 32, 3) := by decide +kernel
theorem dX3_goesOn_66 : decode cX3_goesOn 66 = .ok (.aload_n 0, 1) := by decide +kernel
theorem dX3_goesOn_67 : decode cX3_goesOn 67 = .ok (.getfield 86, 3) := by decide +kernel
theorem dX3_goesOn_70 : decode cX3_goesOn 70 = .ok (.iload_n 2, 1) := by decide +kernel
theorem dX3_goesOn_71 : decode cX3_goesOn 71 = .ok (.iastore, 1) := by decide +kernel
theorem dX3_goesOn_72 : decode cX3_goesOn 72 = .ok (.aload_n 0, 1) := by decide +kernel
theorem dX3_goesOn_73 : decode cX3_goesOn 73 = .ok (.getfield 35, 3) := by decide +kernel
theorem dX3_goesOn_76 : decode cX3_goesOn 76 = .ok (.aload_n 0, 1) := by decide +kernel
theorem dX3_goesOn_77 : decode cX3_goesOn 77 = .ok (.getfield 86, 3) := by decide +kernel
theorem dX3_goesOn_80 : decode cX3_goesOn 80 = .ok (.aload_n 0, 1) := by decide +kernel
theorem dX3_goesOn_81 : decode cX3_goesOn 81 = .ok (.getfield 89, 3) := by decide +kernel
theorem dX3_goesOn_84 : decode cX3_goesOn 84 = .ok (.iastore, 1) := by decide +kernel
theorem dX3_goesOn_85 : decode cX3_goesOn 85 = .ok (.aload_n 0, 1) := by decide +kernel
theorem dX3_goesOn_86 : decode cX3_goesOn 86 = .ok (.getfield 17, 3) := by decide +kernel
theorem dX3_goesOn_89 : decode cX3_goesOn 89 = .ok (.iload_n 2, 1) := by decide +kernel
theorem dX3_goesOn_90 : decode cX3_goesOn 90 = .ok (.dup2, 1) := by decide +kernel
theorem dX3_goesOn_91 : decode cX3_goesOn 91 = .ok (.iaload, 1) := by decide +kernel
theorem dX3_goesOn_92 : decode cX3_goesOn 92 = .ok (.iconst 1, 1) := by decide +kernel
theorem dX3_goesOn_93 : decode cX3_goesOn 93 = .ok (.isub, 1) := by decide +kernel
theorem dX3_goesOn_94 : decode cX3_goesOn 94 = .ok (.iastore, 1) := by decide +kernel
theorem dX3_goesOn_95 : decode cX3_goesOn 95 = .ok (.aload_n 0, 1) := by decide +kernel
theorem dX3_goesOn_96 : decode cX3_goesOn 96 = .ok (.getfield 17, 3) := by decide +kernel
theorem dX3_goesOn_99 : decode cX3_goesOn 99 = .ok (.iload_n 2, 1) := by decide +kernel
theorem dX3_goesOn_100 : decode cX3_goesOn 100 = .ok (.iaload, 1) := by decide +kernel
theorem dX3_goesOn_101 : decode cX3_goesOn 101 = .ok (.ifCond .ne 18, 3) := by decide +kernel
theorem dX3_goesOn_104 : decode cX3_goesOn 104 = .ok (.aload_n 0, 1) := by decide +kernel
theorem dX3_goesOn_105 : decode cX3_goesOn 105 = .ok (.getfield 20, 3) := by decide +kernel
theorem dX3_goesOn_108 : decode cX3_goesOn 108 = .ok (.iload_n 2, 1) := by decide +kernel
theorem dX3_goesOn_109 : decode cX3_goesOn 109 = .ok (.aload_n 0, 1) := by decide +kernel
theorem dX3_goesOn_110 : decode cX3_goesOn 110 = .ok (.getfield 7, 3) := by decide +kernel
theorem dX3_goesOn_113 : decode cX3_goesOn 113 = .ok (.aload_n 0, 1) := by decide +kernel
theorem dX3_goesOn_114 : decode cX3_goesOn 114 = .ok (.invokevirtual 128, 3) := by decide +kernel
theorem dX3_goesOn_117 : decode cX3_goesOn 117 = .ok (.isub, 1) := by decide +kernel
theorem dX3_goesOn_118 : decode cX3_goesOn 118 = .ok (.iastore, 1) := by decide +kernel
theorem dX3_goesOn_119 : decode cX3_goesOn 119 = .ok (.aload_n 0, 1) := by decide +kernel
theorem dX3_goesOn_120 : decode cX3_goesOn 120 = .ok (.dup, 1) := by decide +kernel
theorem dX3_goesOn_121 : decode cX3_goesOn 121 = .ok (.getfield 86, 3) := by decide +kernel
theorem dX3_goesOn_124 : decode cX3_goesOn 124 = .ok (.iconst 1, 1) := by decide +kernel
theorem dX3_goesOn_125 : decode cX3_goesOn 125 = .ok (.iadd, 1) := by decide +kernel
theorem dX3_goesOn_126 : decode cX3_goesOn 126 = .ok (.putfield 86, 3) := by decide +kernel
theorem dX3_goesOn_129 : decode cX3_goesOn 129 = .ok (.aload_n 0, 1) := by decide +kernel
theorem dX3_goesOn_130 : decode cX3_goesOn 130 = .ok (.aload_n 0, 1) := by decide +kernel
theorem dX3_goesOn_131 : decode cX3_goesOn 131 = .ok (.iload_n 2, 1) := by decide +kernel
theorem dX3_goesOn_132 : decode cX3_goesOn 132 = .ok (.iconst 1, 1) := by decide +kernel
theorem dX3_goesOn_133 : decode cX3_goesOn 133 = .ok (.invokevirtual 124, 3) := by decide +kernel
theorem dX3_goesOn_136 : decode cX3_goesOn 136 = .ok (.putfield 89, 3) := by decide +kernel
theorem dX3_goesOn_139 : decode cX3_goesOn 139 = .ok (.return_, 1) := by decide +kernel
set_option maxRecDepth 20000 in
theorem ggX3_turns_X3_in : GoodIn wsX3_turns wsX3_in := goodIn_r _ [6] (by decide +kernel) (by decide +kernel)
set_option maxRecDepth 20000 in
theorem gX3_turns_X3_in : GoodIn wsX3_turns (va_wsS RX3 56 yX3_in wsX3_in) := goodIn_app (goodIn_of _ (by decide +kernel)) ggX3_turns_X3_in
set_option maxRecDepth 20000 in
theorem ggX3_turns_X3_there : GoodIn wsX3_turns wsX3_there := goodIn_r _ [10, 11, 12, 34, 35, 36, 37, 38, 39, 40, 41, 42, 43, 44, 45, 46, 47, 48, 49, 50] (by decide +kernel) (by decide +kernel)
set_option maxRecDepth 20000 in
theorem gX3_turns_X3_there : GoodIn wsX3_turns (wsV RX3 128 RX3 yX3_there wsX3_there) := goodIn_app (goodIn_of _ (by decide +kernel)) ggX3_turns_X3_there
set_option maxRecDepth 20000 in
theorem ggX3_turns_X3_goesOn : GoodIn wsX3_turns wsX3_goesOn := goodIn_r _ [16, 17, 18, 19, 20, 12, 21, 11, 22, 23, 24, 5, 25, 26, 27, 28, 29, 30, 31, 32, 33, 7, 8, 9, 10, 34, 35, 36, 37, 38, 39, 40, 41, 42, 43, 44, 45, 46, 47, 48, 49, 50] (by decide +kernel) (by decide +kernel)
set_option maxRecDepth 20000 in
theorem gX3_turns_X3_goesOn : GoodIn wsX3_turns (wsV RX3 134 RX3 yX3_goesOn wsX3_goesOn) := goodIn_app (goodIn_of _ (by decide +kernel)) ggX3_turns_X3_goesOn
theorem dX3_turns_0 : decode cX3_turns 0 = .ok (.aload_n 0, 1) := by decide +kernel
theorem dX3_turns_1 : decode cX3_turns 1 = .ok (.iconst 0, 1) := by decide +kernel
theorem dX3_turns_2 : decode cX3_turns 2 = .ok (.putfield 51, 3) := by decide +kernel
theorem dX3_turns_5 : decode cX3_turns 5 = .ok (.iload_n 1, 1) := by decide +kernel
theorem dX3_turns_6 : decode cX3_turns 6 = .ok (.i2l, 1) := by decide +kernel
theorem dX3_turns_7 : decode cX3_turns 7 = .ok (.lconst 1, 1) := by decide +kernel
theorem dX3_turns_8 : decode cX3_turns 8 = .ok (.ldc2_w 132, 3) := by decide +kernel
theorem dX3_turns_11 : decode cX3_turns 11 = .ok (.invokestatic 56, 3) := by decide +kernel
theorem dX3_turns_14 : decode cX3_turns 14 = .ok (.ifCond .ne 5, 3) := by decide +kernel
theorem dX3_turns_17 : decode cX3_turns 17 = .ok (.iconst (-1), 1) := by decide +kernel
theorem dX3_turns_18 : decode cX3_turns 18 = .ok (.ireturn, 1) := by decide +kernel
theorem dX3_turns_19 : decode cX3_turns 19 = .ok (.iconst 0, 1) := by decide +kernel
theorem dX3_turns_20 : decode cX3_turns 20 = .ok (.istore_n 2, 1) := by decide +kernel
theorem dX3_turns_21 : decode cX3_turns 21 = .ok (.iload_n 2, 1) := by decide +kernel
theorem dX3_turns_22 : decode cX3_turns 22 = .ok (.iload_n 1, 1) := by decide +kernel
theorem dX3_turns_23 : decode cX3_turns 23 = .ok (.if_icmp .ge 21, 3) := by decide +kernel
theorem dX3_turns_26 : decode cX3_turns 26 = .ok (.aload_n 0, 1) := by decide +kernel
theorem dX3_turns_27 : decode cX3_turns 27 = .ok (.invokevirtual 128, 3) := by decide +kernel
theorem dX3_turns_30 : decode cX3_turns 30 = .ok (.iconst 1, 1) := by decide +kernel
theorem dX3_turns_31 : decode cX3_turns 31 = .ok (.if_icmp .le 13, 3) := by decide +kernel
theorem dX3_turns_34 : decode cX3_turns 34 = .ok (.aload_n 0, 1) := by decide +kernel
theorem dX3_turns_35 : decode cX3_turns 35 = .ok (.invokevirtual 134, 3) := by decide +kernel
theorem dX3_turns_38 : decode cX3_turns 38 = .ok (.iinc 2 1, 3) := by decide +kernel
theorem dX3_turns_41 : decode cX3_turns 41 = .ok (.goto (-20), 3) := by decide +kernel
theorem dX3_turns_44 : decode cX3_turns 44 = .ok (.iload_n 2, 1) := by decide +kernel
theorem dX3_turns_45 : decode cX3_turns 45 = .ok (.ireturn, 1) := by decide +kernel
set_option maxRecDepth 20000 in
theorem ggX3_back_X3_in : GoodIn wsX3_back wsX3_in := goodIn_r _ [12] (by decide +kernel) (by decide +kernel)
set_option maxRecDepth 20000 in
theorem gX3_back_X3_in : GoodIn wsX3_back (va_wsS RX3 56 yX3_in wsX3_in) := goodIn_app (goodIn_of _ (by decide +kernel)) ggX3_back_X3_in
theorem dX3_back_0 : decode cX3_back 0 = .ok (.aload_n 0, 1) := by decide +kernel
theorem dX3_back_1 : decode cX3_back 1 = .ok (.iconst 0, 1) := by decide +kernel
theorem dX3_back_2 : decode cX3_back 2 = .ok (.putfield 51, 3) := by decide +kernel
theorem dX3_back_5 : decode cX3_back 5 = .ok (.iload_n 1, 1) := by decide +kernel
theorem dX3_back_6 : decode cX3_back 6 = .ok (.i2l, 1) := by decide +kernel
theorem dX3_back_7 : decode cX3_back 7 = .ok (.lconst 1, 1) := by decide +kernel
theorem dX3_back_8 : decode cX3_back 8 = .ok (.ldc2_w 132, 3) := by decide +kernel
theorem dX3_back_11 : decode cX3_back 11 = .ok (.invokestatic 56, 3) := by decide +kernel
theorem dX3_back_14 : decode cX3_back 14 = .ok (.ifCond .ne 5, 3) := by decide +kernel
theorem dX3_back_17 : decode cX3_back 17 = .ok (.iconst (-1), 1) := by decide +kernel
theorem dX3_back_18 : decode cX3_back 18 = .ok (.ireturn, 1) := by decide +kernel
theorem dX3_back_19 : decode cX3_back 19 = .ok (.iconst 0, 1) := by decide +kernel
theorem dX3_back_20 : decode cX3_back 20 = .ok (.istore_n 2, 1) := by decide +kernel
theorem dX3_back_21 : decode cX3_back 21 = .ok (.iload_n 2, 1) := by decide +kernel
theorem dX3_back_22 : decode cX3_back 22 = .ok (.iload_n 1, 1) := by decide +kernel
theorem dX3_back_23 : decode cX3_back 23 = .ok (.if_icmp .ge 67, 3) := by decide +kernel
theorem dX3_back_26 : decode cX3_back 26 = .ok (.aload_n 0, 1) := by decide +kernel
theorem dX3_back_27 : decode cX3_back 27 = .ok (.getfield 86, 3) := by decide +kernel
theorem dX3_back_30 : decode cX3_back 30 = .ok (.ifCond .le 60, 3) := by decide +kernel
theorem dX3_back_33 : decode cX3_back 33 = .ok (.aload_n 0, 1) := by decide +kernel
theorem dX3_back_34 : decode cX3_back 34 = .ok (.dup, 1) := by decide +kernel
theorem dX3_back_35 : decode cX3_back 35 = .ok (.getfield 86, 3) := by decide +kernel
theorem dX3_back_38 : decode cX3_back 38 = .ok (.iconst 1, 1) := by decide +kernel
theorem dX3_back_39 : decode cX3_back 39 = .ok (.isub, 1) := by decide +kernel
theorem dX3_back_40 : decode cX3_back 40 = .ok (.putfield 86, 3) := by decide +kernel
theorem dX3_back_43 : decode cX3_back 43 = .ok (.aload_n 0, 1) := by decide +kernel
theorem dX3_back_44 : decode cX3_back 44 = .ok (.getfield 32, 3) := by decide +kernel
theorem dX3_back_47 : decode cX3_back 47 = .ok (.aload_n 0, 1) := by decide +kernel
theorem dX3_back_48 : decode cX3_back 48 = .ok (.getfield 86, 3) := by decide +kernel
theorem dX3_back_51 : decode cX3_back 51 = .ok (.iaload, 1) := by decide +kernel
theorem dX3_back_52 : decode cX3_back 52 = .ok (.istore_n 3, 1) := by decide +kernel
theorem dX3_back_53 : decode cX3_back 53 = .ok (.aload_n 0, 1) := by decide +kernel
theorem dX3_back_54 : decode cX3_back 54 = .ok (.getfield 17, 3) := by decide +kernel
theorem dX3_back_57 : decode cX3_back 57 = .ok (.iload_n 3, 1) := by decide +kernel
theorem dX3_back_58 : decode cX3_back 58 = .ok (.dup2, 1) := by decide +kernel
theorem dX3_back_59 : decode cX3_back 59 = .ok (.iaload, 1) := by decide +kernel
theorem dX3_back_60 : decode cX3_back 60 = .ok (.iconst 1, 1) := by decide +kernel
theorem dX3_back_61 : decode cX3_back 61 = .ok (.iadd, 1) := by decide +kernel
theorem dX3_back_62 : decode cX3_back 62 = .ok (.iastore, 1) := by decide +kernel
theorem dX3_back_63 : decode cX3_back 63 = .ok (.aload_n 0, 1) := by decide +kernel
theorem dX3_back_64 : decode cX3_back 64 = .ok (.getfield 20, 3) := by decide +kernel
theorem dX3_back_67 : decode cX3_back 67 = .ok (.iload_n 3, 1) := by decide +kernel
theorem dX3_back_68 : decode cX3_back 68 = .ok (.bipush (-9), 2) := by decide +kernel
theorem dX3_back_70 : decode cX3_back 70 = .ok (.iastore, 1) := by decide +kernel
theorem dX3_back_71 : decode cX3_back 71 = .ok (.aload_n 0, 1) := by decide +kernel
theorem dX3_back_72 : decode cX3_back 72 = .ok (.aload_n 0, 1) := by decide +kernel
theorem dX3_back_73 : decode cX3_back 73 = .ok (.getfield 35, 3) := by decide +kernel
theorem dX3_back_76 : decode cX3_back 76 = .ok (.aload_n 0, 1) := by decide +kernel
theorem dX3_back_77 : decode cX3_back 77 = .ok (.getfield 86, 3) := by decide +kernel
theorem dX3_back_80 : decode cX3_back 80 = .ok (.iaload, 1) := by decide +kernel
theorem dX3_back_81 : decode cX3_back 81 = .ok (.putfield 89, 3) := by decide +kernel
theorem dX3_back_84 : decode cX3_back 84 = .ok (.iinc 2 1, 3) := by decide +kernel
theorem dX3_back_87 : decode cX3_back 87 = .ok (.goto (-66), 3) := by decide +kernel
theorem dX3_back_90 : decode cX3_back 90 = .ok (.iload_n 2, 1) := by decide +kernel
theorem dX3_back_91 : decode cX3_back 91 = .ok (.ireturn, 1) := by decide +kernel
set_option maxRecDepth 20000 in
theorem ggX3_about_X3_isPerson : GoodIn wsX3_about wsX3_isPerson := goodIn_r _ [8, 9, 10, 11, 7, 12, 13, 14, 15, 16, 17, 18, 19, 20, 21, 22, 23, 24, 25, 26, 27, 28, 29] (by decide +kernel) (by decide +kernel)
set_option maxRecDepth 20000 in
theorem gX3_about_X3_isPerson : GoodIn wsX3_about (wsV RX3 94 RX3 yX3_isPerson wsX3_isPerson) := goodIn_app (goodIn_of _ (by decide +kernel)) ggX3_about_X3_isPerson
set_option maxRecDepth 20000 in
theorem ggX3_about_X3_in : GoodIn wsX3_about wsX3_in := goodIn_r _ [12] (by decide +kernel) (by decide +kernel)
set_option maxRecDepth 20000 in
theorem gX3_about_X3_in : GoodIn wsX3_about (va_wsS RX3 56 yX3_in wsX3_in) := goodIn_app (goodIn_of _ (by decide +kernel)) ggX3_about_X3_in
theorem dX3_about_0 : decode cX3_about 0 = .ok (.aload_n 0, 1) := by decide +kernel
theorem dX3_about_1 : decode cX3_about 1 = .ok (.iconst 0, 1) := by decide +kernel
theorem dX3_about_2 : decode cX3_about 2 = .ok (.putfield 51, 3) := by decide +kernel
theorem dX3_about_5 : decode cX3_about 5 = .ok (.aload_n 0, 1) := by decide +kernel
theorem dX3_about_6 : decode cX3_about 6 = .ok (.iload_n 1, 1) := by decide +kernel
theorem dX3_about_7 : decode cX3_about 7 = .ok (.invokevirtual 94, 3) := by decide +kernel
theorem dX3_about_10 : decode cX3_about 10 = .ok (.ifCond .eq 13, 3) := by decide +kernel
theorem dX3_about_13 : decode cX3_about 13 = .ok (.iload_n 2, 1) := by decide +kernel
theorem dX3_about_14 : decode cX3_about 14 = .ok (.i2l, 1) := by decide +kernel
theorem dX3_about_15 : decode cX3_about 15 = .ok (.lconst 0, 1) := by decide +kernel
theorem dX3_about_16 : decode cX3_about 16 = .ok (.lconst 1, 1) := by decide +kernel
theorem dX3_about_17 : decode cX3_about 17 = .ok (.invokestatic 56, 3) := by decide +kernel
theorem dX3_about_20 : decode cX3_about 20 = .ok (.ifCond .ne 5, 3) := by decide +kernel
theorem dX3_about_23 : decode cX3_about 23 = .ok (.iconst (-1), 1) := by decide +kernel
theorem dX3_about_24 : decode cX3_about 24 = .ok (.ireturn, 1) := by decide +kernel
theorem dX3_about_25 : decode cX3_about 25 = .ok (.iload_n 2, 1) := by decide +kernel
theorem dX3_about_26 : decode cX3_about 26 = .ok (.ifCond .ne 12, 3) := by decide +kernel
theorem dX3_about_29 : decode cX3_about 29 = .ok (.aload_n 0, 1) := by decide +kernel
theorem dX3_about_30 : decode cX3_about 30 = .ok (.getfield 17, 3) := by decide +kernel
theorem dX3_about_33 : decode cX3_about 33 = .ok (.iload_n 1, 1) := by decide +kernel
theorem dX3_about_34 : decode cX3_about 34 = .ok (.iaload, 1) := by decide +kernel
theorem dX3_about_35 : decode cX3_about 35 = .ok (.goto 9, 3) := by decide +kernel
theorem dX3_about_38 : decode cX3_about 38 = .ok (.aload_n 0, 1) := by decide +kernel
theorem dX3_about_39 : decode cX3_about 39 = .ok (.getfield 20, 3) := by decide +kernel
theorem dX3_about_42 : decode cX3_about 42 = .ok (.iload_n 1, 1) := by decide +kernel
theorem dX3_about_43 : decode cX3_about 43 = .ok (.iaload, 1) := by decide +kernel
theorem dX3_about_44 : decode cX3_about 44 = .ok (.ireturn, 1) := by decide +kernel
set_option maxRecDepth 20000 in
theorem ggX3_told_X3_there : GoodIn wsX3_told wsX3_there := goodIn_r _ [11, 2, 12, 13, 14, 15, 16, 17, 18, 19, 20, 21, 22, 23, 24, 25, 26, 27, 28, 29] (by decide +kernel) (by decide +kernel)
set_option maxRecDepth 20000 in
theorem gX3_told_X3_there : GoodIn wsX3_told (wsV RX3 128 RX3 yX3_there wsX3_there) := goodIn_app (goodIn_of _ (by decide +kernel)) ggX3_told_X3_there
theorem dX3_told_0 : decode cX3_told 0 = .ok (.aload_n 0, 1) := by decide +kernel
theorem dX3_told_1 : decode cX3_told 1 = .ok (.iconst 0, 1) := by decide +kernel
theorem dX3_told_2 : decode cX3_told 2 = .ok (.putfield 51, 3) := by decide +kernel
theorem dX3_told_5 : decode cX3_told 5 = .ok (.bipush (-9), 2) := by decide +kernel
theorem dX3_told_7 : decode cX3_told 7 = .ok (.istore_n 2, 1) := by decide +kernel
theorem dX3_told_8 : decode cX3_told 8 = .ok (.iconst 0, 1) := by decide +kernel
theorem dX3_told_9 : decode cX3_told 9 = .ok (.istore_n 3, 1) := by decide +kernel
theorem dX3_told_10 : decode cX3_told 10 = .ok (.iconst 0, 1) := by decide +kernel
theorem dX3_told_11 : decode cX3_told 11 = .ok (.istore 4, 2) := by decide +kernel
theorem dX3_told_13 : decode cX3_told 13 = .ok (.iload 4, 2) := by decide +kernel
theorem dX3_told_15 : decode cX3_told 15 = .ok (.aload_n 0, 1) := by decide +kernel
theorem dX3_told_16 : decode cX3_told 16 = .ok (.getfield 7, 3) := by decide +kernel
theorem dX3_told_19 : decode cX3_told 19 = .ok (.if_icmp .ge 31, 3) := by decide +kernel
theorem dX3_told_22 : decode cX3_told 22 = .ok (.aload_n 0, 1) := by decide +kernel
theorem dX3_told_23 : decode cX3_told 23 = .ok (.getfield 20, 3) := by decide +kernel
theorem dX3_told_26 : decode cX3_told 26 = .ok (.iload 4, 2) := by decide +kernel
theorem dX3_told_28 : decode cX3_told 28 = .ok (.iaload, 1) := by decide +kernel
theorem dX3_told_29 : decode cX3_told 29 = .ok (.iload_n 3, 1) := by decide +kernel
theorem dX3_told_30 : decode cX3_told 30 = .ok (.if_icmp .le 14, 3) := by decide +kernel
theorem dX3_told_33 : decode cX3_told 33 = .ok (.aload_n 0, 1) := by decide +kernel
theorem dX3_told_34 : decode cX3_told 34 = .ok (.getfield 20, 3) := by decide +kernel
theorem dX3_told_37 : decode cX3_told 37 = .ok (.iload 4, 2) := by decide +kernel
theorem dX3_told_39 : decode cX3_told 39 = .ok (.iaload, 1) := by decide +kernel
theorem dX3_told_40 : decode cX3_told 40 = .ok (.istore_n 3, 1) := by decide +kernel
theorem dX3_told_41 : decode cX3_told 41 = .ok (.iload 4, 2) := by decide +kernel
theorem dX3_told_43 : decode cX3_told 43 = .ok (.istore_n 2, 1) := by decide +kernel
theorem dX3_told_44 : decode cX3_told 44 = .ok (.iinc 4 1, 3) := by decide +kernel
theorem dX3_told_47 : decode cX3_told 47 = .ok (.goto (-34), 3) := by decide +kernel
theorem dX3_told_50 : decode cX3_told 50 = .ok (.iload_n 1, 1) := by decide +kernel
theorem dX3_told_51 : decode cX3_told 51 = .ok (.tableswitch 74 0 4 #[33, 38, 43, 48, 72], 33) := by decide +kernel
theorem dX3_told_84 : decode cX3_told 84 = .ok (.aload_n 0, 1) := by decide +kernel
theorem dX3_told_85 : decode cX3_told 85 = .ok (.getfield 89, 3) := by decide +kernel
theorem dX3_told_88 : decode cX3_told 88 = .ok (.ireturn, 1) := by decide +kernel
theorem dX3_told_89 : decode cX3_told 89 = .ok (.aload_n 0, 1) := by decide +kernel
theorem dX3_told_90 : decode cX3_told 90 = .ok (.invokevirtual 128, 3) := by decide +kernel
theorem dX3_told_93 : decode cX3_told 93 = .ok (.ireturn, 1) := by decide +kernel
theorem dX3_told_94 : decode cX3_told 94 = .ok (.aload_n 0, 1) := by decide +kernel
theorem dX3_told_95 : decode cX3_told 95 = .ok (.getfield 86, 3) := by decide +kernel
theorem dX3_told_98 : decode cX3_told 98 = .ok (.ireturn, 1) := by decide +kernel
theorem dX3_told_99 : decode cX3_told 99 = .ok (.aload_n 0, 1) := by decide +kernel
theorem dX3_told_100 : decode cX3_told 100 = .ok (.getfield 86, 3) := by decide +kernel
theorem dX3_told_103 : decode cX3_told 103 = .ok (.ifCond .ne 8, 3) := by decide +kernel
theorem dX3_told_106 : decode cX3_told 106 = .ok (.bipush (-9), 2) := by decide +kernel
theorem dX3_told_108 : decode cX3_told 108 = .ok (.goto 14, 3) := by decide +kernel
theorem dX3_told_111 : decode cX3_told 111 = .ok (.aload_n 0, 1) := by decide +kernel
theorem dX3_told_112 : decode cX3_told 112 = .ok (.getfield 32, 3) := by decide +kernel
theorem dX3_told_115 : decode cX3_told 115 = .ok (.aload_n 0, 1) := by decide +kernel
theorem dX3_told_116 : decode cX3_told 116 = .ok (.getfield 86, 3) := by decide +kernel
theorem dX3_told_119 : decode cX3_told 119 = .ok (.iconst 1, 1) := by decide +kernel
theorem dX3_told_120 : decode cX3_told 120 = .ok (.isub, 1) := by decide +kernel
theorem dX3_told_121 : decode cX3_told 121 = .ok (.iaload, 1) := by decide +kernel
theorem dX3_told_122 : decode cX3_told 122 = .ok (.ireturn, 1) := by decide +kernel
theorem dX3_told_123 : decode cX3_told 123 = .ok (.iload_n 2, 1) := by decide +kernel
theorem dX3_told_124 : decode cX3_told 124 = .ok (.ireturn, 1) := by decide +kernel
theorem dX3_told_125 : decode cX3_told 125 = .ok (.iconst (-1), 1) := by decide +kernel
theorem dX3_told_126 : decode cX3_told 126 = .ok (.ireturn, 1) := by decide +kernel
set_option maxRecDepth 20000 in
theorem ggX3_isSet_X3_in : GoodIn wsX3_isSet wsX3_in := goodIn_r _ [5] (by decide +kernel) (by decide +kernel)
set_option maxRecDepth 20000 in
theorem gX3_isSet_X3_in : GoodIn wsX3_isSet (va_wsS RX3 56 yX3_in wsX3_in) := goodIn_app (goodIn_of _ (by decide +kernel)) ggX3_isSet_X3_in
theorem dX3_isSet_0 : decode cX3_isSet 0 = .ok (.iload_n 0, 1) := by decide +kernel
theorem dX3_isSet_1 : decode cX3_isSet 1 = .ok (.i2l, 1) := by decide +kernel
theorem dX3_isSet_2 : decode cX3_isSet 2 = .ok (.lconst 1, 1) := by decide +kernel
theorem dX3_isSet_3 : decode cX3_isSet 3 = .ok (.ldc2_w 137, 3) := by decide +kernel
theorem dX3_isSet_6 : decode cX3_isSet 6 = .ok (.invokestatic 56, 3) := by decide +kernel
theorem dX3_isSet_9 : decode cX3_isSet 9 = .ok (.ireturn, 1) := by decide +kernel
set_option maxRecDepth 20000 in
theorem ggX3_may_X3_in : GoodIn wsX3_may wsX3_in := goodIn_r _ [6] (by decide +kernel) (by decide +kernel)
set_option maxRecDepth 20000 in
theorem gX3_may_X3_in : GoodIn wsX3_may (va_wsS RX3 56 yX3_in wsX3_in) := goodIn_app (goodIn_of _ (by decide +kernel)) ggX3_may_X3_in
set_option maxRecDepth 20000 in
theorem ggX3_may_X3_isSet : GoodIn wsX3_may wsX3_isSet := goodIn_r _ [9, 10, 3, 4, 5, 6] (by decide +kernel) (by decide +kernel)
set_option maxRecDepth 20000 in
theorem gX3_may_X3_isSet : GoodIn wsX3_may (va_wsS RX3 141 yX3_isSet wsX3_isSet) := goodIn_app (goodIn_of _ (by decide +kernel)) ggX3_may_X3_isSet
theorem dX3_may_0 : decode cX3_may 0 = .ok (.aload_n 0, 1) := by decide +kernel
theorem dX3_may_1 : decode cX3_may 1 = .ok (.iconst 0, 1) := by decide +kernel
theorem dX3_may_2 : decode cX3_may 2 = .ok (.putfield 51, 3) := by decide +kernel
theorem dX3_may_5 : decode cX3_may 5 = .ok (.iload_n 1, 1) := by decide +kernel
theorem dX3_may_6 : decode cX3_may 6 = .ok (.i2l, 1) := by decide +kernel
theorem dX3_may_7 : decode cX3_may 7 = .ok (.lconst 1, 1) := by decide +kernel
theorem dX3_may_8 : decode cX3_may 8 = .ok (.ldc2_w 139, 3) := by decide +kernel
theorem dX3_may_11 : decode cX3_may 11 = .ok (.invokestatic 56, 3) := by decide +kernel
theorem dX3_may_14 : decode cX3_may 14 = .ok (.ifCond .eq 10, 3) := by decide +kernel
theorem dX3_may_17 : decode cX3_may 17 = .ok (.iload_n 2, 1) := by decide +kernel
theorem dX3_may_18 : decode cX3_may 18 = .ok (.invokestatic 141, 3) := by decide +kernel
theorem dX3_may_21 : decode cX3_may 21 = .ok (.ifCond .ne 5, 3) := by decide +kernel
theorem dX3_may_24 : decode cX3_may 24 = .ok (.iconst (-1), 1) := by decide +kernel
theorem dX3_may_25 : decode cX3_may 25 = .ok (.ireturn, 1) := by decide +kernel
theorem dX3_may_26 : decode cX3_may 26 = .ok (.iconst 1, 1) := by decide +kernel
theorem dX3_may_27 : decode cX3_may 27 = .ok (.istore_n 3, 1) := by decide +kernel
theorem dX3_may_28 : decode cX3_may 28 = .ok (.iconst 2, 1) := by decide +kernel
theorem dX3_may_29 : decode cX3_may 29 = .ok (.istore 4, 2) := by decide +kernel
theorem dX3_may_31 : decode cX3_may 31 = .ok (.iload 4, 2) := by decide +kernel
theorem dX3_may_33 : decode cX3_may 33 = .ok (.iload_n 1, 1) := by decide +kernel
theorem dX3_may_34 : decode cX3_may 34 = .ok (.if_icmp .gt 86, 3) := by decide +kernel
theorem dX3_may_37 : decode cX3_may 37 = .ok (.iconst 0, 1) := by decide +kernel
theorem dX3_may_38 : decode cX3_may 38 = .ok (.istore 5, 2) := by decide +kernel
theorem dX3_may_40 : decode cX3_may 40 = .ok (.iconst 0, 1) := by decide +kernel
theorem dX3_may_41 : decode cX3_may 41 = .ok (.istore 6, 2) := by decide +kernel
theorem dX3_may_43 : decode cX3_may 43 = .ok (.iload 6, 2) := by decide +kernel
theorem dX3_may_45 : decode cX3_may 45 = .ok (.iload 4, 2) := by decide +kernel
theorem dX3_may_47 : decode cX3_may 47 = .ok (.iconst 1, 1) := by decide +kernel
theorem dX3_may_48 : decode cX3_may 48 = .ok (.isub, 1) := by decide +kernel
theorem dX3_may_49 : decode cX3_may 49 = .ok (.if_icmp .ge 62, 3) := by decide +kernel
theorem dX3_may_52 : decode cX3_may 52 = .ok (.iconst 1, 1) := by decide +kernel
theorem dX3_may_53 : decode cX3_may 53 = .ok (.istore 7, 2) := by decide +kernel
theorem dX3_may_55 : decode cX3_may 55 = .ok (.iload 7, 2) := by decide +kernel
theorem dX3_may_57 : decode cX3_may 57 = .ok (.bipush 7, 2) := by decide +kernel
theorem dX3_may_59 : decode cX3_may 59 = .ok (.if_icmp .ge 46, 3) := by decide +kernel
theorem dX3_may_62 : decode cX3_may 62 = .ok (.iload_n 3, 1) := by decide +kernel
theorem dX3_may_63 : decode cX3_may 63 = .ok (.iload 6, 2) := by decide +kernel
theorem dX3_may_65 : decode cX3_may 65 = .ok (.ishr, 1) := by decide +kernel
theorem dX3_may_66 : decode cX3_may 66 = .ok (.iconst 1, 1) := by decide +kernel
theorem dX3_may_67 : decode cX3_may 67 = .ok (.iand, 1) := by decide +kernel
theorem dX3_may_68 : decode cX3_may 68 = .ok (.iconst 1, 1) := by decide +kernel
theorem dX3_may_69 : decode cX3_may 69 = .ok (.if_icmp .ne 30, 3) := by decide +kernel
theorem dX3_may_72 : decode cX3_may 72 = .ok (.iload_n 2, 1) := by decide +kernel
theorem dX3_may_73 : decode cX3_may 73 = .ok (.iload 7, 2) := by decide +kernel
theorem dX3_may_75 : decode cX3_may 75 = .ok (.iconst 1, 1) := by decide +kernel
theorem dX3_may_76 : decode cX3_may 76 = .ok (.isub, 1) := by decide +kernel
theorem dX3_may_77 : decode cX3_may 77 = .ok (.ishr, 1) := by decide +kernel
theorem dX3_may_78 : decode cX3_may 78 = .ok (.iconst 1, 1) := by decide +kernel
theorem dX3_may_79 : decode cX3_may 79 = .ok (.iand, 1) := by decide +kernel
theorem dX3_may_80 : decode cX3_may 80 = .ok (.iconst 1, 1) := by decide +kernel
theorem dX3_may_81 : decode cX3_may 81 = .ok (.if_icmp .ne 18, 3) := by decide +kernel
theorem dX3_may_84 : decode cX3_may 84 = .ok (.iload 5, 2) := by decide +kernel
theorem dX3_may_86 : decode cX3_may 86 = .ok (.iconst 1, 1) := by decide +kernel
theorem dX3_may_87 : decode cX3_may 87 = .ok (.iload 6, 2) := by decide +kernel
theorem dX3_may_89 : decode cX3_may 89 = .ok (.iload 7, 2) := by decide +kernel
theorem dX3_may_91 : decode cX3_may 91 = .ok (.iadd, 1) := by decide +kernel
theorem dX3_may_92 : decode cX3_may 92 = .ok (.iload 4, 2) := by decide +kernel
theorem dX3_may_94 : decode cX3_may 94 = .ok (.irem, 1) := by decide +kernel
theorem dX3_may_95 : decode cX3_may 95 = .ok (.ishl, 1) := by decide +kernel
theorem dX3_may_96 : decode cX3_may 96 = .ok (.ior, 1) := by decide +kernel
theorem dX3_may_97 : decode cX3_may 97 = .ok (.istore 5, 2) := by decide +kernel
theorem dX3_may_99 : decode cX3_may 99 = .ok (.iinc 7 1, 3) := by decide +kernel
theorem dX3_may_102 : decode cX3_may 102 = .ok (.goto (-47), 3) := by decide +kernel
theorem dX3_may_105 : decode cX3_may 105 = .ok (.iinc 6 1, 3) := by decide +kernel
theorem dX3_may_108 : decode cX3_may 108 = .ok (.goto (-65), 3) := by decide +kernel
theorem dX3_may_111 : decode cX3_may 111 = .ok (.iload 5, 2) := by decide +kernel
theorem dX3_may_113 : decode cX3_may 113 = .ok (.istore_n 3, 1) := by decide +kernel
theorem dX3_may_114 : decode cX3_may 114 = .ok (.iinc 4 1, 3) := by decide +kernel
theorem dX3_may_117 : decode cX3_may 117 = .ok (.goto (-86), 3) := by decide +kernel
theorem dX3_may_120 : decode cX3_may 120 = .ok (.iload_n 3, 1) := by decide +kernel
theorem dX3_may_121 : decode cX3_may 121 = .ok (.ireturn, 1) := by decide +kernel
set_option maxRecDepth 20000 in
theorem ggX3_can_X3_in : GoodIn wsX3_can wsX3_in := goodIn_r _ [8] (by decide +kernel) (by decide +kernel)
set_option maxRecDepth 20000 in
theorem gX3_can_X3_in : GoodIn wsX3_can (va_wsS RX3 56 yX3_in wsX3_in) := goodIn_app (goodIn_of _ (by decide +kernel)) ggX3_can_X3_in
set_option maxRecDepth 20000 in
theorem ggX3_can_X3_isSet : GoodIn wsX3_can wsX3_isSet := goodIn_r _ [11, 12, 5, 6, 7, 8] (by decide +kernel) (by decide +kernel)
set_option maxRecDepth 20000 in
theorem gX3_can_X3_isSet : GoodIn wsX3_can (va_wsS RX3 141 yX3_isSet wsX3_isSet) := goodIn_app (goodIn_of _ (by decide +kernel)) ggX3_can_X3_isSet
theorem dX3_can_0 : decode cX3_can 0 = .ok (.aload_n 0, 1) := by decide +kernel
theorem dX3_can_1 : decode cX3_can 1 = .ok (.iconst 0, 1) := by decide +kernel
theorem dX3_can_2 : decode cX3_can 2 = .ok (.putfield 51, 3) := by decide +kernel
theorem dX3_can_5 : decode cX3_can 5 = .ok (.iload_n 1, 1) := by decide +kernel
theorem dX3_can_6 : decode cX3_can 6 = .ok (.i2l, 1) := by decide +kernel
theorem dX3_can_7 : decode cX3_can 7 = .ok (.lconst 1, 1) := by decide +kernel
theorem dX3_can_8 : decode cX3_can 8 = .ok (.ldc2_w 139, 3) := by decide +kernel
theorem dX3_can_11 : decode cX3_can 11 = .ok (.invokestatic 56, 3) := by decide +kernel
theorem dX3_can_14 : decode cX3_can 14 = .ok (.ifCond .eq 17, 3) := by decide +kernel
theorem dX3_can_17 : decode cX3_can 17 = .ok (.iload_n 2, 1) := by decide +kernel
theorem dX3_can_18 : decode cX3_can 18 = .ok (.invokestatic 141, 3) := by decide +kernel
theorem dX3_can_21 : decode cX3_can 21 = .ok (.ifCond .eq 10, 3) := by decide +kernel
theorem dX3_can_24 : decode cX3_can 24 = .ok (.iload_n 3, 1) := by decide +kernel
theorem dX3_can_25 : decode cX3_can 25 = .ok (.invokestatic 141, 3) := by decide +kernel
theorem dX3_can_28 : decode cX3_can 28 = .ok (.ifCond .ne 5, 3) := by decide +kernel
theorem dX3_can_31 : decode cX3_can 31 = .ok (.iconst (-1), 1) := by decide +kernel
theorem dX3_can_32 : decode cX3_can 32 = .ok (.ireturn, 1) := by decide +kernel
theorem dX3_can_33 : decode cX3_can 33 = .ok (.aload_n 0, 1) := by decide +kernel
theorem dX3_can_34 : decode cX3_can 34 = .ok (.getfield 41, 3) := by decide +kernel
theorem dX3_can_37 : decode cX3_can 37 = .ok (.iconst 1, 1) := by decide +kernel
theorem dX3_can_38 : decode cX3_can 38 = .ok (.iconst 1, 1) := by decide +kernel
theorem dX3_can_39 : decode cX3_can 39 = .ok (.iastore, 1) := by decide +kernel
theorem dX3_can_40 : decode cX3_can 40 = .ok (.aload_n 0, 1) := by decide +kernel
theorem dX3_can_41 : decode cX3_can 41 = .ok (.getfield 44, 3) := by decide +kernel
theorem dX3_can_44 : decode cX3_can 44 = .ok (.iconst 1, 1) := by decide +kernel
theorem dX3_can_45 : decode cX3_can 45 = .ok (.iconst 1, 1) := by decide +kernel
theorem dX3_can_46 : decode cX3_can 46 = .ok (.iastore, 1) := by decide +kernel
theorem dX3_can_47 : decode cX3_can 47 = .ok (.iconst 2, 1) := by decide +kernel
theorem dX3_can_48 : decode cX3_can 48 = .ok (.istore 4, 2) := by decide +kernel
theorem dX3_can_50 : decode cX3_can 50 = .ok (.iload 4, 2) := by decide +kernel
theorem dX3_can_52 : decode cX3_can 52 = .ok (.iload_n 1, 1) := by decide +kernel
theorem dX3_can_53 : decode cX3_can 53 = .ok (.if_icmp .gt 233, 3) := by decide +kernel
theorem dX3_can_56 : decode cX3_can 56 = .ok (.aload_n 0, 1) := by decide +kernel
theorem dX3_can_57 : decode cX3_can 57 = .ok (.getfield 41, 3) := by decide +kernel
theorem dX3_can_60 : decode cX3_can 60 = .ok (.iload 4, 2) := by decide +kernel
theorem dX3_can_62 : decode cX3_can 62 = .ok (.iconst 0, 1) := by decide +kernel
theorem dX3_can_63 : decode cX3_can 63 = .ok (.iastore, 1) := by decide +kernel
theorem dX3_can_64 : decode cX3_can 64 = .ok (.aload_n 0, 1) := by decide +kernel
theorem dX3_can_65 : decode cX3_can 65 = .ok (.getfield 44, 3) := by decide +kernel
theorem dX3_can_68 : decode cX3_can 68 = .ok (.iload 4, 2) := by decide +kernel
theorem dX3_can_70 : decode cX3_can 70 = .ok (.iconst 0, 1) := by decide +kernel
theorem dX3_can_71 : decode cX3_can 71 = .ok (.iastore, 1) := by decide +kernel
theorem dX3_can_72 : decode cX3_can 72 = .ok (.iconst 0, 1) := by decide +kernel
theorem dX3_can_73 : decode cX3_can 73 = .ok (.istore 5, 2) := by decide +kernel
theorem dX3_can_75 : decode cX3_can 75 = .ok (.iload 5, 2) := by decide +kernel
theorem dX3_can_77 : decode cX3_can 77 = .ok (.iload 4, 2) := by decide +kernel
theorem dX3_can_79 : decode cX3_can 79 = .ok (.if_icmp .ge 201, 3) := by decide +kernel
theorem dX3_can_82 : decode cX3_can 82 = .ok (.iconst 0, 1) := by decide +kernel
theorem dX3_can_83 : decode cX3_can 83 = .ok (.istore 6, 2) := by decide +kernel
theorem dX3_can_85 : decode cX3_can 85 = .ok (.iconst 1, 1) := by decide +kernel
theorem dX3_can_86 : decode cX3_can 86 = .ok (.istore 7, 2) := by decide +kernel
theorem dX3_can_88 : decode cX3_can 88 = .ok (.iconst 1, 1) := by decide +kernel
theorem dX3_can_89 : decode cX3_can 89 = .ok (.istore 8, 2) := by decide +kernel
theorem dX3_can_91 : decode cX3_can 91 = .ok (.iload 8, 2) := by decide +kernel
theorem dX3_can_93 : decode cX3_can 93 = .ok (.bipush 7, 2) := by decide +kernel
theorem dX3_can_95 : decode cX3_can 95 = .ok (.if_icmp .ge 133, 3) := by decide +kernel
theorem dX3_can_98 : decode cX3_can 98 = .ok (.iload 8, 2) := by decide +kernel
theorem dX3_can_100 : decode cX3_can 100 = .ok (.iconst 1, 1) := by decide +kernel
theorem dX3_can_101 : decode cX3_can 101 = .ok (.isub, 1) := by decide +kernel
theorem dX3_can_102 : decode cX3_can 102 = .ok (.iload 4, 2) := by decide +kernel
theorem dX3_can_104 : decode cX3_can 104 = .ok (.irem, 1) := by decide +kernel
theorem dX3_can_105 : decode cX3_can 105 = .ok (.iload 5, 2) := by decide +kernel
theorem dX3_can_107 : decode cX3_can 107 = .ok (.if_icmp .ne 7, 3) := by decide +kernel
theorem dX3_can_110 : decode cX3_can 110 = .ok (.iconst 1, 1) := by decide +kernel
theorem dX3_can_111 : decode cX3_can 111 = .ok (.goto 4, 3) := by decide +kernel
theorem dX3_can_114 : decode cX3_can 114 = .ok (.iconst 0, 1) := by decide +kernel
theorem dX3_can_115 : decode cX3_can 115 = .ok (.istore 9, 2) := by decide +kernel
theorem dX3_can_117 : decode cX3_can 117 = .ok (.iload 5, 2) := by decide +kernel
theorem dX3_can_119 : decode cX3_can 119 = .ok (.iload 8, 2) := by decide +kernel
theorem dX3_can_121 : decode cX3_can 121 = .ok (.iload 4, 2) := by decide +kernel
theorem dX3_can_123 : decode cX3_can 123 = .ok (.irem, 1) := by decide +kernel
theorem dX3_can_124 : decode cX3_can 124 = .ok (.isub, 1) := by decide +kernel
theorem dX3_can_125 : decode cX3_can 125 = .ok (.iload 4, 2) := by decide +kernel
theorem dX3_can_127 : decode cX3_can 127 = .ok (.iadd, 1) := by decide +kernel
theorem dX3_can_128 : decode cX3_can 128 = .ok (.iload 4, 2) := by decide +kernel
theorem dX3_can_130 : decode cX3_can 130 = .ok (.irem, 1) := by decide +kernel
theorem dX3_can_131 : decode cX3_can 131 = .ok (.istore 10, 2) := by decide +kernel
theorem dX3_can_133 : decode cX3_can 133 = .ok (.iload 6, 2) := by decide +kernel
theorem dX3_can_135 : decode cX3_can 135 = .ok (.iload_n 2, 1) := by decide +kernel
theorem dX3_can_136 : decode cX3_can 136 = .ok (.iload 8, 2) := by decide +kernel
theorem dX3_can_138 : decode cX3_can 138 = .ok (.iconst 1, 1) := by decide +kernel
theorem dX3_can_139 : decode cX3_can 139 = .ok (.isub, 1) := by decide +kernel
theorem dX3_can_140 : decode cX3_can 140 = .ok (.ishr, 1) := by decide +kernel
theorem dX3_can_141 : decode cX3_can 141 = .ok (.iconst 1, 1) := by decide +kernel
theorem dX3_can_142 : decode cX3_can 142 = .ok (.iand, 1) := by decide +kernel
theorem dX3_can_143 : decode cX3_can 143 = .ok (.iconst 1, 1) := by decide +kernel
theorem dX3_can_144 : decode cX3_can 144 = .ok (.if_icmp .ne 30, 3) := by decide +kernel
theorem dX3_can_147 : decode cX3_can 147 = .ok (.iload 9, 2) := by decide +kernel
theorem dX3_can_149 : decode cX3_can 149 = .ok (.ifCond .ne 25, 3) := by decide +kernel
theorem dX3_can_152 : decode cX3_can 152 = .ok (.aload_n 0, 1) := by decide +kernel
theorem dX3_can_153 : decode cX3_can 153 = .ok (.getfield 44, 3) := by decide +kernel
theorem dX3_can_156 : decode cX3_can 156 = .ok (.iload 4, 2) := by decide +kernel
theorem dX3_can_158 : decode cX3_can 158 = .ok (.iconst 1, 1) := by decide +kernel
theorem dX3_can_159 : decode cX3_can 159 = .ok (.isub, 1) := by decide +kernel
theorem dX3_can_160 : decode cX3_can 160 = .ok (.iaload, 1) := by decide +kernel
theorem dX3_can_161 : decode cX3_can 161 = .ok (.iload 10, 2) := by decide +kernel
theorem dX3_can_163 : decode cX3_can 163 = .ok (.ishr, 1) := by decide +kernel
theorem dX3_can_164 : decode cX3_can 164 = .ok (.iconst 1, 1) := by decide +kernel
theorem dX3_can_165 : decode cX3_can 165 = .ok (.iand, 1) := by decide +kernel
theorem dX3_can_166 : decode cX3_can 166 = .ok (.iconst 1, 1) := by decide +kernel
theorem dX3_can_167 : decode cX3_can 167 = .ok (.if_icmp .ne 7, 3) := by decide +kernel
theorem dX3_can_170 : decode cX3_can 170 = .ok (.iconst 1, 1) := by decide +kernel
theorem dX3_can_171 : decode cX3_can 171 = .ok (.goto 4, 3) := by decide +kernel
theorem dX3_can_174 : decode cX3_can 174 = .ok (.iconst 0, 1) := by decide +kernel
theorem dX3_can_175 : decode cX3_can 175 = .ok (.ior, 1) := by decide +kernel
theorem dX3_can_176 : decode cX3_can 176 = .ok (.istore 6, 2) := by decide +kernel
theorem dX3_can_178 : decode cX3_can 178 = .ok (.iload 7, 2) := by decide +kernel
theorem dX3_can_180 : decode cX3_can 180 = .ok (.iload_n 3, 1) := by decide +kernel
theorem dX3_can_181 : decode cX3_can 181 = .ok (.iload 8, 2) := by decide +kernel
theorem dX3_can_183 : decode cX3_can 183 = .ok (.iconst 1, 1) := by decide +kernel
theorem dX3_can_184 : decode cX3_can 184 = .ok (.isub, 1) := by decide +kernel
theorem dX3_can_185 : decode cX3_can 185 = .ok (.ishr, 1) := by decide +kernel
theorem dX3_can_186 : decode cX3_can 186 = .ok (.iconst 1, 1) := by decide +kernel
theorem dX3_can_187 : decode cX3_can 187 = .ok (.iand, 1) := by decide +kernel
theorem dX3_can_188 : decode cX3_can 188 = .ok (.ifCond .eq 26, 3) := by decide +kernel
theorem dX3_can_191 : decode cX3_can 191 = .ok (.iload 9, 2) := by decide +kernel
theorem dX3_can_193 : decode cX3_can 193 = .ok (.ifCond .ne 25, 3) := by decide +kernel
theorem dX3_can_196 : decode cX3_can 196 = .ok (.aload_n 0, 1) := by decide +kernel
theorem dX3_can_197 : decode cX3_can 197 = .ok (.getfield 41, 3) := by decide +kernel
theorem dX3_can_200 : decode cX3_can 200 = .ok (.iload 4, 2) := by decide +kernel
theorem dX3_can_202 : decode cX3_can 202 = .ok (.iconst 1, 1) := by decide +kernel
theorem dX3_can_203 : decode cX3_can 203 = .ok (.isub, 1) := by decide +kernel
theorem dX3_can_204 : decode cX3_can 204 = .ok (.iaload, 1) := by decide +kernel
theorem dX3_can_205 : decode cX3_can 205 = .ok (.iload 10, 2) := by decide +kernel
theorem dX3_can_207 : decode cX3_can 207 = .ok (.ishr, 1) := by decide +kernel
theorem dX3_can_208 : decode cX3_can 208 = .ok (.iconst 1, 1) := by decide +kernel
theorem dX3_can_209 : decode cX3_can 209 = .ok (.iand, 1) := by decide +kernel
theorem dX3_can_210 : decode cX3_can 210 = .ok (.iconst 1, 1) := by decide +kernel
theorem dX3_can_211 : decode cX3_can 211 = .ok (.if_icmp .ne 7, 3) := by decide +kernel
theorem dX3_can_214 : decode cX3_can 214 = .ok (.iconst 1, 1) := by decide +kernel
theorem dX3_can_215 : decode cX3_can 215 = .ok (.goto 4, 3) := by decide +kernel
theorem dX3_can_218 : decode cX3_can 218 = .ok (.iconst 0, 1) := by decide +kernel
theorem dX3_can_219 : decode cX3_can 219 = .ok (.iand, 1) := by decide +kernel
theorem dX3_can_220 : decode cX3_can 220 = .ok (.istore 7, 2) := by decide +kernel
theorem dX3_can_222 : decode cX3_can 222 = .ok (.iinc 8 1, 3) := by decide +kernel
theorem dX3_can_225 : decode cX3_can 225 = .ok (.goto (-134), 3) := by decide +kernel
theorem dX3_can_228 : decode cX3_can 228 = .ok (.aload_n 0, 1) := by decide +kernel
theorem dX3_can_229 : decode cX3_can 229 = .ok (.getfield 41, 3) := by decide +kernel
theorem dX3_can_232 : decode cX3_can 232 = .ok (.iload 4, 2) := by decide +kernel
theorem dX3_can_234 : decode cX3_can 234 = .ok (.dup2, 1) := by decide +kernel
theorem dX3_can_235 : decode cX3_can 235 = .ok (.iaload, 1) := by decide +kernel
theorem dX3_can_236 : decode cX3_can 236 = .ok (.iload 6, 2) := by decide +kernel
theorem dX3_can_238 : decode cX3_can 238 = .ok (.ifCond .eq 10, 3) := by decide +kernel
theorem dX3_can_241 : decode cX3_can 241 = .ok (.iconst 1, 1) := by decide +kernel
theorem dX3_can_242 : decode cX3_can 242 = .ok (.iload 5, 2) := by decide +kernel
theorem dX3_can_244 : decode cX3_can 244 = .ok (.ishl, 1) := by decide +kernel
theorem dX3_can_245 : decode cX3_can 245 = .ok (.goto 4, 3) := by decide +kernel
theorem dX3_can_248 : decode cX3_can 248 = .ok (.iconst 0, 1) := by decide +kernel
theorem dX3_can_249 : decode cX3_can 249 = .ok (.ior, 1) := by decide +kernel
theorem dX3_can_250 : decode cX3_can 250 = .ok (.iastore, 1) := by decide +kernel
theorem dX3_can_251 : decode cX3_can 251 = .ok (.aload_n 0, 1) := by decide +kernel
theorem dX3_can_252 : decode cX3_can 252 = .ok (.getfield 44, 3) := by decide +kernel
theorem dX3_can_255 : decode cX3_can 255 = .ok (.iload 4, 2) := by decide +kernel
theorem dX3_can_257 : decode cX3_can 257 = .ok (.dup2, 1) := by decide +kernel
theorem dX3_can_258 : decode cX3_can 258 = .ok (.iaload, 1) := by decide +kernel
theorem dX3_can_259 : decode cX3_can 259 = .ok (.iload 7, 2) := by decide +kernel
theorem dX3_can_261 : decode cX3_can 261 = .ok (.ifCond .eq 10, 3) := by decide +kernel
theorem dX3_can_264 : decode cX3_can 264 = .ok (.iconst 1, 1) := by decide +kernel
theorem dX3_can_265 : decode cX3_can 265 = .ok (.iload 5, 2) := by decide +kernel
theorem dX3_can_267 : decode cX3_can 267 = .ok (.ishl, 1) := by decide +kernel
theorem dX3_can_268 : decode cX3_can 268 = .ok (.goto 4, 3) := by decide +kernel
theorem dX3_can_271 : decode cX3_can 271 = .ok (.iconst 0, 1) := by decide +kernel
theorem dX3_can_272 : decode cX3_can 272 = .ok (.ior, 1) := by decide +kernel
theorem dX3_can_273 : decode cX3_can 273 = .ok (.iastore, 1) := by decide +kernel
theorem dX3_can_274 : decode cX3_can 274 = .ok (.iinc 5 1, 3) := by decide +kernel
theorem dX3_can_277 : decode cX3_can 277 = .ok (.goto (-202), 3) := by decide +kernel
theorem dX3_can_280 : decode cX3_can 280 = .ok (.iinc 4 1, 3) := by decide +kernel
theorem dX3_can_283 : decode cX3_can 283 = .ok (.goto (-233), 3) := by decide +kernel
theorem dX3_can_286 : decode cX3_can 286 = .ok (.aload_n 0, 1) := by decide +kernel
theorem dX3_can_287 : decode cX3_can 287 = .ok (.getfield 41, 3) := by decide +kernel
theorem dX3_can_290 : decode cX3_can 290 = .ok (.iload_n 1, 1) := by decide +kernel
theorem dX3_can_291 : decode cX3_can 291 = .ok (.iaload, 1) := by decide +kernel
theorem dX3_can_292 : decode cX3_can 292 = .ok (.ireturn, 1) := by decide +kernel
theorem dX3_trace_0 : decode cX3_trace 0 = .ok (.aload_n 0, 1) := by decide +kernel
theorem dX3_trace_1 : decode cX3_trace 1 = .ok (.iconst 0, 1) := by decide +kernel
theorem dX3_trace_2 : decode cX3_trace 2 = .ok (.putfield 51, 3) := by decide +kernel
theorem dX3_trace_5 : decode cX3_trace 5 = .ok (.aload_n 0, 1) := by decide +kernel
theorem dX3_trace_6 : decode cX3_trace 6 = .ok (.getfield 112, 3) := by decide +kernel
theorem dX3_trace_9 : decode cX3_trace 9 = .ok (.lreturn, 1) := by decide +kernel
