theorem dX0_init_0 : decode cX0_init 0 = .ok (.aload_n 0, 1) := by decide +kernel
theorem dX0_init_1 : decode cX0_init 1 = .ok (.invokespecial 3, 3) := by decide +kernel
theorem dX0_init_4 : decode cX0_init 4 = .ok (.aload_n 0, 1) := by decide +kernel
theorem dX0_init_5 : decode cX0_init 5 = .ok (.bipush 8, 2) := by decide +kernel
theorem dX0_init_7 : decode cX0_init 7 = .ok (.newarray .int, 2) := by decide +kernel
theorem dX0_init_9 : decode cX0_init 9 = .ok (.putfield 9, 3) := by decide +kernel
theorem dX0_init_12 : decode cX0_init 12 = .ok (.aload_n 0, 1) := by decide +kernel
theorem dX0_init_13 : decode cX0_init 13 = .ok (.getfield 9, 3) := by decide +kernel
theorem dX0_init_16 : decode cX0_init 16 = .ok (.iconst 0, 1) := by decide +kernel
theorem dX0_init_17 : decode cX0_init 17 = .ok (.iconst 3, 1) := by decide +kernel
theorem dX0_init_18 : decode cX0_init 18 = .ok (.iastore, 1) := by decide +kernel
theorem dX0_init_19 : decode cX0_init 19 = .ok (.aload_n 0, 1) := by decide +kernel
theorem dX0_init_20 : decode cX0_init 20 = .ok (.iconst 1, 1) := by decide +kernel
theorem dX0_init_21 : decode cX0_init 21 = .ok (.putfield 15, 3) := by decide +kernel
theorem dX0_init_24 : decode cX0_init 24 = .ok (.aload_n 0, 1) := by decide +kernel
theorem dX0_init_25 : decode cX0_init 25 = .ok (.iconst 3, 1) := by decide +kernel
theorem dX0_init_26 : decode cX0_init 26 = .ok (.putfield 19, 3) := by decide +kernel
theorem dX0_init_29 : decode cX0_init 29 = .ok (.aload_n 0, 1) := by decide +kernel
theorem dX0_init_30 : decode cX0_init 30 = .ok (.iconst 0, 1) := by decide +kernel
theorem dX0_init_31 : decode cX0_init 31 = .ok (.putfield 22, 3) := by decide +kernel
theorem dX0_init_34 : decode cX0_init 34 = .ok (.return_, 1) := by decide +kernel
theorem dX0_changeStep_0 : decode cX0_changeStep 0 = .ok (.aload_n 0, 1) := by decide +kernel
theorem dX0_changeStep_1 : decode cX0_changeStep 1 = .ok (.getfield 19, 3) := by decide +kernel
theorem dX0_changeStep_4 : decode cX0_changeStep 4 = .ok (.istore_n 2, 1) := by decide +kernel
theorem dX0_changeStep_5 : decode cX0_changeStep 5 = .ok (.aload_n 0, 1) := by decide +kernel
theorem dX0_changeStep_6 : decode cX0_changeStep 6 = .ok (.iload_n 1, 1) := by decide +kernel
theorem dX0_changeStep_7 : decode cX0_changeStep 7 = .ok (.putfield 19, 3) := by decide +kernel
theorem dX0_changeStep_10 : decode cX0_changeStep 10 = .ok (.iload_n 2, 1) := by decide +kernel
theorem dX0_changeStep_11 : decode cX0_changeStep 11 = .ok (.ireturn, 1) := by decide +kernel
theorem dX0_changeKind_0 : decode cX0_changeKind 0 = .ok (.aload_n 0, 1) := by decide +kernel
theorem dX0_changeKind_1 : decode cX0_changeKind 1 = .ok (.getfield 22, 3) := by decide +kernel
theorem dX0_changeKind_4 : decode cX0_changeKind 4 = .ok (.istore_n 2, 1) := by decide +kernel
theorem dX0_changeKind_5 : decode cX0_changeKind 5 = .ok (.aload_n 0, 1) := by decide +kernel
theorem dX0_changeKind_6 : decode cX0_changeKind 6 = .ok (.iload_n 1, 1) := by decide +kernel
theorem dX0_changeKind_7 : decode cX0_changeKind 7 = .ok (.putfield 22, 3) := by decide +kernel
theorem dX0_changeKind_10 : decode cX0_changeKind 10 = .ok (.iload_n 2, 1) := by decide +kernel
theorem dX0_changeKind_11 : decode cX0_changeKind 11 = .ok (.ireturn, 1) := by decide +kernel
theorem dX0_takeWords_0 : decode cX0_takeWords 0 = .ok (.aload_n 0, 1) := by decide +kernel
theorem dX0_takeWords_1 : decode cX0_takeWords 1 = .ok (.getfield 9, 3) := by decide +kernel
theorem dX0_takeWords_4 : decode cX0_takeWords 4 = .ok (.iconst 0, 1) := by decide +kernel
theorem dX0_takeWords_5 : decode cX0_takeWords 5 = .ok (.iload_n 2, 1) := by decide +kernel
theorem dX0_takeWords_6 : decode cX0_takeWords 6 = .ok (.iastore, 1) := by decide +kernel
theorem dX0_takeWords_7 : decode cX0_takeWords 7 = .ok (.aload_n 0, 1) := by decide +kernel
theorem dX0_takeWords_8 : decode cX0_takeWords 8 = .ok (.getfield 9, 3) := by decide +kernel
theorem dX0_takeWords_11 : decode cX0_takeWords 11 = .ok (.iconst 1, 1) := by decide +kernel
theorem dX0_takeWords_12 : decode cX0_takeWords 12 = .ok (.iload_n 3, 1) := by decide +kernel
theorem dX0_takeWords_13 : decode cX0_takeWords 13 = .ok (.iastore, 1) := by decide +kernel
theorem dX0_takeWords_14 : decode cX0_takeWords 14 = .ok (.aload_n 0, 1) := by decide +kernel
theorem dX0_takeWords_15 : decode cX0_takeWords 15 = .ok (.getfield 9, 3) := by decide +kernel
theorem dX0_takeWords_18 : decode cX0_takeWords 18 = .ok (.iconst 2, 1) := by decide +kernel
theorem dX0_takeWords_19 : decode cX0_takeWords 19 = .ok (.iload 4, 2) := by decide +kernel
theorem dX0_takeWords_21 : decode cX0_takeWords 21 = .ok (.iastore, 1) := by decide +kernel
theorem dX0_takeWords_22 : decode cX0_takeWords 22 = .ok (.aload_n 0, 1) := by decide +kernel
theorem dX0_takeWords_23 : decode cX0_takeWords 23 = .ok (.getfield 9, 3) := by decide +kernel
theorem dX0_takeWords_26 : decode cX0_takeWords 26 = .ok (.iconst 3, 1) := by decide +kernel
theorem dX0_takeWords_27 : decode cX0_takeWords 27 = .ok (.iload 5, 2) := by decide +kernel
theorem dX0_takeWords_29 : decode cX0_takeWords 29 = .ok (.iastore, 1) := by decide +kernel
theorem dX0_takeWords_30 : decode cX0_takeWords 30 = .ok (.aload_n 0, 1) := by decide +kernel
theorem dX0_takeWords_31 : decode cX0_takeWords 31 = .ok (.iload_n 1, 1) := by decide +kernel
theorem dX0_takeWords_32 : decode cX0_takeWords 32 = .ok (.putfield 15, 3) := by decide +kernel
theorem dX0_takeWords_35 : decode cX0_takeWords 35 = .ok (.return_, 1) := by decide +kernel
theorem dX0_mirrorWords_0 : decode cX0_mirrorWords 0 = .ok (.aload_n 0, 1) := by decide +kernel
theorem dX0_mirrorWords_1 : decode cX0_mirrorWords 1 = .ok (.getfield 15, 3) := by decide +kernel
theorem dX0_mirrorWords_4 : decode cX0_mirrorWords 4 = .ok (.iconst 1, 1) := by decide +kernel
theorem dX0_mirrorWords_5 : decode cX0_mirrorWords 5 = .ok (.isub, 1) := by decide +kernel
theorem dX0_mirrorWords_6 : decode cX0_mirrorWords 6 = .ok (.istore_n 1, 1) := by decide +kernel
theorem dX0_mirrorWords_7 : decode cX0_mirrorWords 7 = .ok (.iload_n 1, 1) := by decide +kernel
theorem dX0_mirrorWords_8 : decode cX0_mirrorWords 8 = .ok (.ifCond .lt 43, 3) := by decide +kernel
theorem dX0_mirrorWords_11 : decode cX0_mirrorWords 11 = .ok (.aload_n 0, 1) := by decide +kernel
theorem dX0_mirrorWords_12 : decode cX0_mirrorWords 12 = .ok (.getfield 15, 3) := by decide +kernel
theorem dX0_mirrorWords_15 : decode cX0_mirrorWords 15 = .ok (.bipush 8, 2) := by decide +kernel
theorem dX0_mirrorWords_17 : decode cX0_mirrorWords 17 = .ok (.if_icmp .ge 34, 3) := by decide +kernel
theorem dX0_mirrorWords_20 : decode cX0_mirrorWords 20 = .ok (.aload_n 0, 1) := by decide +kernel
theorem dX0_mirrorWords_21 : decode cX0_mirrorWords 21 = .ok (.getfield 9, 3) := by decide +kernel
theorem dX0_mirrorWords_24 : decode cX0_mirrorWords 24 = .ok (.aload_n 0, 1) := by decide +kernel
theorem dX0_mirrorWords_25 : decode cX0_mirrorWords 25 = .ok (.getfield 15, 3) := by decide +kernel
theorem dX0_mirrorWords_28 : decode cX0_mirrorWords 28 = .ok (.aload_n 0, 1) := by decide +kernel
theorem dX0_mirrorWords_29 : decode cX0_mirrorWords 29 = .ok (.getfield 9, 3) := by decide +kernel
theorem dX0_mirrorWords_32 : decode cX0_mirrorWords 32 = .ok (.iload_n 1, 1) := by decide +kernel
theorem dX0_mirrorWords_33 : decode cX0_mirrorWords 33 = .ok (.iaload, 1) := by decide +kernel
theorem dX0_mirrorWords_34 : decode cX0_mirrorWords 34 = .ok (.iastore, 1) := by decide +kernel
theorem dX0_mirrorWords_35 : decode cX0_mirrorWords 35 = .ok (.aload_n 0, 1) := by decide +kernel
theorem dX0_mirrorWords_36 : decode cX0_mirrorWords 36 = .ok (.dup, 1) := by decide +kernel
theorem dX0_mirrorWords_37 : decode cX0_mirrorWords 37 = .ok (.getfield 15, 3) := by decide +kernel
theorem dX0_mirrorWords_40 : decode cX0_mirrorWords 40 = .ok (.iconst 1, 1) := by decide +kernel
theorem dX0_mirrorWords_41 : decode cX0_mirrorWords 41 = .ok (.iadd, 1) := by decide +kernel
theorem dX0_mirrorWords_42 : decode cX0_mirrorWords 42 = .ok (.putfield 15, 3) := by decide +kernel
theorem dX0_mirrorWords_45 : decode cX0_mirrorWords 45 = .ok (.iinc 1 (-1), 3) := by decide +kernel
theorem dX0_mirrorWords_48 : decode cX0_mirrorWords 48 = .ok (.goto (-41), 3) := by decide +kernel
theorem dX0_mirrorWords_51 : decode cX0_mirrorWords 51 = .ok (.return_, 1) := by decide +kernel
set_option maxRecDepth 20000 in
theorem ggX0_ofTurn_X0_wordy : GoodIn wsX0_ofTurn wsX0_wordy := goodIn_r _ [7, 2, 8, 9, 10, 6, 11, 12, 13, 18, 19, 20, 21] (by decide +kernel) (by decide +kernel)
set_option maxRecDepth 20000 in
theorem gX0_ofTurn_X0_wordy : GoodIn wsX0_ofTurn (wsV RX0 25 RX0 yX0_wordy wsX0_wordy) := goodIn_app (goodIn_of _ (by decide +kernel)) ggX0_ofTurn_X0_wordy
set_option maxRecDepth 20000 in
theorem ggX0_ofTurn_X0_turning : GoodIn wsX0_ofTurn wsX0_turning := goodIn_r _ [17, 3, 4, 5, 6, 7, 2, 8, 9, 10, 11, 12, 13, 18, 19, 20, 21] (by decide +kernel) (by decide +kernel)
set_option maxRecDepth 20000 in
theorem gX0_ofTurn_X0_turning : GoodIn wsX0_ofTurn (wsV RX0 29 RX0 yX0_turning wsX0_turning) := goodIn_app (goodIn_of _ (by decide +kernel)) ggX0_ofTurn_X0_turning
theorem dX0_ofTurn_0 : decode cX0_ofTurn 0 = .ok (.aload_n 0, 1) := by decide +kernel
theorem dX0_ofTurn_1 : decode cX0_ofTurn 1 = .ok (.getfield 22, 3) := by decide +kernel
theorem dX0_ofTurn_4 : decode cX0_ofTurn 4 = .ok (.lookupswitch 40 #[(1, 28), (2, 34)], 28) := by decide +kernel
theorem dX0_ofTurn_32 : decode cX0_ofTurn 32 = .ok (.aload_n 0, 1) := by decide +kernel
theorem dX0_ofTurn_33 : decode cX0_ofTurn 33 = .ok (.iload_n 1, 1) := by decide +kernel
theorem dX0_ofTurn_34 : decode cX0_ofTurn 34 = .ok (.invokevirtual 25, 3) := by decide +kernel
theorem dX0_ofTurn_37 : decode cX0_ofTurn 37 = .ok (.ireturn, 1) := by decide +kernel
theorem dX0_ofTurn_38 : decode cX0_ofTurn 38 = .ok (.aload_n 0, 1) := by decide +kernel
theorem dX0_ofTurn_39 : decode cX0_ofTurn 39 = .ok (.iload_n 1, 1) := by decide +kernel
theorem dX0_ofTurn_40 : decode cX0_ofTurn 40 = .ok (.invokevirtual 29, 3) := by decide +kernel
theorem dX0_ofTurn_43 : decode cX0_ofTurn 43 = .ok (.ireturn, 1) := by decide +kernel
theorem dX0_ofTurn_44 : decode cX0_ofTurn 44 = .ok (.aload_n 0, 1) := by decide +kernel
theorem dX0_ofTurn_45 : decode cX0_ofTurn 45 = .ok (.getfield 19, 3) := by decide +kernel
theorem dX0_ofTurn_48 : decode cX0_ofTurn 48 = .ok (.ireturn, 1) := by decide +kernel
set_option maxRecDepth 20000 in
theorem ggX0_wordy_X0_wordOf : GoodIn wsX0_wordy wsX0_wordOf := goodIn_r _ [6, 7, 8, 9, 10, 11, 12] (by decide +kernel) (by decide +kernel)
set_option maxRecDepth 20000 in
theorem gX0_wordy_X0_wordOf : GoodIn wsX0_wordy (wsV RX0 32 RX0 yX0_wordOf wsX0_wordOf) := goodIn_app (goodIn_of _ (by decide +kernel)) ggX0_wordy_X0_wordOf
theorem dX0_wordy_0 : decode cX0_wordy 0 = .ok (.aload_n 0, 1) := by decide +kernel
theorem dX0_wordy_1 : decode cX0_wordy 1 = .ok (.getfield 19, 3) := by decide +kernel
theorem dX0_wordy_4 : decode cX0_wordy 4 = .ok (.aload_n 0, 1) := by decide +kernel
theorem dX0_wordy_5 : decode cX0_wordy 5 = .ok (.iload_n 1, 1) := by decide +kernel
theorem dX0_wordy_6 : decode cX0_wordy 6 = .ok (.invokevirtual 32, 3) := by decide +kernel
theorem dX0_wordy_9 : decode cX0_wordy 9 = .ok (.iadd, 1) := by decide +kernel
theorem dX0_wordy_10 : decode cX0_wordy 10 = .ok (.ireturn, 1) := by decide +kernel
set_option maxRecDepth 20000 in
theorem ggX0_turning_X0_wordy : GoodIn wsX0_turning wsX0_wordy := goodIn_r _ [5, 6, 7, 8, 9, 4, 10, 11, 12, 13, 14, 15, 16] (by decide +kernel) (by decide +kernel)
set_option maxRecDepth 20000 in
theorem gX0_turning_X0_wordy : GoodIn wsX0_turning (wsV RX0 25 RX0 yX0_wordy wsX0_wordy) := goodIn_app (goodIn_of _ (by decide +kernel)) ggX0_turning_X0_wordy
theorem dX0_turning_0 : decode cX0_turning 0 = .ok (.iload_n 1, 1) := by decide +kernel
theorem dX0_turning_1 : decode cX0_turning 1 = .ok (.iconst 2, 1) := by decide +kernel
theorem dX0_turning_2 : decode cX0_turning 2 = .ok (.irem, 1) := by decide +kernel
theorem dX0_turning_3 : decode cX0_turning 3 = .ok (.ifCond .ne 11, 3) := by decide +kernel
theorem dX0_turning_6 : decode cX0_turning 6 = .ok (.aload_n 0, 1) := by decide +kernel
theorem dX0_turning_7 : decode cX0_turning 7 = .ok (.iload_n 1, 1) := by decide +kernel
theorem dX0_turning_8 : decode cX0_turning 8 = .ok (.invokevirtual 25, 3) := by decide +kernel
theorem dX0_turning_11 : decode cX0_turning 11 = .ok (.goto 9, 3) := by decide +kernel
theorem dX0_turning_14 : decode cX0_turning 14 = .ok (.aload_n 0, 1) := by decide +kernel
theorem dX0_turning_15 : decode cX0_turning 15 = .ok (.iload_n 1, 1) := by decide +kernel
theorem dX0_turning_16 : decode cX0_turning 16 = .ok (.invokevirtual 25, 3) := by decide +kernel
theorem dX0_turning_19 : decode cX0_turning 19 = .ok (.ineg, 1) := by decide +kernel
theorem dX0_turning_20 : decode cX0_turning 20 = .ok (.ireturn, 1) := by decide +kernel
theorem dX0_wordOf_0 : decode cX0_wordOf 0 = .ok (.iload_n 1, 1) := by decide +kernel
theorem dX0_wordOf_1 : decode cX0_wordOf 1 = .ok (.ifCond .lt 11, 3) := by decide +kernel
theorem dX0_wordOf_4 : decode cX0_wordOf 4 = .ok (.aload_n 0, 1) := by decide +kernel
theorem dX0_wordOf_5 : decode cX0_wordOf 5 = .ok (.getfield 15, 3) := by decide +kernel
theorem dX0_wordOf_8 : decode cX0_wordOf 8 = .ok (.iconst 1, 1) := by decide +kernel
theorem dX0_wordOf_9 : decode cX0_wordOf 9 = .ok (.if_icmp .ge 7, 3) := by decide +kernel
theorem dX0_wordOf_12 : decode cX0_wordOf 12 = .ok (.iconst 0, 1) := by decide +kernel
theorem dX0_wordOf_13 : decode cX0_wordOf 13 = .ok (.goto 14, 3) := by decide +kernel
theorem dX0_wordOf_16 : decode cX0_wordOf 16 = .ok (.aload_n 0, 1) := by decide +kernel
theorem dX0_wordOf_17 : decode cX0_wordOf 17 = .ok (.getfield 9, 3) := by decide +kernel
theorem dX0_wordOf_20 : decode cX0_wordOf 20 = .ok (.iload_n 1, 1) := by decide +kernel
theorem dX0_wordOf_21 : decode cX0_wordOf 21 = .ok (.aload_n 0, 1) := by decide +kernel
theorem dX0_wordOf_22 : decode cX0_wordOf 22 = .ok (.getfield 15, 3) := by decide +kernel
theorem dX0_wordOf_25 : decode cX0_wordOf 25 = .ok (.irem, 1) := by decide +kernel
theorem dX0_wordOf_26 : decode cX0_wordOf 26 = .ok (.iaload, 1) := by decide +kernel
theorem dX0_wordOf_27 : decode cX0_wordOf 27 = .ok (.ireturn, 1) := by decide +kernel
theorem dX0_toll_0 : decode cX0_toll 0 = .ok (.aload_n 0, 1) := by decide +kernel
theorem dX0_toll_1 : decode cX0_toll 1 = .ok (.getfield 22, 3) := by decide +kernel
theorem dX0_toll_4 : decode cX0_toll 4 = .ok (.ifCond .lt 14, 3) := by decide +kernel
theorem dX0_toll_7 : decode cX0_toll 7 = .ok (.aload_n 0, 1) := by decide +kernel
theorem dX0_toll_8 : decode cX0_toll 8 = .ok (.getfield 22, 3) := by decide +kernel
theorem dX0_toll_11 : decode cX0_toll 11 = .ok (.getstatic 35, 3) := by decide +kernel
theorem dX0_toll_14 : decode cX0_toll 14 = .ok (.arraylength, 1) := by decide +kernel
theorem dX0_toll_15 : decode cX0_toll 15 = .ok (.if_icmp .lt 7, 3) := by decide +kernel
theorem dX0_toll_18 : decode cX0_toll 18 = .ok (.iconst 0, 1) := by decide +kernel
theorem dX0_toll_19 : decode cX0_toll 19 = .ok (.goto 11, 3) := by decide +kernel
theorem dX0_toll_22 : decode cX0_toll 22 = .ok (.getstatic 35, 3) := by decide +kernel
theorem dX0_toll_25 : decode cX0_toll 25 = .ok (.aload_n 0, 1) := by decide +kernel
theorem dX0_toll_26 : decode cX0_toll 26 = .ok (.getfield 22, 3) := by decide +kernel
theorem dX0_toll_29 : decode cX0_toll 29 = .ok (.iaload, 1) := by decide +kernel
theorem dX0_toll_30 : decode cX0_toll 30 = .ok (.ireturn, 1) := by decide +kernel
set_option maxRecDepth 20000 in
theorem ggX1_init_X1_begin : GoodIn wsX1_init wsX1_begin := goodIn_r _ [13, 14, 15, 16, 17, 18, 19, 20, 21, 5, 6, 22, 23, 24, 25, 26, 27, 28, 29] (by decide +kernel) (by decide +kernel)
set_option maxRecDepth 20000 in
theorem gX1_init_X1_begin : GoodIn wsX1_init (wsV RX1 24 RX1 yX1_begin wsX1_begin) := goodIn_app (goodIn_of _ (by decide +kernel)) ggX1_init_X1_begin
theorem dX1_init_0 : decode cX1_init 0 = .ok (.aload_n 0, 1) := by decide +kernel
theorem dX1_init_1 : decode cX1_init 1 = .ok (.invokespecial 3, 3) := by decide +kernel
theorem dX1_init_4 : decode cX1_init 4 = .ok (.aload_n 0, 1) := by decide +kernel
theorem dX1_init_5 : decode cX1_init 5 = .ok (.bipush 40, 2) := by decide +kernel
theorem dX1_init_7 : decode cX1_init 7 = .ok (.newarray .int, 2) := by decide +kernel
theorem dX1_init_9 : decode cX1_init 9 = .ok (.putfield 9, 3) := by decide +kernel
theorem dX1_init_12 : decode cX1_init 12 = .ok (.aload_n 0, 1) := by decide +kernel
theorem dX1_init_13 : decode cX1_init 13 = .ok (.bipush 40, 2) := by decide +kernel
theorem dX1_init_15 : decode cX1_init 15 = .ok (.newarray .int, 2) := by decide +kernel
theorem dX1_init_17 : decode cX1_init 17 = .ok (.putfield 15, 3) := by decide +kernel
theorem dX1_init_20 : decode cX1_init 20 = .ok (.aload_n 0, 1) := by decide +kernel
theorem dX1_init_21 : decode cX1_init 21 = .ok (.sipush 200, 3) := by decide +kernel
theorem dX1_init_24 : decode cX1_init 24 = .ok (.newarray .int, 2) := by decide +kernel
theorem dX1_init_26 : decode cX1_init 26 = .ok (.putfield 18, 3) := by decide +kernel
theorem dX1_init_29 : decode cX1_init 29 = .ok (.aload_n 0, 1) := by decide +kernel
theorem dX1_init_30 : decode cX1_init 30 = .ok (.sipush 200, 3) := by decide +kernel
theorem dX1_init_33 : decode cX1_init 33 = .ok (.newarray .int, 2) := by decide +kernel
theorem dX1_init_35 : decode cX1_init 35 = .ok (.putfield 21, 3) := by decide +kernel
theorem dX1_init_38 : decode cX1_init 38 = .ok (.aload_n 0, 1) := by decide +kernel
theorem dX1_init_39 : decode cX1_init 39 = .ok (.bipush 10, 2) := by decide +kernel
theorem dX1_init_41 : decode cX1_init 41 = .ok (.invokevirtual 24, 3) := by decide +kernel
theorem dX1_init_44 : decode cX1_init 44 = .ok (.return_, 1) := by decide +kernel
theorem dX1_begin_0 : decode cX1_begin 0 = .ok (.aload_n 0, 1) := by decide +kernel
theorem dX1_begin_1 : decode cX1_begin 1 = .ok (.iload_n 1, 1) := by decide +kernel
theorem dX1_begin_2 : decode cX1_begin 2 = .ok (.bipush 40, 2) := by decide +kernel
theorem dX1_begin_4 : decode cX1_begin 4 = .ok (.invokestatic 28, 3) := by decide +kernel
theorem dX1_begin_7 : decode cX1_begin 7 = .ok (.putfield 34, 3) := by decide +kernel
theorem dX1_begin_10 : decode cX1_begin 10 = .ok (.aload_n 0, 1) := by decide +kernel
theorem dX1_begin_11 : decode cX1_begin 11 = .ok (.aload_n 0, 1) := by decide +kernel
theorem dX1_begin_12 : decode cX1_begin 12 = .ok (.getfield 34, 3) := by decide +kernel
theorem dX1_begin_15 : decode cX1_begin 15 = .ok (.putfield 38, 3) := by decide +kernel
theorem dX1_begin_18 : decode cX1_begin 18 = .ok (.aload_n 0, 1) := by decide +kernel
theorem dX1_begin_19 : decode cX1_begin 19 = .ok (.iconst 0, 1) := by decide +kernel
theorem dX1_begin_20 : decode cX1_begin 20 = .ok (.putfield 41, 3) := by decide +kernel
theorem dX1_begin_23 : decode cX1_begin 23 = .ok (.aload_n 0, 1) := by decide +kernel
theorem dX1_begin_24 : decode cX1_begin 24 = .ok (.iconst 0, 1) := by decide +kernel
theorem dX1_begin_25 : decode cX1_begin 25 = .ok (.putfield 44, 3) := by decide +kernel
theorem dX1_begin_28 : decode cX1_begin 28 = .ok (.iconst 0, 1) := by decide +kernel
theorem dX1_begin_29 : decode cX1_begin 29 = .ok (.istore_n 2, 1) := by decide +kernel
theorem dX1_begin_30 : decode cX1_begin 30 = .ok (.iload_n 2, 1) := by decide +kernel
theorem dX1_begin_31 : decode cX1_begin 31 = .ok (.aload_n 0, 1) := by decide +kernel
theorem dX1_begin_32 : decode cX1_begin 32 = .ok (.getfield 34, 3) := by decide +kernel
theorem dX1_begin_35 : decode cX1_begin 35 = .ok (.if_icmp .ge 24, 3) := by decide +kernel
theorem dX1_begin_38 : decode cX1_begin 38 = .ok (.aload_n 0, 1) := by decide +kernel
theorem dX1_begin_39 : decode cX1_begin 39 = .ok (.getfield 9, 3) := by decide +kernel
theorem dX1_begin_42 : decode cX1_begin 42 = .ok (.iload_n 2, 1) := by decide +kernel
theorem dX1_begin_43 : decode cX1_begin 43 = .ok (.iconst 1, 1) := by decide +kernel
theorem dX1_begin_44 : decode cX1_begin 44 = .ok (.iastore, 1) := by decide +kernel
theorem dX1_begin_45 : decode cX1_begin 45 = .ok (.aload_n 0, 1) := by decide +kernel
theorem dX1_begin_46 : decode cX1_begin 46 = .ok (.getfield 15, 3) := by decide +kernel
theorem dX1_begin_49 : decode cX1_begin 49 = .ok (.iload_n 2, 1) := by decide +kernel
theorem dX1_begin_50 : decode cX1_begin 50 = .ok (.bipush (-9), 2) := by decide +kernel
theorem dX1_begin_52 : decode cX1_begin 52 = .ok (.iastore, 1) := by decide +kernel
theorem dX1_begin_53 : decode cX1_begin 53 = .ok (.iinc 2 1, 3) := by decide +kernel
theorem dX1_begin_56 : decode cX1_begin 56 = .ok (.goto (-26), 3) := by decide +kernel
theorem dX1_begin_59 : decode cX1_begin 59 = .ok (.return_, 1) := by decide +kernel
theorem dX1_has_0 : decode cX1_has 0 = .ok (.iload_n 1, 1) := by decide +kernel
theorem dX1_has_1 : decode cX1_has 1 = .ok (.ifCond .lt 15, 3) := by decide +kernel
theorem dX1_has_4 : decode cX1_has 4 = .ok (.iload_n 1, 1) := by decide +kernel
theorem dX1_has_5 : decode cX1_has 5 = .ok (.aload_n 0, 1) := by decide +kernel
theorem dX1_has_6 : decode cX1_has 6 = .ok (.getfield 34, 3) := by decide +kernel
theorem dX1_has_9 : decode cX1_has 9 = .ok (.if_icmp .ge 7, 3) := by decide +kernel
theorem dX1_has_12 : decode cX1_has 12 = .ok (.iconst 1, 1) := by decide +kernel
theorem dX1_has_13 : decode cX1_has 13 = .ok (.goto 4, 3) := by decide +kernel
theorem dX1_has_16 : decode cX1_has 16 = .ok (.iconst 0, 1) := by decide +kernel
theorem dX1_has_17 : decode cX1_has 17 = .ok (.ireturn, 1) := by decide +kernel
theorem dX1_hasBegun_0 : decode cX1_hasBegun 0 = .ok (.aload_n 0, 1) := by decide +kernel
theorem dX1_hasBegun_1 : decode cX1_hasBegun 1 = .ok (.getfield 44, 3) := by decide +kernel
theorem dX1_hasBegun_4 : decode cX1_hasBegun 4 = .ok (.ifCond .le 7, 3) := by decide +kernel
theorem dX1_hasBegun_7 : decode cX1_hasBegun 7 = .ok (.iconst 1, 1) := by decide +kernel
theorem dX1_hasBegun_8 : decode cX1_hasBegun 8 = .ok (.goto 4, 3) := by decide +kernel
theorem dX1_hasBegun_11 : decode cX1_hasBegun 11 = .ok (.iconst 0, 1) := by decide +kernel
theorem dX1_hasBegun_12 : decode cX1_hasBegun 12 = .ok (.ireturn, 1) := by decide +kernel
theorem dX1_giveLives_0 : decode cX1_giveLives 0 = .ok (.aload_n 0, 1) := by decide +kernel
theorem dX1_giveLives_1 : decode cX1_giveLives 1 = .ok (.getfield 9, 3) := by decide +kernel
theorem dX1_giveLives_4 : decode cX1_giveLives 4 = .ok (.iload_n 1, 1) := by decide +kernel
theorem dX1_giveLives_5 : decode cX1_giveLives 5 = .ok (.iaload, 1) := by decide +kernel
theorem dX1_giveLives_6 : decode cX1_giveLives 6 = .ok (.istore_n 3, 1) := by decide +kernel
theorem dX1_giveLives_7 : decode cX1_giveLives 7 = .ok (.aload_n 0, 1) := by decide +kernel
theorem dX1_giveLives_8 : decode cX1_giveLives 8 = .ok (.getfield 9, 3) := by decide +kernel
theorem dX1_giveLives_11 : decode cX1_giveLives 11 = .ok (.iload_n 1, 1) := by decide +kernel
theorem dX1_giveLives_12 : decode cX1_giveLives 12 = .ok (.iload_n 2, 1) := by decide +kernel
theorem dX1_giveLives_13 : decode cX1_giveLives 13 = .ok (.iastore, 1) := by decide +kernel
theorem dX1_giveLives_14 : decode cX1_giveLives 14 = .ok (.iload_n 3, 1) := by decide +kernel
theorem dX1_giveLives_15 : decode cX1_giveLives 15 = .ok (.ireturn, 1) := by decide +kernel
set_option maxRecDepth 20000 in
theorem ggX1_takeTurn_X1_countedBy : GoodIn wsX1_takeTurn wsX1_countedBy := goodIn_r _ [10, 1, 5, 11, 12, 13, 14, 15, 16, 17, 9, 18, 19, 20, 26, 27, 28, 29, 30, 31, 32, 33] (by decide +kernel) (by decide +kernel)
set_option maxRecDepth 20000 in
theorem gX1_takeTurn_X1_countedBy : GoodIn wsX1_takeTurn (wsV RX1 47 RX1 yX1_countedBy wsX1_countedBy) := goodIn_app (goodIn_of _ (by decide +kernel)) ggX1_takeTurn_X1_countedBy
set_option maxRecDepth 20000 in
theorem ggX1_takeTurn_X1_loseLife : GoodIn wsX1_takeTurn wsX1_loseLife := goodIn_r _ [24, 20, 1, 25, 19, 26, 27, 28, 29, 30, 31, 32, 33] (by decide +kernel) (by decide +kernel)
set_option maxRecDepth 20000 in
theorem gX1_takeTurn_X1_loseLife : GoodIn wsX1_takeTurn (wsV RX1 51 RX1 yX1_loseLife wsX1_loseLife) := goodIn_app (goodIn_of _ (by decide +kernel)) ggX1_takeTurn_X1_loseLife
set_option maxRecDepth 20000 in
theorem ggX1_takeTurn_X1_nextLeft : GoodIn wsX1_takeTurn wsX1_nextLeft := goodIn_r _ [18, 19, 20, 26, 27, 28, 29, 30, 31, 32, 33] (by decide +kernel) (by decide +kernel)
set_option maxRecDepth 20000 in
theorem gX1_takeTurn_X1_nextLeft : GoodIn wsX1_takeTurn (wsV RX1 54 RX1 yX1_nextLeft wsX1_nextLeft) := goodIn_app (goodIn_of _ (by decide +kernel)) ggX1_takeTurn_X1_nextLeft
theorem dX1_takeTurn_0 : decode cX1_takeTurn 0 = .ok (.aload_n 0, 1) := by decide +kernel
theorem dX1_takeTurn_1 : decode cX1_takeTurn 1 = .ok (.getfield 38, 3) := by decide +kernel
theorem dX1_takeTurn_4 : decode cX1_takeTurn 4 = .ok (.iconst 2, 1) := by decide +kernel
theorem dX1_takeTurn_5 : decode cX1_takeTurn 5 = .ok (.if_icmp .lt 13, 3) := by decide +kernel
theorem dX1_takeTurn_8 : decode cX1_takeTurn 8 = .ok (.aload_n 0, 1) := by decide +kernel
theorem dX1_takeTurn_9 : decode cX1_takeTurn 9 = .ok (.getfield 44, 3) := by decide +kernel
theorem dX1_takeTurn_12 : decode cX1_takeTurn 12 = .ok (.sipush 200, 3) := by decide +kernel
theorem dX1_takeTurn_15 : decode cX1_takeTurn 15 = .ok (.if_icmp .lt 5, 3) := by decide +kernel
theorem dX1_takeTurn_18 : decode cX1_takeTurn 18 = .ok (.iconst 0, 1) := by decide +kernel
theorem dX1_takeTurn_19 : decode cX1_takeTurn 19 = .ok (.ireturn, 1) := by decide +kernel
theorem dX1_takeTurn_20 : decode cX1_takeTurn 20 = .ok (.aload_n 0, 1) := by decide +kernel
theorem dX1_takeTurn_21 : decode cX1_takeTurn 21 = .ok (.iload_n 1, 1) := by decide +kernel
theorem dX1_takeTurn_22 : decode cX1_takeTurn 22 = .ok (.invokevirtual 47, 3) := by decide +kernel
theorem dX1_takeTurn_25 : decode cX1_takeTurn 25 = .ok (.istore_n 2, 1) := by decide +kernel
theorem dX1_takeTurn_26 : decode cX1_takeTurn 26 = .ok (.aload_n 0, 1) := by decide +kernel
theorem dX1_takeTurn_27 : decode cX1_takeTurn 27 = .ok (.getfield 18, 3) := by decide +kernel
theorem dX1_takeTurn_30 : decode cX1_takeTurn 30 = .ok (.aload_n 0, 1) := by decide +kernel
theorem dX1_takeTurn_31 : decode cX1_takeTurn 31 = .ok (.getfield 44, 3) := by decide +kernel
theorem dX1_takeTurn_34 : decode cX1_takeTurn 34 = .ok (.iload_n 2, 1) := by decide +kernel
theorem dX1_takeTurn_35 : decode cX1_takeTurn 35 = .ok (.iastore, 1) := by decide +kernel
theorem dX1_takeTurn_36 : decode cX1_takeTurn 36 = .ok (.aload_n 0, 1) := by decide +kernel
theorem dX1_takeTurn_37 : decode cX1_takeTurn 37 = .ok (.getfield 21, 3) := by decide +kernel
theorem dX1_takeTurn_40 : decode cX1_takeTurn 40 = .ok (.aload_n 0, 1) := by decide +kernel
theorem dX1_takeTurn_41 : decode cX1_takeTurn 41 = .ok (.getfield 44, 3) := by decide +kernel
theorem dX1_takeTurn_44 : decode cX1_takeTurn 44 = .ok (.aload_n 0, 1) := by decide +kernel
theorem dX1_takeTurn_45 : decode cX1_takeTurn 45 = .ok (.getfield 41, 3) := by decide +kernel
theorem dX1_takeTurn_48 : decode cX1_takeTurn 48 = .ok (.iastore, 1) := by decide +kernel
theorem dX1_takeTurn_49 : decode cX1_takeTurn 49 = .ok (.aload_n 0, 1) := by decide +kernel
theorem dX1_takeTurn_50 : decode cX1_takeTurn 50 = .ok (.dup, 1) := by decide +kernel
theorem dX1_takeTurn_51 : decode cX1_takeTurn 51 = .ok (.getfield 44, 3) := by decide +kernel
theorem dX1_takeTurn_54 : decode cX1_takeTurn 54 = .ok (.iconst 1, 1) := by decide +kernel
theorem dX1_takeTurn_55 : decode cX1_takeTurn 55 = .ok (.iadd, 1) := by decide +kernel
theorem dX1_takeTurn_56 : decode cX1_takeTurn 56 = .ok (.putfield 44, 3) := by decide +kernel
theorem dX1_takeTurn_59 : decode cX1_takeTurn 59 = .ok (.aload_n 0, 1) := by decide +kernel
theorem dX1_takeTurn_60 : decode cX1_takeTurn 60 = .ok (.iload_n 2, 1) := by decide +kernel
theorem dX1_takeTurn_61 : decode cX1_takeTurn 61 = .ok (.invokevirtual 51, 3) := by decide +kernel
theorem dX1_takeTurn_64 : decode cX1_takeTurn 64 = .ok (.aload_n 0, 1) := by decide +kernel
theorem dX1_takeTurn_65 : decode cX1_takeTurn 65 = .ok (.aload_n 0, 1) := by decide +kernel
theorem dX1_takeTurn_66 : decode cX1_takeTurn 66 = .ok (.iload_n 2, 1) := by decide +kernel
theorem dX1_takeTurn_67 : decode cX1_takeTurn 67 = .ok (.invokevirtual 54, 3) := by decide +kernel
theorem dX1_takeTurn_70 : decode cX1_takeTurn 70 = .ok (.putfield 41, 3) := by decide +kernel
theorem dX1_takeTurn_73 : decode cX1_takeTurn 73 = .ok (.iconst 1, 1) := by decide +kernel
theorem dX1_takeTurn_74 : decode cX1_takeTurn 74 = .ok (.ireturn, 1) := by decide +kernel
set_option maxRecDepth 20000 in
theorem ggX1_countedBy_J9_floorMod_7cf53 : GoodIn wsX1_countedBy wsJ9_floorMod_7cf53 := goodIn_r _ [6] (by decide +kernel) (by decide +kernel)
set_option maxRecDepth 20000 in
theorem gX1_countedBy_J9_floorMod_7cf53 : GoodIn wsX1_countedBy (va_wsS RX1 57 yJ9_floorMod_7cf53 wsJ9_floorMod_7cf53) := goodIn_app (goodIn_of _ (by decide +kernel)) ggX1_countedBy_J9_floorMod_7cf53
set_option maxRecDepth 20000 in
theorem ggX1_countedBy_X1_nextLeft : GoodIn wsX1_countedBy wsX1_nextLeft := goodIn_r _ [11, 12, 13, 14, 15, 16, 17, 18, 19, 20, 21] (by decide +kernel) (by decide +kernel)
set_option maxRecDepth 20000 in
theorem gX1_countedBy_X1_nextLeft : GoodIn wsX1_countedBy (wsV RX1 54 RX1 yX1_nextLeft wsX1_nextLeft) := goodIn_app (goodIn_of _ (by decide +kernel)) ggX1_countedBy_X1_nextLeft
theorem dX1_countedBy_0 : decode cX1_countedBy 0 = .ok (.aload_n 0, 1) := by decide +kernel
theorem dX1_countedBy_1 : decode cX1_countedBy 1 = .ok (.getfield 38, 3) := by decide +kernel
theorem dX1_countedBy_4 : decode cX1_countedBy 4 = .ok (.iconst 1, 1) := by decide +kernel
theorem dX1_countedBy_5 : decode cX1_countedBy 5 = .ok (.if_icmp .ge 8, 3) := by decide +kernel
theorem dX1_countedBy_8 : decode cX1_countedBy 8 = .ok (.aload_n 0, 1) := by decide +kernel
theorem dX1_countedBy_9 : decode cX1_countedBy 9 = .ok (.getfield 41, 3) := by decide +kernel
theorem dX1_countedBy_12 : decode cX1_countedBy 12 = .ok (.ireturn, 1) := by decide +kernel
theorem dX1_countedBy_13 : decode cX1_countedBy 13 = .ok (.iload_n 1, 1) := by decide +kernel
theorem dX1_countedBy_14 : decode cX1_countedBy 14 = .ok (.ifCond .le 9, 3) := by decide +kernel
theorem dX1_countedBy_17 : decode cX1_countedBy 17 = .ok (.iload_n 1, 1) := by decide +kernel
theorem dX1_countedBy_18 : decode cX1_countedBy 18 = .ok (.iconst 1, 1) := by decide +kernel
theorem dX1_countedBy_19 : decode cX1_countedBy 19 = .ok (.isub, 1) := by decide +kernel
theorem dX1_countedBy_20 : decode cX1_countedBy 20 = .ok (.goto 4, 3) := by decide +kernel
theorem dX1_countedBy_23 : decode cX1_countedBy 23 = .ok (.iload_n 1, 1) := by decide +kernel
theorem dX1_countedBy_24 : decode cX1_countedBy 24 = .ok (.aload_n 0, 1) := by decide +kernel
theorem dX1_countedBy_25 : decode cX1_countedBy 25 = .ok (.getfield 38, 3) := by decide +kernel
theorem dX1_countedBy_28 : decode cX1_countedBy 28 = .ok (.invokestatic 57, 3) := by decide +kernel
theorem dX1_countedBy_31 : decode cX1_countedBy 31 = .ok (.istore_n 2, 1) := by decide +kernel
theorem dX1_countedBy_32 : decode cX1_countedBy 32 = .ok (.aload_n 0, 1) := by decide +kernel
theorem dX1_countedBy_33 : decode cX1_countedBy 33 = .ok (.getfield 41, 3) := by decide +kernel
theorem dX1_countedBy_36 : decode cX1_countedBy 36 = .ok (.istore_n 3, 1) := by decide +kernel
theorem dX1_countedBy_37 : decode cX1_countedBy 37 = .ok (.iconst 0, 1) := by decide +kernel
theorem dX1_countedBy_38 : decode cX1_countedBy 38 = .ok (.istore 4, 2) := by decide +kernel
theorem dX1_countedBy_40 : decode cX1_countedBy 40 = .ok (.iload 4, 2) := by decide +kernel
theorem dX1_countedBy_42 : decode cX1_countedBy 42 = .ok (.iload_n 2, 1) := by decide +kernel
theorem dX1_countedBy_43 : decode cX1_countedBy 43 = .ok (.if_icmp .ge 15, 3) := by decide +kernel
theorem dX1_countedBy_46 : decode cX1_countedBy 46 = .ok (.aload_n 0, 1) := by decide +kernel
theorem dX1_countedBy_47 : decode cX1_countedBy 47 = .ok (.iload_n 3, 1) := by decide +kernel
theorem dX1_countedBy_48 : decode cX1_countedBy 48 = .ok (.invokevirtual 54, 3) := by decide +kernel
theorem dX1_countedBy_51 : decode cX1_countedBy 51 = .ok (.istore_n 3, 1) := by decide +kernel
theorem dX1_countedBy_52 : decode cX1_countedBy 52 = .ok (.iinc 4 1, 3) := by decide +kernel
theorem dX1_countedBy_55 : decode cX1_countedBy 55 = .ok (.goto (-15), 3) := by decide +kernel
theorem dX1_countedBy_58 : decode cX1_countedBy 58 = .ok (.iload_n 3, 1) := by decide +kernel
theorem dX1_countedBy_59 : decode cX1_countedBy 59 = .ok (.ireturn, 1) := by decide +kernel
theorem dX1_loseLife_0 : decode cX1_loseLife 0 = .ok (.aload_n 0, 1) := by decide +kernel
theorem dX1_loseLife_1 : decode cX1_loseLife 1 = .ok (.getfield 9, 3) := by decide +kernel
theorem dX1_loseLife_4 : decode cX1_loseLife 4 = .ok (.iload_n 1, 1) := by decide +kernel
theorem dX1_loseLife_5 : decode cX1_loseLife 5 = .ok (.dup2, 1) := by decide +kernel
theorem dX1_loseLife_6 : decode cX1_loseLife 6 = .ok (.iaload, 1) := by decide +kernel
theorem dX1_loseLife_7 : decode cX1_loseLife 7 = .ok (.iconst 1, 1) := by decide +kernel
theorem dX1_loseLife_8 : decode cX1_loseLife 8 = .ok (.isub, 1) := by decide +kernel
theorem dX1_loseLife_9 : decode cX1_loseLife 9 = .ok (.iastore, 1) := by decide +kernel
theorem dX1_loseLife_10 : decode cX1_loseLife 10 = .ok (.aload_n 0, 1) := by decide +kernel
theorem dX1_loseLife_11 : decode cX1_loseLife 11 = .ok (.getfield 9, 3) := by decide +kernel
theorem dX1_loseLife_14 : decode cX1_loseLife 14 = .ok (.iload_n 1, 1) := by decide +kernel
theorem dX1_loseLife_15 : decode cX1_loseLife 15 = .ok (.iaload, 1) := by decide +kernel
theorem dX1_loseLife_16 : decode cX1_loseLife 16 = .ok (.ifCond .ne 28, 3) := by decide +kernel
theorem dX1_loseLife_19 : decode cX1_loseLife 19 = .ok (.aload_n 0, 1) := by decide +kernel
theorem dX1_loseLife_20 : decode cX1_loseLife 20 = .ok (.dup, 1) := by decide +kernel
theorem dX1_loseLife_21 : decode cX1_loseLife 21 = .ok (.getfield 38, 3) := by decide +kernel
theorem dX1_loseLife_24 : decode cX1_loseLife 24 = .ok (.iconst 1, 1) := by decide +kernel
theorem dX1_loseLife_25 : decode cX1_loseLife 25 = .ok (.isub, 1) := by decide +kernel
theorem dX1_loseLife_26 : decode cX1_loseLife 26 = .ok (.putfield 38, 3) := by decide +kernel
theorem dX1_loseLife_29 : decode cX1_loseLife 29 = .ok (.aload_n 0, 1) := by decide +kernel
theorem dX1_loseLife_30 : decode cX1_loseLife 30 = .ok (.getfield 15, 3) := by decide +kernel
theorem dX1_loseLife_33 : decode cX1_loseLife 33 = .ok (.iload_n 1, 1) := by decide +kernel
theorem dX1_loseLife_34 : decode cX1_loseLife 34 = .ok (.aload_n 0, 1) := by decide +kernel
theorem dX1_loseLife_35 : decode cX1_loseLife 35 = .ok (.getfield 34, 3) := by decide +kernel
theorem dX1_loseLife_38 : decode cX1_loseLife 38 = .ok (.aload_n 0, 1) := by decide +kernel
theorem dX1_loseLife_39 : decode cX1_loseLife 39 = .ok (.getfield 38, 3) := by decide +kernel
theorem dX1_loseLife_42 : decode cX1_loseLife 42 = .ok (.isub, 1) := by decide +kernel
theorem dX1_loseLife_43 : decode cX1_loseLife 43 = .ok (.iastore, 1) := by decide +kernel
theorem dX1_loseLife_44 : decode cX1_loseLife 44 = .ok (.return_, 1) := by decide +kernel
theorem dX1_nextLeft_0 : decode cX1_nextLeft 0 = .ok (.iload_n 1, 1) := by decide +kernel
theorem dX1_nextLeft_1 : decode cX1_nextLeft 1 = .ok (.istore_n 2, 1) := by decide +kernel
theorem dX1_nextLeft_2 : decode cX1_nextLeft 2 = .ok (.iconst 0, 1) := by decide +kernel
theorem dX1_nextLeft_3 : decode cX1_nextLeft 3 = .ok (.istore_n 3, 1) := by decide +kernel
theorem dX1_nextLeft_4 : decode cX1_nextLeft 4 = .ok (.iload_n 3, 1) := by decide +kernel
theorem dX1_nextLeft_5 : decode cX1_nextLeft 5 = .ok (.aload_n 0, 1) := by decide +kernel
theorem dX1_nextLeft_6 : decode cX1_nextLeft 6 = .ok (.getfield 34, 3) := by decide +kernel
theorem dX1_nextLeft_9 : decode cX1_nextLeft 9 = .ok (.if_icmp .ge 38, 3) := by decide +kernel
theorem dX1_nextLeft_12 : decode cX1_nextLeft 12 = .ok (.iload_n 2, 1) := by decide +kernel
theorem dX1_nextLeft_13 : decode cX1_nextLeft 13 = .ok (.iconst 1, 1) := by decide +kernel
theorem dX1_nextLeft_14 : decode cX1_nextLeft 14 = .ok (.iadd, 1) := by decide +kernel
theorem dX1_nextLeft_15 : decode cX1_nextLeft 15 = .ok (.aload_n 0, 1) := by decide +kernel
theorem dX1_nextLeft_16 : decode cX1_nextLeft 16 = .ok (.getfield 34, 3) := by decide +kernel
theorem dX1_nextLeft_19 : decode cX1_nextLeft 19 = .ok (.if_icmp .ge 9, 3) := by decide +kernel
theorem dX1_nextLeft_22 : decode cX1_nextLeft 22 = .ok (.iload_n 2, 1) := by decide +kernel
theorem dX1_nextLeft_23 : decode cX1_nextLeft 23 = .ok (.iconst 1, 1) := by decide +kernel
theorem dX1_nextLeft_24 : decode cX1_nextLeft 24 = .ok (.iadd, 1) := by decide +kernel
theorem dX1_nextLeft_25 : decode cX1_nextLeft 25 = .ok (.goto 4, 3) := by decide +kernel
theorem dX1_nextLeft_28 : decode cX1_nextLeft 28 = .ok (.iconst 0, 1) := by decide +kernel
theorem dX1_nextLeft_29 : decode cX1_nextLeft 29 = .ok (.istore_n 2, 1) := by decide +kernel
theorem dX1_nextLeft_30 : decode cX1_nextLeft 30 = .ok (.aload_n 0, 1) := by decide +kernel
theorem dX1_nextLeft_31 : decode cX1_nextLeft 31 = .ok (.getfield 9, 3) := by decide +kernel
theorem dX1_nextLeft_34 : decode cX1_nextLeft 34 = .ok (.iload_n 2, 1) := by decide +kernel
theorem dX1_nextLeft_35 : decode cX1_nextLeft 35 = .ok (.iaload, 1) := by decide +kernel
theorem dX1_nextLeft_36 : decode cX1_nextLeft 36 = .ok (.ifCond .le 5, 3) := by decide +kernel
theorem dX1_nextLeft_39 : decode cX1_nextLeft 39 = .ok (.iload_n 2, 1) := by decide +kernel
theorem dX1_nextLeft_40 : decode cX1_nextLeft 40 = .ok (.ireturn, 1) := by decide +kernel
theorem dX1_nextLeft_41 : decode cX1_nextLeft 41 = .ok (.iinc 3 1, 3) := by decide +kernel
theorem dX1_nextLeft_44 : decode cX1_nextLeft 44 = .ok (.goto (-40), 3) := by decide +kernel
theorem dX1_nextLeft_47 : decode cX1_nextLeft 47 = .ok (.iload_n 1, 1) := by decide +kernel
theorem dX1_nextLeft_48 : decode cX1_nextLeft 48 = .ok (.ireturn, 1) := by decide +kernel
theorem dX1_takeBack_0 : decode cX1_takeBack 0 = .ok (.aload_n 0, 1) := by decide +kernel
theorem dX1_takeBack_1 : decode cX1_takeBack 1 = .ok (.getfield 44, 3) := by decide +kernel
theorem dX1_takeBack_4 : decode cX1_takeBack 4 = .ok (.iconst 1, 1) := by decide +kernel
theorem dX1_takeBack_5 : decode cX1_takeBack 5 = .ok (.if_icmp .ge 5, 3) := by decide +kernel
theorem dX1_takeBack_8 : decode cX1_takeBack 8 = .ok (.iconst 0, 1) := by decide +kernel
theorem dX1_takeBack_9 : decode cX1_takeBack 9 = .ok (.ireturn, 1) := by decide +kernel
theorem dX1_takeBack_10 : decode cX1_takeBack 10 = .ok (.aload_n 0, 1) := by decide +kernel
theorem dX1_takeBack_11 : decode cX1_takeBack 11 = .ok (.dup, 1) := by decide +kernel
theorem dX1_takeBack_12 : decode cX1_takeBack 12 = .ok (.getfield 44, 3) := by decide +kernel
theorem dX1_takeBack_15 : decode cX1_takeBack 15 = .ok (.iconst 1, 1) := by decide +kernel
theorem dX1_takeBack_16 : decode cX1_takeBack 16 = .ok (.isub, 1) := by decide +kernel
theorem dX1_takeBack_17 : decode cX1_takeBack 17 = .ok (.putfield 44, 3) := by decide +kernel
theorem dX1_takeBack_20 : decode cX1_takeBack 20 = .ok (.aload_n 0, 1) := by decide +kernel
theorem dX1_takeBack_21 : decode cX1_takeBack 21 = .ok (.getfield 18, 3) := by decide +kernel
theorem dX1_takeBack_24 : decode cX1_takeBack 24 = .ok (.aload_n 0, 1) := by decide +kernel
theorem dX1_takeBack_25 : decode cX1_takeBack 25 = .ok (.getfield 44, 3) := by decide +kernel
theorem dX1_takeBack_28 : decode cX1_takeBack 28 = .ok (.iaload, 1) := by decide +kernel
theorem dX1_takeBack_29 : decode cX1_takeBack 29 = .ok (.istore_n 1, 1) := by decide +kernel
theorem dX1_takeBack_30 : decode cX1_takeBack 30 = .ok (.aload_n 0, 1) := by decide +kernel
theorem dX1_takeBack_31 : decode cX1_takeBack 31 = .ok (.getfield 9, 3) := by decide +kernel
theorem dX1_takeBack_34 : decode cX1_takeBack 34 = .ok (.iload_n 1, 1) := by decide +kernel
theorem dX1_takeBack_35 : decode cX1_takeBack 35 = .ok (.iaload, 1) := by decide +kernel
theorem dX1_takeBack_36 : decode cX1_takeBack 36 = .ok (.ifCond .ne 21, 3) := by decide +kernel
theorem dX1_takeBack_39 : decode cX1_takeBack 39 = .ok (.aload_n 0, 1) := by decide +kernel
theorem dX1_takeBack_40 : decode cX1_takeBack 40 = .ok (.dup, 1) := by decide +kernel
theorem dX1_takeBack_41 : decode cX1_takeBack 41 = .ok (.getfield 38, 3) := by decide +kernel
theorem dX1_takeBack_44 : decode cX1_takeBack 44 = .ok (.iconst 1, 1) := by decide +kernel
theorem dX1_takeBack_45 : decode cX1_takeBack 45 = .ok (.iadd, 1) := by decide +kernel
theorem dX1_takeBack_46 : decode cX1_takeBack 46 = .ok (.putfield 38, 3) := by decide +kernel
theorem dX1_takeBack_49 : decode cX1_takeBack 49 = .ok (.aload_n 0, 1) := by decide +kernel
theorem dX1_takeBack_50 : decode cX1_takeBack 50 = .ok (.getfield 15, 3) := by decide +kernel
theorem dX1_takeBack_53 : decode cX1_takeBack 53 = .ok (.iload_n 1, 1) := by decide +kernel
theorem dX1_takeBack_54 : decode cX1_takeBack 54 = .ok (.bipush (-9), 2) := by decide +kernel
theorem dX1_takeBack_56 : decode cX1_takeBack 56 = .ok (.iastore, 1) := by decide +kernel
theorem dX1_takeBack_57 : decode cX1_takeBack 57 = .ok (.aload_n 0, 1) := by decide +kernel
theorem dX1_takeBack_58 : decode cX1_takeBack 58 = .ok (.getfield 9, 3) := by decide +kernel
theorem dX1_takeBack_61 : decode cX1_takeBack 61 = .ok (.iload_n 1, 1) := by decide +kernel
theorem dX1_takeBack_62 : decode cX1_takeBack 62 = .ok (.dup2, 1) := by decide +kernel
theorem dX1_takeBack_63 : decode cX1_takeBack 63 = .ok (.iaload, 1) := by decide +kernel
theorem dX1_takeBack_64 : decode cX1_takeBack 64 = .ok (.iconst 1, 1) := by decide +kernel
theorem dX1_takeBack_65 : decode cX1_takeBack 65 = .ok (.iadd, 1) := by decide +kernel
theorem dX1_takeBack_66 : decode cX1_takeBack 66 = .ok (.iastore, 1) := by decide +kernel
theorem dX1_takeBack_67 : decode cX1_takeBack 67 = .ok (.aload_n 0, 1) := by decide +kernel
theorem dX1_takeBack_68 : decode cX1_takeBack 68 = .ok (.aload_n 0, 1) := by decide +kernel
theorem dX1_takeBack_69 : decode cX1_takeBack 69 = .ok (.getfield 21, 3) := by decide +kernel
theorem dX1_takeBack_72 : decode cX1_takeBack 72 = .ok (.aload_n 0, 1) := by decide +kernel
theorem dX1_takeBack_73 : decode cX1_takeBack 73 = .ok (.getfield 44, 3) := by decide +kernel
theorem dX1_takeBack_76 : decode cX1_takeBack 76 = .ok (.iaload, 1) := by decide +kernel
theorem dX1_takeBack_77 : decode cX1_takeBack 77 = .ok (.putfield 41, 3) := by decide +kernel
theorem dX1_takeBack_80 : decode cX1_takeBack 80 = .ok (.iconst 1, 1) := by decide +kernel
theorem dX1_takeBack_81 : decode cX1_takeBack 81 = .ok (.ireturn, 1) := by decide +kernel
theorem dX1_latestCounted_0 : decode cX1_latestCounted 0 = .ok (.aload_n 0, 1) := by decide +kernel
theorem dX1_latestCounted_1 : decode cX1_latestCounted 1 = .ok (.getfield 44, 3) := by decide +kernel
theorem dX1_latestCounted_4 : decode cX1_latestCounted 4 = .ok (.iconst 1, 1) := by decide +kernel
theorem dX1_latestCounted_5 : decode cX1_latestCounted 5 = .ok (.if_icmp .ge 8, 3) := by decide +kernel
theorem dX1_latestCounted_8 : decode cX1_latestCounted 8 = .ok (.bipush (-9), 2) := by decide +kernel
theorem dX1_latestCounted_10 : decode cX1_latestCounted 10 = .ok (.goto 14, 3) := by decide +kernel
theorem dX1_latestCounted_13 : decode cX1_latestCounted 13 = .ok (.aload_n 0, 1) := by decide +kernel
theorem dX1_latestCounted_14 : decode cX1_latestCounted 14 = .ok (.getfield 18, 3) := by decide +kernel
theorem dX1_latestCounted_17 : decode cX1_latestCounted 17 = .ok (.aload_n 0, 1) := by decide +kernel
theorem dX1_latestCounted_18 : decode cX1_latestCounted 18 = .ok (.getfield 44, 3) := by decide +kernel
theorem dX1_latestCounted_21 : decode cX1_latestCounted 21 = .ok (.iconst 1, 1) := by decide +kernel
theorem dX1_latestCounted_22 : decode cX1_latestCounted 22 = .ok (.isub, 1) := by decide +kernel
theorem dX1_latestCounted_23 : decode cX1_latestCounted 23 = .ok (.iaload, 1) := by decide +kernel
theorem dX1_latestCounted_24 : decode cX1_latestCounted 24 = .ok (.ireturn, 1) := by decide +kernel
theorem dX1_latestOut_0 : decode cX1_latestOut 0 = .ok (.iconst 0, 1) := by decide +kernel
theorem dX1_latestOut_1 : decode cX1_latestOut 1 = .ok (.istore_n 1, 1) := by decide +kernel
theorem dX1_latestOut_2 : decode cX1_latestOut 2 = .ok (.iload_n 1, 1) := by decide +kernel
theorem dX1_latestOut_3 : decode cX1_latestOut 3 = .ok (.aload_n 0, 1) := by decide +kernel
theorem dX1_latestOut_4 : decode cX1_latestOut 4 = .ok (.getfield 34, 3) := by decide +kernel
theorem dX1_latestOut_7 : decode cX1_latestOut 7 = .ok (.if_icmp .ge 29, 3) := by decide +kernel
theorem dX1_latestOut_10 : decode cX1_latestOut 10 = .ok (.aload_n 0, 1) := by decide +kernel
theorem dX1_latestOut_11 : decode cX1_latestOut 11 = .ok (.getfield 15, 3) := by decide +kernel
theorem dX1_latestOut_14 : decode cX1_latestOut 14 = .ok (.iload_n 1, 1) := by decide +kernel
theorem dX1_latestOut_15 : decode cX1_latestOut 15 = .ok (.iaload, 1) := by decide +kernel
theorem dX1_latestOut_16 : decode cX1_latestOut 16 = .ok (.aload_n 0, 1) := by decide +kernel
theorem dX1_latestOut_17 : decode cX1_latestOut 17 = .ok (.getfield 34, 3) := by decide +kernel
theorem dX1_latestOut_20 : decode cX1_latestOut 20 = .ok (.aload_n 0, 1) := by decide +kernel
theorem dX1_latestOut_21 : decode cX1_latestOut 21 = .ok (.getfield 38, 3) := by decide +kernel
theorem dX1_latestOut_24 : decode cX1_latestOut 24 = .ok (.isub, 1) := by decide +kernel
theorem dX1_latestOut_25 : decode cX1_latestOut 25 = .ok (.if_icmp .ne 5, 3) := by decide +kernel
theorem dX1_latestOut_28 : decode cX1_latestOut 28 = .ok (.iload_n 1, 1) := by decide +kernel
theorem dX1_latestOut_29 : decode cX1_latestOut 29 = .ok (.ireturn, 1) := by decide +kernel
theorem dX1_latestOut_30 : decode cX1_latestOut 30 = .ok (.iinc 1 1, 3) := by decide +kernel
theorem dX1_latestOut_33 : decode cX1_latestOut 33 = .ok (.goto (-31), 3) := by decide +kernel
theorem dX1_latestOut_36 : decode cX1_latestOut 36 = .ok (.bipush (-9), 2) := by decide +kernel
theorem dX1_latestOut_38 : decode cX1_latestOut 38 = .ok (.ireturn, 1) := by decide +kernel
set_option maxRecDepth 20000 in
theorem ggX2_init_X0_init : GoodIn wsX2_init wsX0_init := goodIn_r _ [15, 16, 2, 3, 17, 18, 19, 20, 21, 42, 43, 44, 45] (by decide +kernel) (by decide +kernel)
set_option maxRecDepth 20000 in
theorem gX2_init_X0_init : GoodIn wsX2_init (wsX0_init) := ggX2_init_X0_init
set_option maxRecDepth 20000 in
theorem ggX2_init_X1_init : GoodIn wsX2_init wsX1_init := goodIn_r _ [24, 25, 2, 3, 17, 26, 27, 28, 29, 30, 31, 32, 10, 33, 34, 35, 36, 37, 38, 39, 40, 41, 49, 50, 51, 52, 53, 54, 55, 56] (by decide +kernel) (by decide +kernel)
set_option maxRecDepth 20000 in
theorem gX2_init_X1_init : GoodIn wsX2_init (wsX1_init) := ggX2_init_X1_init
