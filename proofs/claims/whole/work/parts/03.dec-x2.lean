theorem dX2_init_0 : decode cX2_init 0 = .ok (.aload_n 0, 1) := by decide +kernel
theorem dX2_init_1 : decode cX2_init 1 = .ok (.invokespecial 3, 3) := by decide +kernel
theorem dX2_init_4 : decode cX2_init 4 = .ok (.aload_n 0, 1) := by decide +kernel
theorem dX2_init_5 : decode cX2_init 5 = .ok (.new 9, 3) := by decide +kernel
theorem dX2_init_8 : decode cX2_init 8 = .ok (.dup, 1) := by decide +kernel
theorem dX2_init_9 : decode cX2_init 9 = .ok (.invokespecial 11, 3) := by decide +kernel
theorem dX2_init_12 : decode cX2_init 12 = .ok (.putfield 12, 3) := by decide +kernel
theorem dX2_init_15 : decode cX2_init 15 = .ok (.aload_n 0, 1) := by decide +kernel
theorem dX2_init_16 : decode cX2_init 16 = .ok (.new 16, 3) := by decide +kernel
theorem dX2_init_19 : decode cX2_init 19 = .ok (.dup, 1) := by decide +kernel
theorem dX2_init_20 : decode cX2_init 20 = .ok (.invokespecial 18, 3) := by decide +kernel
theorem dX2_init_23 : decode cX2_init 23 = .ok (.putfield 19, 3) := by decide +kernel
theorem dX2_init_26 : decode cX2_init 26 = .ok (.aload_n 0, 1) := by decide +kernel
theorem dX2_init_27 : decode cX2_init 27 = .ok (.lconst 0, 1) := by decide +kernel
theorem dX2_init_28 : decode cX2_init 28 = .ok (.putfield 23, 3) := by decide +kernel
theorem dX2_init_31 : decode cX2_init 31 = .ok (.return_, 1) := by decide +kernel
set_option maxRecDepth 20000 in
theorem ggX2_goes_X2_isGreatRing : GoodIn wsX2_goes wsX2_isGreatRing := goodIn_r _ [5, 6, 7, 8, 9, 4, 10] (by decide +kernel) (by decide +kernel)
set_option maxRecDepth 20000 in
theorem gX2_goes_X2_isGreatRing : GoodIn wsX2_goes (va_wsS RX2 27 yX2_isGreatRing wsX2_isGreatRing) := goodIn_app (goodIn_of _ (by decide +kernel)) ggX2_goes_X2_isGreatRing
set_option maxRecDepth 20000 in
theorem ggX2_goes_X2_isWithin : GoodIn wsX2_goes wsX2_isWithin := goodIn_r _ [10] (by decide +kernel) (by decide +kernel)
set_option maxRecDepth 20000 in
theorem gX2_goes_X2_isWithin : GoodIn wsX2_goes (va_wsS RX2 31 yX2_isWithin wsX2_isWithin) := goodIn_app (goodIn_of _ (by decide +kernel)) ggX2_goes_X2_isWithin
set_option maxRecDepth 20000 in
theorem ggX2_goes_X2_placeOfGoing : GoodIn wsX2_goes wsX2_placeOfGoing := goodIn_r _ [13, 14] (by decide +kernel) (by decide +kernel)
set_option maxRecDepth 20000 in
theorem gX2_goes_X2_placeOfGoing : GoodIn wsX2_goes (va_wsS RX2 37 yX2_placeOfGoing wsX2_placeOfGoing) := goodIn_app (goodIn_of _ (by decide +kernel)) ggX2_goes_X2_placeOfGoing
theorem dX2_goes_0 : decode cX2_goes 0 = .ok (.lload_n 1, 1) := by decide +kernel
theorem dX2_goes_1 : decode cX2_goes 1 = .ok (.iload_n 3, 1) := by decide +kernel
theorem dX2_goes_2 : decode cX2_goes 2 = .ok (.invokestatic 27, 3) := by decide +kernel
theorem dX2_goes_5 : decode cX2_goes 5 = .ok (.ifCond .eq 13, 3) := by decide +kernel
theorem dX2_goes_8 : decode cX2_goes 8 = .ok (.lload 4, 2) := by decide +kernel
theorem dX2_goes_10 : decode cX2_goes 10 = .ok (.lconst 1, 1) := by decide +kernel
theorem dX2_goes_11 : decode cX2_goes 11 = .ok (.lload_n 1, 1) := by decide +kernel
theorem dX2_goes_12 : decode cX2_goes 12 = .ok (.invokestatic 31, 3) := by decide +kernel
theorem dX2_goes_15 : decode cX2_goes 15 = .ok (.ifCond .ne 7, 3) := by decide +kernel
theorem dX2_goes_18 : decode cX2_goes 18 = .ok (.ldc2_w 35, 3) := by decide +kernel
theorem dX2_goes_21 : decode cX2_goes 21 = .ok (.lreturn, 1) := by decide +kernel
theorem dX2_goes_22 : decode cX2_goes 22 = .ok (.lload_n 1, 1) := by decide +kernel
theorem dX2_goes_23 : decode cX2_goes 23 = .ok (.iload_n 3, 1) := by decide +kernel
theorem dX2_goes_24 : decode cX2_goes 24 = .ok (.lload 4, 2) := by decide +kernel
theorem dX2_goes_26 : decode cX2_goes 26 = .ok (.invokestatic 37, 3) := by decide +kernel
theorem dX2_goes_29 : decode cX2_goes 29 = .ok (.lreturn, 1) := by decide +kernel
set_option maxRecDepth 20000 in
theorem ggX2_turn_X2_isGreatRing : GoodIn wsX2_turn wsX2_isGreatRing := goodIn_r _ [5, 6, 7, 8, 9, 4, 10] (by decide +kernel) (by decide +kernel)
set_option maxRecDepth 20000 in
theorem gX2_turn_X2_isGreatRing : GoodIn wsX2_turn (va_wsS RX2 27 yX2_isGreatRing wsX2_isGreatRing) := goodIn_app (goodIn_of _ (by decide +kernel)) ggX2_turn_X2_isGreatRing
set_option maxRecDepth 20000 in
theorem ggX2_turn_X2_isWithin : GoodIn wsX2_turn wsX2_isWithin := goodIn_r _ [10] (by decide +kernel) (by decide +kernel)
set_option maxRecDepth 20000 in
theorem gX2_turn_X2_isWithin : GoodIn wsX2_turn (va_wsS RX2 31 yX2_isWithin wsX2_isWithin) := goodIn_app (goodIn_of _ (by decide +kernel)) ggX2_turn_X2_isWithin
set_option maxRecDepth 20000 in
theorem ggX2_turn_X2_goingOfPlace : GoodIn wsX2_turn wsX2_goingOfPlace := goodIn_r _ [13, 14] (by decide +kernel) (by decide +kernel)
set_option maxRecDepth 20000 in
theorem gX2_turn_X2_goingOfPlace : GoodIn wsX2_turn (va_wsS RX2 41 yX2_goingOfPlace wsX2_goingOfPlace) := goodIn_app (goodIn_of _ (by decide +kernel)) ggX2_turn_X2_goingOfPlace
theorem dX2_turn_0 : decode cX2_turn 0 = .ok (.lload_n 1, 1) := by decide +kernel
theorem dX2_turn_1 : decode cX2_turn 1 = .ok (.iload_n 3, 1) := by decide +kernel
theorem dX2_turn_2 : decode cX2_turn 2 = .ok (.invokestatic 27, 3) := by decide +kernel
theorem dX2_turn_5 : decode cX2_turn 5 = .ok (.ifCond .eq 15, 3) := by decide +kernel
theorem dX2_turn_8 : decode cX2_turn 8 = .ok (.lload 4, 2) := by decide +kernel
theorem dX2_turn_10 : decode cX2_turn 10 = .ok (.lconst 0, 1) := by decide +kernel
theorem dX2_turn_11 : decode cX2_turn 11 = .ok (.lload_n 1, 1) := by decide +kernel
theorem dX2_turn_12 : decode cX2_turn 12 = .ok (.lconst 1, 1) := by decide +kernel
theorem dX2_turn_13 : decode cX2_turn 13 = .ok (.lsub, 1) := by decide +kernel
theorem dX2_turn_14 : decode cX2_turn 14 = .ok (.invokestatic 31, 3) := by decide +kernel
theorem dX2_turn_17 : decode cX2_turn 17 = .ok (.ifCond .ne 7, 3) := by decide +kernel
theorem dX2_turn_20 : decode cX2_turn 20 = .ok (.ldc2_w 35, 3) := by decide +kernel
theorem dX2_turn_23 : decode cX2_turn 23 = .ok (.lreturn, 1) := by decide +kernel
theorem dX2_turn_24 : decode cX2_turn 24 = .ok (.lload_n 1, 1) := by decide +kernel
theorem dX2_turn_25 : decode cX2_turn 25 = .ok (.iload_n 3, 1) := by decide +kernel
theorem dX2_turn_26 : decode cX2_turn 26 = .ok (.lload 4, 2) := by decide +kernel
theorem dX2_turn_28 : decode cX2_turn 28 = .ok (.invokestatic 41, 3) := by decide +kernel
theorem dX2_turn_31 : decode cX2_turn 31 = .ok (.lreturn, 1) := by decide +kernel
set_option maxRecDepth 20000 in
theorem ggX2_last_X2_isGreatRing : GoodIn wsX2_last wsX2_isGreatRing := goodIn_r _ [5, 6, 7, 8, 9, 4, 10] (by decide +kernel) (by decide +kernel)
set_option maxRecDepth 20000 in
theorem gX2_last_X2_isGreatRing : GoodIn wsX2_last (va_wsS RX2 27 yX2_isGreatRing wsX2_isGreatRing) := goodIn_app (goodIn_of _ (by decide +kernel)) ggX2_last_X2_isGreatRing
set_option maxRecDepth 20000 in
theorem ggX2_last_X2_placeOfGoing : GoodIn wsX2_last wsX2_placeOfGoing := goodIn_r _ [13, 14] (by decide +kernel) (by decide +kernel)
set_option maxRecDepth 20000 in
theorem gX2_last_X2_placeOfGoing : GoodIn wsX2_last (va_wsS RX2 37 yX2_placeOfGoing wsX2_placeOfGoing) := goodIn_app (goodIn_of _ (by decide +kernel)) ggX2_last_X2_placeOfGoing
theorem dX2_last_0 : decode cX2_last 0 = .ok (.lload_n 1, 1) := by decide +kernel
theorem dX2_last_1 : decode cX2_last 1 = .ok (.iload_n 3, 1) := by decide +kernel
theorem dX2_last_2 : decode cX2_last 2 = .ok (.invokestatic 27, 3) := by decide +kernel
theorem dX2_last_5 : decode cX2_last 5 = .ok (.ifCond .ne 7, 3) := by decide +kernel
theorem dX2_last_8 : decode cX2_last 8 = .ok (.ldc2_w 35, 3) := by decide +kernel
theorem dX2_last_11 : decode cX2_last 11 = .ok (.lreturn, 1) := by decide +kernel
theorem dX2_last_12 : decode cX2_last 12 = .ok (.lload_n 1, 1) := by decide +kernel
theorem dX2_last_13 : decode cX2_last 13 = .ok (.iload_n 3, 1) := by decide +kernel
theorem dX2_last_14 : decode cX2_last 14 = .ok (.lload_n 1, 1) := by decide +kernel
theorem dX2_last_15 : decode cX2_last 15 = .ok (.invokestatic 37, 3) := by decide +kernel
theorem dX2_last_18 : decode cX2_last 18 = .ok (.lreturn, 1) := by decide +kernel
set_option maxRecDepth 20000 in
theorem ggX2_first_X2_isHeap : GoodIn wsX2_first wsX2_isHeap := goodIn_r _ [5, 6, 7, 8, 9, 4, 10] (by decide +kernel) (by decide +kernel)
set_option maxRecDepth 20000 in
theorem gX2_first_X2_isHeap : GoodIn wsX2_first (va_wsS RX2 44 yX2_isHeap wsX2_isHeap) := goodIn_app (goodIn_of _ (by decide +kernel)) ggX2_first_X2_isHeap
set_option maxRecDepth 20000 in
theorem ggX2_first_X2_isWithin : GoodIn wsX2_first wsX2_isWithin := goodIn_r _ [10] (by decide +kernel) (by decide +kernel)
set_option maxRecDepth 20000 in
theorem gX2_first_X2_isWithin : GoodIn wsX2_first (va_wsS RX2 31 yX2_isWithin wsX2_isWithin) := goodIn_app (goodIn_of _ (by decide +kernel)) ggX2_first_X2_isWithin
set_option maxRecDepth 20000 in
theorem ggX2_first_X2_goesFirst : GoodIn wsX2_first wsX2_goesFirst := goodIn_r _ [13, 14, 15, 4, 16] (by decide +kernel) (by decide +kernel)
set_option maxRecDepth 20000 in
theorem gX2_first_X2_goesFirst : GoodIn wsX2_first (va_wsS RX2 50 yX2_goesFirst wsX2_goesFirst) := goodIn_app (goodIn_of _ (by decide +kernel)) ggX2_first_X2_goesFirst
theorem dX2_first_0 : decode cX2_first 0 = .ok (.iload_n 1, 1) := by decide +kernel
theorem dX2_first_1 : decode cX2_first 1 = .ok (.iload_n 2, 1) := by decide +kernel
theorem dX2_first_2 : decode cX2_first 2 = .ok (.invokestatic 44, 3) := by decide +kernel
theorem dX2_first_5 : decode cX2_first 5 = .ok (.ifCond .eq 15, 3) := by decide +kernel
theorem dX2_first_8 : decode cX2_first 8 = .ok (.iload_n 3, 1) := by decide +kernel
theorem dX2_first_9 : decode cX2_first 9 = .ok (.i2l, 1) := by decide +kernel
theorem dX2_first_10 : decode cX2_first 10 = .ok (.lconst 1, 1) := by decide +kernel
theorem dX2_first_11 : decode cX2_first 11 = .ok (.ldc2_w 48, 3) := by decide +kernel
theorem dX2_first_14 : decode cX2_first 14 = .ok (.invokestatic 31, 3) := by decide +kernel
theorem dX2_first_17 : decode cX2_first 17 = .ok (.ifCond .ne 5, 3) := by decide +kernel
theorem dX2_first_20 : decode cX2_first 20 = .ok (.iconst (-1), 1) := by decide +kernel
theorem dX2_first_21 : decode cX2_first 21 = .ok (.ireturn, 1) := by decide +kernel
theorem dX2_first_22 : decode cX2_first 22 = .ok (.iload_n 1, 1) := by decide +kernel
theorem dX2_first_23 : decode cX2_first 23 = .ok (.iload_n 2, 1) := by decide +kernel
theorem dX2_first_24 : decode cX2_first 24 = .ok (.iload_n 3, 1) := by decide +kernel
theorem dX2_first_25 : decode cX2_first 25 = .ok (.invokestatic 50, 3) := by decide +kernel
theorem dX2_first_28 : decode cX2_first 28 = .ok (.ifCond .eq 7, 3) := by decide +kernel
theorem dX2_first_31 : decode cX2_first 31 = .ok (.iconst 1, 1) := by decide +kernel
theorem dX2_first_32 : decode cX2_first 32 = .ok (.goto 4, 3) := by decide +kernel
theorem dX2_first_35 : decode cX2_first 35 = .ok (.iconst 0, 1) := by decide +kernel
theorem dX2_first_36 : decode cX2_first 36 = .ok (.ireturn, 1) := by decide +kernel
set_option maxRecDepth 20000 in
theorem ggX2_least_X2_isHeap : GoodIn wsX2_least wsX2_isHeap := goodIn_r _ [4, 5, 6, 7, 8, 3, 9] (by decide +kernel) (by decide +kernel)
set_option maxRecDepth 20000 in
theorem gX2_least_X2_isHeap : GoodIn wsX2_least (va_wsS RX2 44 yX2_isHeap wsX2_isHeap) := goodIn_app (goodIn_of _ (by decide +kernel)) ggX2_least_X2_isHeap
set_option maxRecDepth 20000 in
theorem ggX2_least_X2_goesFirst : GoodIn wsX2_least wsX2_goesFirst := goodIn_r _ [12, 13, 14, 3, 15] (by decide +kernel) (by decide +kernel)
set_option maxRecDepth 20000 in
theorem gX2_least_X2_goesFirst : GoodIn wsX2_least (va_wsS RX2 50 yX2_goesFirst wsX2_goesFirst) := goodIn_app (goodIn_of _ (by decide +kernel)) ggX2_least_X2_goesFirst
theorem dX2_least_0 : decode cX2_least 0 = .ok (.iload_n 1, 1) := by decide +kernel
theorem dX2_least_1 : decode cX2_least 1 = .ok (.iload_n 2, 1) := by decide +kernel
theorem dX2_least_2 : decode cX2_least 2 = .ok (.invokestatic 44, 3) := by decide +kernel
theorem dX2_least_5 : decode cX2_least 5 = .ok (.ifCond .ne 5, 3) := by decide +kernel
theorem dX2_least_8 : decode cX2_least 8 = .ok (.iconst (-1), 1) := by decide +kernel
theorem dX2_least_9 : decode cX2_least 9 = .ok (.ireturn, 1) := by decide +kernel
theorem dX2_least_10 : decode cX2_least 10 = .ok (.iconst 1, 1) := by decide +kernel
theorem dX2_least_11 : decode cX2_least 11 = .ok (.istore_n 3, 1) := by decide +kernel
theorem dX2_least_12 : decode cX2_least 12 = .ok (.iload_n 3, 1) := by decide +kernel
theorem dX2_least_13 : decode cX2_least 13 = .ok (.sipush 10000, 3) := by decide +kernel
theorem dX2_least_16 : decode cX2_least 16 = .ok (.if_icmp .gt 20, 3) := by decide +kernel
theorem dX2_least_19 : decode cX2_least 19 = .ok (.iload_n 1, 1) := by decide +kernel
theorem dX2_least_20 : decode cX2_least 20 = .ok (.iload_n 2, 1) := by decide +kernel
theorem dX2_least_21 : decode cX2_least 21 = .ok (.iload_n 3, 1) := by decide +kernel
theorem dX2_least_22 : decode cX2_least 22 = .ok (.invokestatic 50, 3) := by decide +kernel
theorem dX2_least_25 : decode cX2_least 25 = .ok (.ifCond .eq 5, 3) := by decide +kernel
theorem dX2_least_28 : decode cX2_least 28 = .ok (.iload_n 3, 1) := by decide +kernel
theorem dX2_least_29 : decode cX2_least 29 = .ok (.ireturn, 1) := by decide +kernel
theorem dX2_least_30 : decode cX2_least 30 = .ok (.iinc 3 1, 3) := by decide +kernel
theorem dX2_least_33 : decode cX2_least 33 = .ok (.goto (-21), 3) := by decide +kernel
theorem dX2_least_36 : decode cX2_least 36 = .ok (.bipush (-9), 2) := by decide +kernel
theorem dX2_least_38 : decode cX2_least 38 = .ok (.ireturn, 1) := by decide +kernel
set_option maxRecDepth 20000 in
theorem ggX2_ring_X2_isWithin : GoodIn wsX2_ring wsX2_isWithin := goodIn_r _ [7] (by decide +kernel) (by decide +kernel)
set_option maxRecDepth 20000 in
theorem gX2_ring_X2_isWithin : GoodIn wsX2_ring (va_wsS RX2 31 yX2_isWithin wsX2_isWithin) := goodIn_app (goodIn_of _ (by decide +kernel)) ggX2_ring_X2_isWithin
set_option maxRecDepth 20000 in
theorem ggX2_ring_X1_begin : GoodIn wsX2_ring wsX1_begin := goodIn_r _ [12, 13, 14, 15, 16, 17, 18, 19, 20, 21, 22, 26, 27, 28, 29, 30, 31, 32, 33] (by decide +kernel) (by decide +kernel)
set_option maxRecDepth 20000 in
theorem gX2_ring_X1_begin : GoodIn wsX2_ring (wsV RX2 60 RX1 yX1_begin wsX1_begin) := goodIn_app (goodIn_of _ (by decide +kernel)) ggX2_ring_X1_begin
theorem dX2_ring_0 : decode cX2_ring 0 = .ok (.iload_n 1, 1) := by decide +kernel
theorem dX2_ring_1 : decode cX2_ring 1 = .ok (.i2l, 1) := by decide +kernel
theorem dX2_ring_2 : decode cX2_ring 2 = .ok (.lconst 1, 1) := by decide +kernel
theorem dX2_ring_3 : decode cX2_ring 3 = .ok (.ldc2_w 54, 3) := by decide +kernel
theorem dX2_ring_6 : decode cX2_ring 6 = .ok (.invokestatic 31, 3) := by decide +kernel
theorem dX2_ring_9 : decode cX2_ring 9 = .ok (.ifCond .ne 5, 3) := by decide +kernel
theorem dX2_ring_12 : decode cX2_ring 12 = .ok (.iconst (-1), 1) := by decide +kernel
theorem dX2_ring_13 : decode cX2_ring 13 = .ok (.ireturn, 1) := by decide +kernel
theorem dX2_ring_14 : decode cX2_ring 14 = .ok (.aload_n 0, 1) := by decide +kernel
theorem dX2_ring_15 : decode cX2_ring 15 = .ok (.getfield 19, 3) := by decide +kernel
theorem dX2_ring_18 : decode cX2_ring 18 = .ok (.getfield 56, 3) := by decide +kernel
theorem dX2_ring_21 : decode cX2_ring 21 = .ok (.istore_n 2, 1) := by decide +kernel
theorem dX2_ring_22 : decode cX2_ring 22 = .ok (.aload_n 0, 1) := by decide +kernel
theorem dX2_ring_23 : decode cX2_ring 23 = .ok (.getfield 19, 3) := by decide +kernel
theorem dX2_ring_26 : decode cX2_ring 26 = .ok (.iload_n 1, 1) := by decide +kernel
theorem dX2_ring_27 : decode cX2_ring 27 = .ok (.invokevirtual 60, 3) := by decide +kernel
theorem dX2_ring_30 : decode cX2_ring 30 = .ok (.iload_n 2, 1) := by decide +kernel
theorem dX2_ring_31 : decode cX2_ring 31 = .ok (.ireturn, 1) := by decide +kernel
set_option maxRecDepth 20000 in
theorem ggX2_lives_X1_has : GoodIn wsX2_lives wsX1_has := goodIn_r _ [7, 8, 26, 27, 28, 29, 30, 31, 32, 33] (by decide +kernel) (by decide +kernel)
set_option maxRecDepth 20000 in
theorem gX2_lives_X1_has : GoodIn wsX2_lives (wsV RX2 64 RX1 yX1_has wsX1_has) := goodIn_app (goodIn_of _ (by decide +kernel)) ggX2_lives_X1_has
set_option maxRecDepth 20000 in
theorem ggX2_lives_X2_isWithin : GoodIn wsX2_lives wsX2_isWithin := goodIn_r _ [12] (by decide +kernel) (by decide +kernel)
set_option maxRecDepth 20000 in
theorem gX2_lives_X2_isWithin : GoodIn wsX2_lives (va_wsS RX2 31 yX2_isWithin wsX2_isWithin) := goodIn_app (goodIn_of _ (by decide +kernel)) ggX2_lives_X2_isWithin
set_option maxRecDepth 20000 in
theorem ggX2_lives_X1_hasBegun : GoodIn wsX2_lives wsX1_hasBegun := goodIn_r _ [16, 17, 26, 27, 28, 29, 30, 31, 32, 33] (by decide +kernel) (by decide +kernel)
set_option maxRecDepth 20000 in
theorem gX2_lives_X1_hasBegun : GoodIn wsX2_lives (wsV RX2 70 RX1 yX1_hasBegun wsX1_hasBegun) := goodIn_app (goodIn_of _ (by decide +kernel)) ggX2_lives_X1_hasBegun
set_option maxRecDepth 20000 in
theorem ggX2_lives_X1_giveLives : GoodIn wsX2_lives wsX1_giveLives := goodIn_r _ [21, 22, 26, 27, 28, 29, 30, 31, 32, 33] (by decide +kernel) (by decide +kernel)
set_option maxRecDepth 20000 in
theorem gX2_lives_X1_giveLives : GoodIn wsX2_lives (wsV RX2 74 RX1 yX1_giveLives wsX1_giveLives) := goodIn_app (goodIn_of _ (by decide +kernel)) ggX2_lives_X1_giveLives
theorem dX2_lives_0 : decode cX2_lives 0 = .ok (.aload_n 0, 1) := by decide +kernel
theorem dX2_lives_1 : decode cX2_lives 1 = .ok (.getfield 19, 3) := by decide +kernel
theorem dX2_lives_4 : decode cX2_lives 4 = .ok (.iload_n 1, 1) := by decide +kernel
theorem dX2_lives_5 : decode cX2_lives 5 = .ok (.invokevirtual 64, 3) := by decide +kernel
theorem dX2_lives_8 : decode cX2_lives 8 = .ok (.ifCond .eq 15, 3) := by decide +kernel
theorem dX2_lives_11 : decode cX2_lives 11 = .ok (.iload_n 2, 1) := by decide +kernel
theorem dX2_lives_12 : decode cX2_lives 12 = .ok (.i2l, 1) := by decide +kernel
theorem dX2_lives_13 : decode cX2_lives 13 = .ok (.lconst 1, 1) := by decide +kernel
theorem dX2_lives_14 : decode cX2_lives 14 = .ok (.ldc2_w 68, 3) := by decide +kernel
theorem dX2_lives_17 : decode cX2_lives 17 = .ok (.invokestatic 31, 3) := by decide +kernel
theorem dX2_lives_20 : decode cX2_lives 20 = .ok (.ifCond .ne 5, 3) := by decide +kernel
theorem dX2_lives_23 : decode cX2_lives 23 = .ok (.iconst (-1), 1) := by decide +kernel
theorem dX2_lives_24 : decode cX2_lives 24 = .ok (.ireturn, 1) := by decide +kernel
theorem dX2_lives_25 : decode cX2_lives 25 = .ok (.aload_n 0, 1) := by decide +kernel
theorem dX2_lives_26 : decode cX2_lives 26 = .ok (.getfield 19, 3) := by decide +kernel
theorem dX2_lives_29 : decode cX2_lives 29 = .ok (.invokevirtual 70, 3) := by decide +kernel
theorem dX2_lives_32 : decode cX2_lives 32 = .ok (.ifCond .eq 6, 3) := by decide +kernel
theorem dX2_lives_35 : decode cX2_lives 35 = .ok (.bipush (-2), 2) := by decide +kernel
theorem dX2_lives_37 : decode cX2_lives 37 = .ok (.ireturn, 1) := by decide +kernel
theorem dX2_lives_38 : decode cX2_lives 38 = .ok (.aload_n 0, 1) := by decide +kernel
theorem dX2_lives_39 : decode cX2_lives 39 = .ok (.getfield 19, 3) := by decide +kernel
theorem dX2_lives_42 : decode cX2_lives 42 = .ok (.iload_n 1, 1) := by decide +kernel
theorem dX2_lives_43 : decode cX2_lives 43 = .ok (.iload_n 2, 1) := by decide +kernel
theorem dX2_lives_44 : decode cX2_lives 44 = .ok (.invokevirtual 74, 3) := by decide +kernel
theorem dX2_lives_47 : decode cX2_lives 47 = .ok (.ireturn, 1) := by decide +kernel
set_option maxRecDepth 20000 in
theorem ggX2_set_X2_isWithin : GoodIn wsX2_set wsX2_isWithin := goodIn_r _ [8] (by decide +kernel) (by decide +kernel)
set_option maxRecDepth 20000 in
theorem gX2_set_X2_isWithin : GoodIn wsX2_set (va_wsS RX2 31 yX2_isWithin wsX2_isWithin) := goodIn_app (goodIn_of _ (by decide +kernel)) ggX2_set_X2_isWithin
set_option maxRecDepth 20000 in
theorem ggX2_set_X1_hasBegun : GoodIn wsX2_set wsX1_hasBegun := goodIn_r _ [13, 14, 29, 30, 31, 32, 33, 34, 35, 36] (by decide +kernel) (by decide +kernel)
set_option maxRecDepth 20000 in
theorem gX2_set_X1_hasBegun : GoodIn wsX2_set (wsV RX2 70 RX1 yX1_hasBegun wsX1_hasBegun) := goodIn_app (goodIn_of _ (by decide +kernel)) ggX2_set_X1_hasBegun
set_option maxRecDepth 20000 in
theorem ggX2_set_X0_changeStep : GoodIn wsX2_set wsX0_changeStep := goodIn_r _ [19, 20, 37, 38, 39, 40] (by decide +kernel) (by decide +kernel)
set_option maxRecDepth 20000 in
theorem gX2_set_X0_changeStep : GoodIn wsX2_set (wsV RX2 82 RX0 yX0_changeStep wsX0_changeStep) := goodIn_app (goodIn_of _ (by decide +kernel)) ggX2_set_X0_changeStep
set_option maxRecDepth 20000 in
theorem ggX2_set_X0_changeKind : GoodIn wsX2_set wsX0_changeKind := goodIn_r _ [24, 25, 37, 38, 39, 40] (by decide +kernel) (by decide +kernel)
set_option maxRecDepth 20000 in
theorem gX2_set_X0_changeKind : GoodIn wsX2_set (wsV RX2 86 RX0 yX0_changeKind wsX0_changeKind) := goodIn_app (goodIn_of _ (by decide +kernel)) ggX2_set_X0_changeKind
theorem dX2_set_0 : decode cX2_set 0 = .ok (.iload_n 1, 1) := by decide +kernel
theorem dX2_set_1 : decode cX2_set 1 = .ok (.ifCond .ne 19, 3) := by decide +kernel
theorem dX2_set_4 : decode cX2_set 4 = .ok (.iload_n 2, 1) := by decide +kernel
theorem dX2_set_5 : decode cX2_set 5 = .ok (.i2l, 1) := by decide +kernel
theorem dX2_set_6 : decode cX2_set 6 = .ok (.lconst 1, 1) := by decide +kernel
theorem dX2_set_7 : decode cX2_set 7 = .ok (.ldc2_w 78, 3) := by decide +kernel
theorem dX2_set_10 : decode cX2_set 10 = .ok (.invokestatic 31, 3) := by decide +kernel
theorem dX2_set_13 : decode cX2_set 13 = .ok (.ifCond .eq 7, 3) := by decide +kernel
theorem dX2_set_16 : decode cX2_set 16 = .ok (.iconst 1, 1) := by decide +kernel
theorem dX2_set_17 : decode cX2_set 17 = .ok (.goto 4, 3) := by decide +kernel
theorem dX2_set_20 : decode cX2_set 20 = .ok (.iconst 0, 1) := by decide +kernel
theorem dX2_set_21 : decode cX2_set 21 = .ok (.istore_n 3, 1) := by decide +kernel
theorem dX2_set_22 : decode cX2_set 22 = .ok (.iload_n 1, 1) := by decide +kernel
theorem dX2_set_23 : decode cX2_set 23 = .ok (.iconst 1, 1) := by decide +kernel
theorem dX2_set_24 : decode cX2_set 24 = .ok (.if_icmp .ne 19, 3) := by decide +kernel
theorem dX2_set_27 : decode cX2_set 27 = .ok (.iload_n 2, 1) := by decide +kernel
theorem dX2_set_28 : decode cX2_set 28 = .ok (.i2l, 1) := by decide +kernel
theorem dX2_set_29 : decode cX2_set 29 = .ok (.lconst 0, 1) := by decide +kernel
theorem dX2_set_30 : decode cX2_set 30 = .ok (.ldc2_w 80, 3) := by decide +kernel
theorem dX2_set_33 : decode cX2_set 33 = .ok (.invokestatic 31, 3) := by decide +kernel
theorem dX2_set_36 : decode cX2_set 36 = .ok (.ifCond .eq 7, 3) := by decide +kernel
theorem dX2_set_39 : decode cX2_set 39 = .ok (.iconst 1, 1) := by decide +kernel
theorem dX2_set_40 : decode cX2_set 40 = .ok (.goto 4, 3) := by decide +kernel
theorem dX2_set_43 : decode cX2_set 43 = .ok (.iconst 0, 1) := by decide +kernel
theorem dX2_set_44 : decode cX2_set 44 = .ok (.istore 4, 2) := by decide +kernel
theorem dX2_set_46 : decode cX2_set 46 = .ok (.iload_n 3, 1) := by decide +kernel
theorem dX2_set_47 : decode cX2_set 47 = .ok (.ifCond .ne 10, 3) := by decide +kernel
theorem dX2_set_50 : decode cX2_set 50 = .ok (.iload 4, 2) := by decide +kernel
theorem dX2_set_52 : decode cX2_set 52 = .ok (.ifCond .ne 5, 3) := by decide +kernel
theorem dX2_set_55 : decode cX2_set 55 = .ok (.iconst (-1), 1) := by decide +kernel
theorem dX2_set_56 : decode cX2_set 56 = .ok (.ireturn, 1) := by decide +kernel
theorem dX2_set_57 : decode cX2_set 57 = .ok (.aload_n 0, 1) := by decide +kernel
theorem dX2_set_58 : decode cX2_set 58 = .ok (.getfield 19, 3) := by decide +kernel
theorem dX2_set_61 : decode cX2_set 61 = .ok (.invokevirtual 70, 3) := by decide +kernel
theorem dX2_set_64 : decode cX2_set 64 = .ok (.ifCond .eq 6, 3) := by decide +kernel
theorem dX2_set_67 : decode cX2_set 67 = .ok (.bipush (-2), 2) := by decide +kernel
theorem dX2_set_69 : decode cX2_set 69 = .ok (.ireturn, 1) := by decide +kernel
theorem dX2_set_70 : decode cX2_set 70 = .ok (.iload_n 3, 1) := by decide +kernel
theorem dX2_set_71 : decode cX2_set 71 = .ok (.ifCond .eq 14, 3) := by decide +kernel
theorem dX2_set_74 : decode cX2_set 74 = .ok (.aload_n 0, 1) := by decide +kernel
theorem dX2_set_75 : decode cX2_set 75 = .ok (.getfield 12, 3) := by decide +kernel
theorem dX2_set_78 : decode cX2_set 78 = .ok (.iload_n 2, 1) := by decide +kernel
theorem dX2_set_79 : decode cX2_set 79 = .ok (.invokevirtual 82, 3) := by decide +kernel
theorem dX2_set_82 : decode cX2_set 82 = .ok (.goto 11, 3) := by decide +kernel
theorem dX2_set_85 : decode cX2_set 85 = .ok (.aload_n 0, 1) := by decide +kernel
theorem dX2_set_86 : decode cX2_set 86 = .ok (.getfield 12, 3) := by decide +kernel
theorem dX2_set_89 : decode cX2_set 89 = .ok (.iload_n 2, 1) := by decide +kernel
theorem dX2_set_90 : decode cX2_set 90 = .ok (.invokevirtual 86, 3) := by decide +kernel
theorem dX2_set_93 : decode cX2_set 93 = .ok (.ireturn, 1) := by decide +kernel
set_option maxRecDepth 20000 in
theorem ggX2_words_X2_isWithin : GoodIn wsX2_words wsX2_isWithin := goodIn_r _ [8] (by decide +kernel) (by decide +kernel)
set_option maxRecDepth 20000 in
theorem gX2_words_X2_isWithin : GoodIn wsX2_words (va_wsS RX2 31 yX2_isWithin wsX2_isWithin) := goodIn_app (goodIn_of _ (by decide +kernel)) ggX2_words_X2_isWithin
set_option maxRecDepth 20000 in
theorem ggX2_words_X2_isWord : GoodIn wsX2_words wsX2_isWord := goodIn_r _ [11, 12, 5, 6, 7, 8] (by decide +kernel) (by decide +kernel)
set_option maxRecDepth 20000 in
theorem gX2_words_X2_isWord : GoodIn wsX2_words (va_wsS RX2 91 yX2_isWord wsX2_isWord) := goodIn_app (goodIn_of _ (by decide +kernel)) ggX2_words_X2_isWord
set_option maxRecDepth 20000 in
theorem ggX2_words_X1_hasBegun : GoodIn wsX2_words wsX1_hasBegun := goodIn_r _ [17, 18, 37, 38, 39, 40, 41, 42, 43, 44] (by decide +kernel) (by decide +kernel)
set_option maxRecDepth 20000 in
theorem gX2_words_X1_hasBegun : GoodIn wsX2_words (wsV RX2 70 RX1 yX1_hasBegun wsX1_hasBegun) := goodIn_app (goodIn_of _ (by decide +kernel)) ggX2_words_X1_hasBegun
set_option maxRecDepth 20000 in
theorem ggX2_words_X0_takeWords : GoodIn wsX2_words wsX0_takeWords := goodIn_r _ [23, 24, 25, 33, 34, 35, 36] (by decide +kernel) (by decide +kernel)
set_option maxRecDepth 20000 in
theorem gX2_words_X0_takeWords : GoodIn wsX2_words (wsV RX2 94 RX0 yX0_takeWords wsX0_takeWords) := goodIn_app (goodIn_of _ (by decide +kernel)) ggX2_words_X0_takeWords
set_option maxRecDepth 20000 in
theorem ggX2_words_X0_mirrorWords : GoodIn wsX2_words wsX0_mirrorWords := goodIn_r _ [29, 25, 24, 33, 34, 35, 36] (by decide +kernel) (by decide +kernel)
set_option maxRecDepth 20000 in
theorem gX2_words_X0_mirrorWords : GoodIn wsX2_words (wsV RX2 98 RX0 yX0_mirrorWords wsX0_mirrorWords) := goodIn_app (goodIn_of _ (by decide +kernel)) ggX2_words_X0_mirrorWords
theorem dX2_words_0 : decode cX2_words 0 = .ok (.iload_n 1, 1) := by decide +kernel
theorem dX2_words_1 : decode cX2_words 1 = .ok (.i2l, 1) := by decide +kernel
theorem dX2_words_2 : decode cX2_words 2 = .ok (.lconst 1, 1) := by decide +kernel
theorem dX2_words_3 : decode cX2_words 3 = .ok (.ldc2_w 89, 3) := by decide +kernel
theorem dX2_words_6 : decode cX2_words 6 = .ok (.invokestatic 31, 3) := by decide +kernel
theorem dX2_words_9 : decode cX2_words 9 = .ok (.ifCond .ne 5, 3) := by decide +kernel
theorem dX2_words_12 : decode cX2_words 12 = .ok (.iconst (-1), 1) := by decide +kernel
theorem dX2_words_13 : decode cX2_words 13 = .ok (.ireturn, 1) := by decide +kernel
theorem dX2_words_14 : decode cX2_words 14 = .ok (.iload_n 2, 1) := by decide +kernel
theorem dX2_words_15 : decode cX2_words 15 = .ok (.invokestatic 91, 3) := by decide +kernel
theorem dX2_words_18 : decode cX2_words 18 = .ok (.ifCond .eq 41, 3) := by decide +kernel
theorem dX2_words_21 : decode cX2_words 21 = .ok (.iload_n 1, 1) := by decide +kernel
theorem dX2_words_22 : decode cX2_words 22 = .ok (.iconst 1, 1) := by decide +kernel
theorem dX2_words_23 : decode cX2_words 23 = .ok (.if_icmp .le 10, 3) := by decide +kernel
theorem dX2_words_26 : decode cX2_words 26 = .ok (.iload_n 3, 1) := by decide +kernel
theorem dX2_words_27 : decode cX2_words 27 = .ok (.invokestatic 91, 3) := by decide +kernel
theorem dX2_words_30 : decode cX2_words 30 = .ok (.ifCond .eq 29, 3) := by decide +kernel
theorem dX2_words_33 : decode cX2_words 33 = .ok (.iload_n 1, 1) := by decide +kernel
theorem dX2_words_34 : decode cX2_words 34 = .ok (.iconst 2, 1) := by decide +kernel
theorem dX2_words_35 : decode cX2_words 35 = .ok (.if_icmp .le 11, 3) := by decide +kernel
theorem dX2_words_38 : decode cX2_words 38 = .ok (.iload 4, 2) := by decide +kernel
theorem dX2_words_40 : decode cX2_words 40 = .ok (.invokestatic 91, 3) := by decide +kernel
theorem dX2_words_43 : decode cX2_words 43 = .ok (.ifCond .eq 16, 3) := by decide +kernel
theorem dX2_words_46 : decode cX2_words 46 = .ok (.iload_n 1, 1) := by decide +kernel
theorem dX2_words_47 : decode cX2_words 47 = .ok (.iconst 3, 1) := by decide +kernel
theorem dX2_words_48 : decode cX2_words 48 = .ok (.if_icmp .le 13, 3) := by decide +kernel
theorem dX2_words_51 : decode cX2_words 51 = .ok (.iload 5, 2) := by decide +kernel
theorem dX2_words_53 : decode cX2_words 53 = .ok (.invokestatic 91, 3) := by decide +kernel
theorem dX2_words_56 : decode cX2_words 56 = .ok (.ifCond .ne 5, 3) := by decide +kernel
theorem dX2_words_59 : decode cX2_words 59 = .ok (.iconst (-1), 1) := by decide +kernel
theorem dX2_words_60 : decode cX2_words 60 = .ok (.ireturn, 1) := by decide +kernel
theorem dX2_words_61 : decode cX2_words 61 = .ok (.aload_n 0, 1) := by decide +kernel
theorem dX2_words_62 : decode cX2_words 62 = .ok (.getfield 19, 3) := by decide +kernel
theorem dX2_words_65 : decode cX2_words 65 = .ok (.invokevirtual 70, 3) := by decide +kernel
theorem dX2_words_68 : decode cX2_words 68 = .ok (.ifCond .eq 6, 3) := by decide +kernel
theorem dX2_words_71 : decode cX2_words 71 = .ok (.bipush (-2), 2) := by decide +kernel
theorem dX2_words_73 : decode cX2_words 73 = .ok (.ireturn, 1) := by decide +kernel
theorem dX2_words_74 : decode cX2_words 74 = .ok (.aload_n 0, 1) := by decide +kernel
theorem dX2_words_75 : decode cX2_words 75 = .ok (.getfield 12, 3) := by decide +kernel
theorem dX2_words_78 : decode cX2_words 78 = .ok (.iload_n 1, 1) := by decide +kernel
theorem dX2_words_79 : decode cX2_words 79 = .ok (.iload_n 2, 1) := by decide +kernel
theorem dX2_words_80 : decode cX2_words 80 = .ok (.iload_n 3, 1) := by decide +kernel
theorem dX2_words_81 : decode cX2_words 81 = .ok (.iload 4, 2) := by decide +kernel
theorem dX2_words_83 : decode cX2_words 83 = .ok (.iload 5, 2) := by decide +kernel
theorem dX2_words_85 : decode cX2_words 85 = .ok (.invokevirtual 94, 3) := by decide +kernel
theorem dX2_words_88 : decode cX2_words 88 = .ok (.iload 6, 2) := by decide +kernel
theorem dX2_words_90 : decode cX2_words 90 = .ok (.ifCond .eq 10, 3) := by decide +kernel
theorem dX2_words_93 : decode cX2_words 93 = .ok (.aload_n 0, 1) := by decide +kernel
theorem dX2_words_94 : decode cX2_words 94 = .ok (.getfield 12, 3) := by decide +kernel
theorem dX2_words_97 : decode cX2_words 97 = .ok (.invokevirtual 98, 3) := by decide +kernel
theorem dX2_words_100 : decode cX2_words 100 = .ok (.aload_n 0, 1) := by decide +kernel
theorem dX2_words_101 : decode cX2_words 101 = .ok (.getfield 12, 3) := by decide +kernel
theorem dX2_words_104 : decode cX2_words 104 = .ok (.getfield 101, 3) := by decide +kernel
theorem dX2_words_107 : decode cX2_words 107 = .ok (.ireturn, 1) := by decide +kernel
set_option maxRecDepth 20000 in
theorem ggX2_count_X2_isWithin : GoodIn wsX2_count wsX2_isWithin := goodIn_r _ [7] (by decide +kernel) (by decide +kernel)
set_option maxRecDepth 20000 in
theorem gX2_count_X2_isWithin : GoodIn wsX2_count (va_wsS RX2 31 yX2_isWithin wsX2_isWithin) := goodIn_app (goodIn_of _ (by decide +kernel)) ggX2_count_X2_isWithin
set_option maxRecDepth 20000 in
theorem ggX2_count_X0_toll : GoodIn wsX2_count wsX0_toll := goodIn_r _ [12, 13, 14, 37, 38, 39, 40] (by decide +kernel) (by decide +kernel)
set_option maxRecDepth 20000 in
theorem gX2_count_X0_toll : GoodIn wsX2_count (wsV RX2 106 RX0 yX0_toll wsX0_toll) := goodIn_app (goodIn_of _ (by decide +kernel)) ggX2_count_X0_toll
set_option maxRecDepth 20000 in
theorem ggX2_count_X0_ofTurn : GoodIn wsX2_count wsX0_ofTurn := goodIn_r _ [18, 13, 19, 20, 21, 22, 11, 23, 24, 25, 26, 27, 28, 29, 30, 31, 32, 33, 37, 38, 39, 40] (by decide +kernel) (by decide +kernel)
set_option maxRecDepth 20000 in
theorem gX2_count_X0_ofTurn : GoodIn wsX2_count (wsV RX2 110 RX0 yX0_ofTurn wsX0_ofTurn) := goodIn_app (goodIn_of _ (by decide +kernel)) ggX2_count_X0_ofTurn
theorem dX2_count_0 : decode cX2_count 0 = .ok (.iload_n 1, 1) := by decide +kernel
theorem dX2_count_1 : decode cX2_count 1 = .ok (.i2l, 1) := by decide +kernel
theorem dX2_count_2 : decode cX2_count 2 = .ok (.lconst 0, 1) := by decide +kernel
theorem dX2_count_3 : decode cX2_count 3 = .ok (.ldc2_w 104, 3) := by decide +kernel
theorem dX2_count_6 : decode cX2_count 6 = .ok (.invokestatic 31, 3) := by decide +kernel
theorem dX2_count_9 : decode cX2_count 9 = .ok (.ifCond .ne 7, 3) := by decide +kernel
theorem dX2_count_12 : decode cX2_count 12 = .ok (.sipush (-1000), 3) := by decide +kernel
theorem dX2_count_15 : decode cX2_count 15 = .ok (.ireturn, 1) := by decide +kernel
theorem dX2_count_16 : decode cX2_count 16 = .ok (.aload_n 0, 1) := by decide +kernel
theorem dX2_count_17 : decode cX2_count 17 = .ok (.dup, 1) := by decide +kernel
theorem dX2_count_18 : decode cX2_count 18 = .ok (.getfield 23, 3) := by decide +kernel
theorem dX2_count_21 : decode cX2_count 21 = .ok (.aload_n 0, 1) := by decide +kernel
theorem dX2_count_22 : decode cX2_count 22 = .ok (.getfield 12, 3) := by decide +kernel
theorem dX2_count_25 : decode cX2_count 25 = .ok (.invokevirtual 106, 3) := by decide +kernel
theorem dX2_count_28 : decode cX2_count 28 = .ok (.i2l, 1) := by decide +kernel
theorem dX2_count_29 : decode cX2_count 29 = .ok (.ladd, 1) := by decide +kernel
theorem dX2_count_30 : decode cX2_count 30 = .ok (.putfield 23, 3) := by decide +kernel
theorem dX2_count_33 : decode cX2_count 33 = .ok (.aload_n 0, 1) := by decide +kernel
theorem dX2_count_34 : decode cX2_count 34 = .ok (.getfield 12, 3) := by decide +kernel
theorem dX2_count_37 : decode cX2_count 37 = .ok (.iload_n 1, 1) := by decide +kernel
theorem dX2_count_38 : decode cX2_count 38 = .ok (.invokevirtual 110, 3) := by decide +kernel
theorem dX2_count_41 : decode cX2_count 41 = .ok (.ireturn, 1) := by decide +kernel
set_option maxRecDepth 20000 in
theorem ggX2_turns_X2_isWithin : GoodIn wsX2_turns wsX2_isWithin := goodIn_r _ [8] (by decide +kernel) (by decide +kernel)
set_option maxRecDepth 20000 in
theorem gX2_turns_X2_isWithin : GoodIn wsX2_turns (va_wsS RX2 31 yX2_isWithin wsX2_isWithin) := goodIn_app (goodIn_of _ (by decide +kernel)) ggX2_turns_X2_isWithin
set_option maxRecDepth 20000 in
theorem ggX2_turns_X0_ofTurn : GoodIn wsX2_turns wsX0_ofTurn := goodIn_r _ [13, 14, 15, 16, 17, 18, 12, 19, 20, 21, 22, 23, 24, 25, 26, 27, 28, 29, 70, 71, 72, 73] (by decide +kernel) (by decide +kernel)
set_option maxRecDepth 20000 in
theorem gX2_turns_X0_ofTurn : GoodIn wsX2_turns (wsV RX2 110 RX0 yX0_ofTurn wsX0_ofTurn) := goodIn_app (goodIn_of _ (by decide +kernel)) ggX2_turns_X0_ofTurn
set_option maxRecDepth 20000 in
theorem ggX2_turns_X1_takeTurn : GoodIn wsX2_turns wsX1_takeTurn := goodIn_r _ [34, 35, 36, 37, 38, 39, 40, 41, 42, 33, 43, 44, 45, 46, 47, 48, 49, 50, 51, 52, 53, 54, 55, 56, 57, 58, 62, 63, 64, 65, 66, 67, 68, 69] (by decide +kernel) (by decide +kernel)
set_option maxRecDepth 20000 in
theorem gX2_turns_X1_takeTurn : GoodIn wsX2_turns (wsV RX2 118 RX1 yX1_takeTurn wsX1_takeTurn) := goodIn_app (goodIn_of _ (by decide +kernel)) ggX2_turns_X1_takeTurn
theorem dX2_turns_0 : decode cX2_turns 0 = .ok (.iload_n 1, 1) := by decide +kernel
theorem dX2_turns_1 : decode cX2_turns 1 = .ok (.i2l, 1) := by decide +kernel
theorem dX2_turns_2 : decode cX2_turns 2 = .ok (.lconst 1, 1) := by decide +kernel
theorem dX2_turns_3 : decode cX2_turns 3 = .ok (.ldc2_w 113, 3) := by decide +kernel
theorem dX2_turns_6 : decode cX2_turns 6 = .ok (.invokestatic 31, 3) := by decide +kernel
theorem dX2_turns_9 : decode cX2_turns 9 = .ok (.ifCond .ne 5, 3) := by decide +kernel
theorem dX2_turns_12 : decode cX2_turns 12 = .ok (.iconst (-1), 1) := by decide +kernel
theorem dX2_turns_13 : decode cX2_turns 13 = .ok (.ireturn, 1) := by decide +kernel
theorem dX2_turns_14 : decode cX2_turns 14 = .ok (.iconst 0, 1) := by decide +kernel
theorem dX2_turns_15 : decode cX2_turns 15 = .ok (.istore_n 2, 1) := by decide +kernel
theorem dX2_turns_16 : decode cX2_turns 16 = .ok (.iload_n 2, 1) := by decide +kernel
theorem dX2_turns_17 : decode cX2_turns 17 = .ok (.iload_n 1, 1) := by decide +kernel
theorem dX2_turns_18 : decode cX2_turns 18 = .ok (.if_icmp .ge 33, 3) := by decide +kernel
theorem dX2_turns_21 : decode cX2_turns 21 = .ok (.aload_n 0, 1) := by decide +kernel
theorem dX2_turns_22 : decode cX2_turns 22 = .ok (.getfield 19, 3) := by decide +kernel
theorem dX2_turns_25 : decode cX2_turns 25 = .ok (.aload_n 0, 1) := by decide +kernel
theorem dX2_turns_26 : decode cX2_turns 26 = .ok (.getfield 12, 3) := by decide +kernel
theorem dX2_turns_29 : decode cX2_turns 29 = .ok (.aload_n 0, 1) := by decide +kernel
theorem dX2_turns_30 : decode cX2_turns 30 = .ok (.getfield 19, 3) := by decide +kernel
theorem dX2_turns_33 : decode cX2_turns 33 = .ok (.getfield 115, 3) := by decide +kernel
theorem dX2_turns_36 : decode cX2_turns 36 = .ok (.invokevirtual 110, 3) := by decide +kernel
theorem dX2_turns_39 : decode cX2_turns 39 = .ok (.invokevirtual 118, 3) := by decide +kernel
theorem dX2_turns_42 : decode cX2_turns 42 = .ok (.ifCond .eq 9, 3) := by decide +kernel
theorem dX2_turns_45 : decode cX2_turns 45 = .ok (.iinc 2 1, 3) := by decide +kernel
theorem dX2_turns_48 : decode cX2_turns 48 = .ok (.goto (-32), 3) := by decide +kernel
theorem dX2_turns_51 : decode cX2_turns 51 = .ok (.iload_n 2, 1) := by decide +kernel
theorem dX2_turns_52 : decode cX2_turns 52 = .ok (.ireturn, 1) := by decide +kernel
set_option maxRecDepth 20000 in
theorem ggX2_back_X2_isWithin : GoodIn wsX2_back wsX2_isWithin := goodIn_r _ [6] (by decide +kernel) (by decide +kernel)
set_option maxRecDepth 20000 in
theorem gX2_back_X2_isWithin : GoodIn wsX2_back (va_wsS RX2 31 yX2_isWithin wsX2_isWithin) := goodIn_app (goodIn_of _ (by decide +kernel)) ggX2_back_X2_isWithin
set_option maxRecDepth 20000 in
theorem ggX2_back_X1_takeBack : GoodIn wsX2_back wsX1_takeBack := goodIn_r _ [11, 12, 13, 14, 15, 16, 17, 18, 22, 23, 24, 25, 26, 27, 28, 29] (by decide +kernel) (by decide +kernel)
set_option maxRecDepth 20000 in
theorem gX2_back_X1_takeBack : GoodIn wsX2_back (wsV RX2 121 RX1 yX1_takeBack wsX1_takeBack) := goodIn_app (goodIn_of _ (by decide +kernel)) ggX2_back_X1_takeBack
theorem dX2_back_0 : decode cX2_back 0 = .ok (.iload_n 1, 1) := by decide +kernel
theorem dX2_back_1 : decode cX2_back 1 = .ok (.i2l, 1) := by decide +kernel
theorem dX2_back_2 : decode cX2_back 2 = .ok (.lconst 1, 1) := by decide +kernel
theorem dX2_back_3 : decode cX2_back 3 = .ok (.ldc2_w 113, 3) := by decide +kernel
theorem dX2_back_6 : decode cX2_back 6 = .ok (.invokestatic 31, 3) := by decide +kernel
theorem dX2_back_9 : decode cX2_back 9 = .ok (.ifCond .ne 5, 3) := by decide +kernel
theorem dX2_back_12 : decode cX2_back 12 = .ok (.iconst (-1), 1) := by decide +kernel
theorem dX2_back_13 : decode cX2_back 13 = .ok (.ireturn, 1) := by decide +kernel
theorem dX2_back_14 : decode cX2_back 14 = .ok (.iconst 0, 1) := by decide +kernel
theorem dX2_back_15 : decode cX2_back 15 = .ok (.istore_n 2, 1) := by decide +kernel
theorem dX2_back_16 : decode cX2_back 16 = .ok (.iload_n 2, 1) := by decide +kernel
theorem dX2_back_17 : decode cX2_back 17 = .ok (.iload_n 1, 1) := by decide +kernel
theorem dX2_back_18 : decode cX2_back 18 = .ok (.if_icmp .ge 19, 3) := by decide +kernel
theorem dX2_back_21 : decode cX2_back 21 = .ok (.aload_n 0, 1) := by decide +kernel
theorem dX2_back_22 : decode cX2_back 22 = .ok (.getfield 19, 3) := by decide +kernel
theorem dX2_back_25 : decode cX2_back 25 = .ok (.invokevirtual 121, 3) := by decide +kernel
theorem dX2_back_28 : decode cX2_back 28 = .ok (.ifCond .eq 9, 3) := by decide +kernel
theorem dX2_back_31 : decode cX2_back 31 = .ok (.iinc 2 1, 3) := by decide +kernel
theorem dX2_back_34 : decode cX2_back 34 = .ok (.goto (-18), 3) := by decide +kernel
theorem dX2_back_37 : decode cX2_back 37 = .ok (.iload_n 2, 1) := by decide +kernel
theorem dX2_back_38 : decode cX2_back 38 = .ok (.ireturn, 1) := by decide +kernel
set_option maxRecDepth 20000 in
theorem ggX2_about_X1_has : GoodIn wsX2_about wsX1_has := goodIn_r _ [8, 9, 17, 18, 19, 20, 21, 22, 23, 24] (by decide +kernel) (by decide +kernel)
set_option maxRecDepth 20000 in
theorem gX2_about_X1_has : GoodIn wsX2_about (wsV RX2 64 RX1 yX1_has wsX1_has) := goodIn_app (goodIn_of _ (by decide +kernel)) ggX2_about_X1_has
set_option maxRecDepth 20000 in
theorem ggX2_about_X2_isWithin : GoodIn wsX2_about wsX2_isWithin := goodIn_r _ [13] (by decide +kernel) (by decide +kernel)
set_option maxRecDepth 20000 in
theorem gX2_about_X2_isWithin : GoodIn wsX2_about (va_wsS RX2 31 yX2_isWithin wsX2_isWithin) := goodIn_app (goodIn_of _ (by decide +kernel)) ggX2_about_X2_isWithin
theorem dX2_about_0 : decode cX2_about 0 = .ok (.aload_n 0, 1) := by decide +kernel
theorem dX2_about_1 : decode cX2_about 1 = .ok (.getfield 19, 3) := by decide +kernel
theorem dX2_about_4 : decode cX2_about 4 = .ok (.iload_n 1, 1) := by decide +kernel
theorem dX2_about_5 : decode cX2_about 5 = .ok (.invokevirtual 64, 3) := by decide +kernel
theorem dX2_about_8 : decode cX2_about 8 = .ok (.ifCond .eq 13, 3) := by decide +kernel
theorem dX2_about_11 : decode cX2_about 11 = .ok (.iload_n 2, 1) := by decide +kernel
theorem dX2_about_12 : decode cX2_about 12 = .ok (.i2l, 1) := by decide +kernel
theorem dX2_about_13 : decode cX2_about 13 = .ok (.lconst 0, 1) := by decide +kernel
theorem dX2_about_14 : decode cX2_about 14 = .ok (.lconst 1, 1) := by decide +kernel
theorem dX2_about_15 : decode cX2_about 15 = .ok (.invokestatic 31, 3) := by decide +kernel
theorem dX2_about_18 : decode cX2_about 18 = .ok (.ifCond .ne 5, 3) := by decide +kernel
theorem dX2_about_21 : decode cX2_about 21 = .ok (.iconst (-1), 1) := by decide +kernel
theorem dX2_about_22 : decode cX2_about 22 = .ok (.ireturn, 1) := by decide +kernel
theorem dX2_about_23 : decode cX2_about 23 = .ok (.iload_n 2, 1) := by decide +kernel
theorem dX2_about_24 : decode cX2_about 24 = .ok (.ifCond .ne 15, 3) := by decide +kernel
theorem dX2_about_27 : decode cX2_about 27 = .ok (.aload_n 0, 1) := by decide +kernel
theorem dX2_about_28 : decode cX2_about 28 = .ok (.getfield 19, 3) := by decide +kernel
theorem dX2_about_31 : decode cX2_about 31 = .ok (.getfield 124, 3) := by decide +kernel
theorem dX2_about_34 : decode cX2_about 34 = .ok (.iload_n 1, 1) := by decide +kernel
theorem dX2_about_35 : decode cX2_about 35 = .ok (.iaload, 1) := by decide +kernel
theorem dX2_about_36 : decode cX2_about 36 = .ok (.goto 12, 3) := by decide +kernel
theorem dX2_about_39 : decode cX2_about 39 = .ok (.aload_n 0, 1) := by decide +kernel
theorem dX2_about_40 : decode cX2_about 40 = .ok (.getfield 19, 3) := by decide +kernel
theorem dX2_about_43 : decode cX2_about 43 = .ok (.getfield 128, 3) := by decide +kernel
theorem dX2_about_46 : decode cX2_about 46 = .ok (.iload_n 1, 1) := by decide +kernel
theorem dX2_about_47 : decode cX2_about 47 = .ok (.iaload, 1) := by decide +kernel
theorem dX2_about_48 : decode cX2_about 48 = .ok (.ireturn, 1) := by decide +kernel
set_option maxRecDepth 20000 in
theorem ggX2_told_X1_latestCounted : GoodIn wsX2_told wsX1_latestCounted := goodIn_r _ [9, 10, 11, 22, 23, 24, 25, 26, 27, 28, 29] (by decide +kernel) (by decide +kernel)
set_option maxRecDepth 20000 in
theorem gX2_told_X1_latestCounted : GoodIn wsX2_told (wsV RX2 137 RX1 yX1_latestCounted wsX1_latestCounted) := goodIn_app (goodIn_of _ (by decide +kernel)) ggX2_told_X1_latestCounted
set_option maxRecDepth 20000 in
theorem ggX2_told_X1_latestOut : GoodIn wsX2_told wsX1_latestOut := goodIn_r _ [15, 16, 17, 18, 22, 23, 24, 25, 26, 27, 28, 29] (by decide +kernel) (by decide +kernel)
set_option maxRecDepth 20000 in
theorem gX2_told_X1_latestOut : GoodIn wsX2_told (wsV RX2 140 RX1 yX1_latestOut wsX1_latestOut) := goodIn_app (goodIn_of _ (by decide +kernel)) ggX2_told_X1_latestOut
theorem dX2_told_0 : decode cX2_told 0 = .ok (.iload_n 1, 1) := by decide +kernel
theorem dX2_told_1 : decode cX2_told 1 = .ok (.tableswitch 75 0 4 #[35, 43, 51, 59, 67], 35) := by decide +kernel
theorem dX2_told_36 : decode cX2_told 36 = .ok (.aload_n 0, 1) := by decide +kernel
theorem dX2_told_37 : decode cX2_told 37 = .ok (.getfield 19, 3) := by decide +kernel
theorem dX2_told_40 : decode cX2_told 40 = .ok (.getfield 131, 3) := by decide +kernel
theorem dX2_told_43 : decode cX2_told 43 = .ok (.ireturn, 1) := by decide +kernel
theorem dX2_told_44 : decode cX2_told 44 = .ok (.aload_n 0, 1) := by decide +kernel
theorem dX2_told_45 : decode cX2_told 45 = .ok (.getfield 19, 3) := by decide +kernel
theorem dX2_told_48 : decode cX2_told 48 = .ok (.getfield 134, 3) := by decide +kernel
theorem dX2_told_51 : decode cX2_told 51 = .ok (.ireturn, 1) := by decide +kernel
theorem dX2_told_52 : decode cX2_told 52 = .ok (.aload_n 0, 1) := by decide +kernel
theorem dX2_told_53 : decode cX2_told 53 = .ok (.getfield 19, 3) := by decide +kernel
theorem dX2_told_56 : decode cX2_told 56 = .ok (.getfield 115, 3) := by decide +kernel
theorem dX2_told_59 : decode cX2_told 59 = .ok (.ireturn, 1) := by decide +kernel
theorem dX2_told_60 : decode cX2_told 60 = .ok (.aload_n 0, 1) := by decide +kernel
theorem dX2_told_61 : decode cX2_told 61 = .ok (.getfield 19, 3) := by decide +kernel
theorem dX2_told_64 : decode cX2_told 64 = .ok (.invokevirtual 137, 3) := by decide +kernel
theorem dX2_told_67 : decode cX2_told 67 = .ok (.ireturn, 1) := by decide +kernel
theorem dX2_told_68 : decode cX2_told 68 = .ok (.aload_n 0, 1) := by decide +kernel
theorem dX2_told_69 : decode cX2_told 69 = .ok (.getfield 19, 3) := by decide +kernel
theorem dX2_told_72 : decode cX2_told 72 = .ok (.invokevirtual 140, 3) := by decide +kernel
theorem dX2_told_75 : decode cX2_told 75 = .ok (.ireturn, 1) := by decide +kernel
theorem dX2_told_76 : decode cX2_told 76 = .ok (.iconst (-1), 1) := by decide +kernel
theorem dX2_told_77 : decode cX2_told 77 = .ok (.ireturn, 1) := by decide +kernel
set_option maxRecDepth 20000 in
theorem ggX2_may_X2_isWithin : GoodIn wsX2_may wsX2_isWithin := goodIn_r _ [5] (by decide +kernel) (by decide +kernel)
set_option maxRecDepth 20000 in
theorem gX2_may_X2_isWithin : GoodIn wsX2_may (va_wsS RX2 31 yX2_isWithin wsX2_isWithin) := goodIn_app (goodIn_of _ (by decide +kernel)) ggX2_may_X2_isWithin
set_option maxRecDepth 20000 in
theorem ggX2_may_X2_isChosenSet : GoodIn wsX2_may wsX2_isChosenSet := goodIn_r _ [8, 9, 2, 3, 4, 5] (by decide +kernel) (by decide +kernel)
set_option maxRecDepth 20000 in
theorem gX2_may_X2_isChosenSet : GoodIn wsX2_may (va_wsS RX2 145 yX2_isChosenSet wsX2_isChosenSet) := goodIn_app (goodIn_of _ (by decide +kernel)) ggX2_may_X2_isChosenSet
set_option maxRecDepth 20000 in
theorem ggX2_may_X2_stayingBySome : GoodIn wsX2_may wsX2_stayingBySome := goodIn_r _ [12, 13, 14, 4, 15, 16, 17, 18] (by decide +kernel) (by decide +kernel)
set_option maxRecDepth 20000 in
theorem gX2_may_X2_stayingBySome : GoodIn wsX2_may (va_wsS RX2 148 yX2_stayingBySome wsX2_stayingBySome) := goodIn_app (goodIn_of _ (by decide +kernel)) ggX2_may_X2_stayingBySome
theorem dX2_may_0 : decode cX2_may 0 = .ok (.iload_n 1, 1) := by decide +kernel
theorem dX2_may_1 : decode cX2_may 1 = .ok (.i2l, 1) := by decide +kernel
theorem dX2_may_2 : decode cX2_may 2 = .ok (.lconst 1, 1) := by decide +kernel
theorem dX2_may_3 : decode cX2_may 3 = .ok (.ldc2_w 143, 3) := by decide +kernel
theorem dX2_may_6 : decode cX2_may 6 = .ok (.invokestatic 31, 3) := by decide +kernel
theorem dX2_may_9 : decode cX2_may 9 = .ok (.ifCond .eq 10, 3) := by decide +kernel
theorem dX2_may_12 : decode cX2_may 12 = .ok (.iload_n 2, 1) := by decide +kernel
theorem dX2_may_13 : decode cX2_may 13 = .ok (.invokestatic 145, 3) := by decide +kernel
theorem dX2_may_16 : decode cX2_may 16 = .ok (.ifCond .ne 5, 3) := by decide +kernel
theorem dX2_may_19 : decode cX2_may 19 = .ok (.iconst (-1), 1) := by decide +kernel
theorem dX2_may_20 : decode cX2_may 20 = .ok (.ireturn, 1) := by decide +kernel
theorem dX2_may_21 : decode cX2_may 21 = .ok (.iconst 1, 1) := by decide +kernel
theorem dX2_may_22 : decode cX2_may 22 = .ok (.istore_n 3, 1) := by decide +kernel
theorem dX2_may_23 : decode cX2_may 23 = .ok (.iconst 2, 1) := by decide +kernel
theorem dX2_may_24 : decode cX2_may 24 = .ok (.istore 4, 2) := by decide +kernel
theorem dX2_may_26 : decode cX2_may 26 = .ok (.iload 4, 2) := by decide +kernel
theorem dX2_may_28 : decode cX2_may 28 = .ok (.iload_n 1, 1) := by decide +kernel
theorem dX2_may_29 : decode cX2_may 29 = .ok (.if_icmp .gt 17, 3) := by decide +kernel
theorem dX2_may_32 : decode cX2_may 32 = .ok (.iload 4, 2) := by decide +kernel
theorem dX2_may_34 : decode cX2_may 34 = .ok (.iload_n 2, 1) := by decide +kernel
theorem dX2_may_35 : decode cX2_may 35 = .ok (.iload_n 3, 1) := by decide +kernel
theorem dX2_may_36 : decode cX2_may 36 = .ok (.invokestatic 148, 3) := by decide +kernel
theorem dX2_may_39 : decode cX2_may 39 = .ok (.istore_n 3, 1) := by decide +kernel
theorem dX2_may_40 : decode cX2_may 40 = .ok (.iinc 4 1, 3) := by decide +kernel
theorem dX2_may_43 : decode cX2_may 43 = .ok (.goto (-17), 3) := by decide +kernel
theorem dX2_may_46 : decode cX2_may 46 = .ok (.iload_n 3, 1) := by decide +kernel
theorem dX2_may_47 : decode cX2_may 47 = .ok (.ireturn, 1) := by decide +kernel
set_option maxRecDepth 20000 in
theorem ggX2_can_X2_isWithin : GoodIn wsX2_can wsX2_isWithin := goodIn_r _ [5] (by decide +kernel) (by decide +kernel)
set_option maxRecDepth 20000 in
theorem gX2_can_X2_isWithin : GoodIn wsX2_can (va_wsS RX2 31 yX2_isWithin wsX2_isWithin) := goodIn_app (goodIn_of _ (by decide +kernel)) ggX2_can_X2_isWithin
set_option maxRecDepth 20000 in
theorem ggX2_can_X2_isChosenSet : GoodIn wsX2_can wsX2_isChosenSet := goodIn_r _ [8, 9, 2, 3, 4, 5] (by decide +kernel) (by decide +kernel)
set_option maxRecDepth 20000 in
theorem gX2_can_X2_isChosenSet : GoodIn wsX2_can (va_wsS RX2 145 yX2_isChosenSet wsX2_isChosenSet) := goodIn_app (goodIn_of _ (by decide +kernel)) ggX2_can_X2_isChosenSet
set_option maxRecDepth 20000 in
theorem ggX2_can_X2_stayingBySome : GoodIn wsX2_can wsX2_stayingBySome := goodIn_r _ [12, 13, 14, 4, 15, 16, 17, 18] (by decide +kernel) (by decide +kernel)
set_option maxRecDepth 20000 in
theorem gX2_can_X2_stayingBySome : GoodIn wsX2_can (va_wsS RX2 148 yX2_stayingBySome wsX2_stayingBySome) := goodIn_app (goodIn_of _ (by decide +kernel)) ggX2_can_X2_stayingBySome
set_option maxRecDepth 20000 in
theorem ggX2_can_X2_stayingByAll : GoodIn wsX2_can wsX2_stayingByAll := goodIn_r _ [21, 13, 14, 4, 15, 16, 17, 18] (by decide +kernel) (by decide +kernel)
set_option maxRecDepth 20000 in
theorem gX2_can_X2_stayingByAll : GoodIn wsX2_can (va_wsS RX2 152 yX2_stayingByAll wsX2_stayingByAll) := goodIn_app (goodIn_of _ (by decide +kernel)) ggX2_can_X2_stayingByAll
theorem dX2_can_0 : decode cX2_can 0 = .ok (.iload_n 1, 1) := by decide +kernel
theorem dX2_can_1 : decode cX2_can 1 = .ok (.i2l, 1) := by decide +kernel
theorem dX2_can_2 : decode cX2_can 2 = .ok (.lconst 1, 1) := by decide +kernel
theorem dX2_can_3 : decode cX2_can 3 = .ok (.ldc2_w 143, 3) := by decide +kernel
theorem dX2_can_6 : decode cX2_can 6 = .ok (.invokestatic 31, 3) := by decide +kernel
theorem dX2_can_9 : decode cX2_can 9 = .ok (.ifCond .eq 17, 3) := by decide +kernel
theorem dX2_can_12 : decode cX2_can 12 = .ok (.iload_n 2, 1) := by decide +kernel
theorem dX2_can_13 : decode cX2_can 13 = .ok (.invokestatic 145, 3) := by decide +kernel
theorem dX2_can_16 : decode cX2_can 16 = .ok (.ifCond .eq 10, 3) := by decide +kernel
theorem dX2_can_19 : decode cX2_can 19 = .ok (.iload_n 3, 1) := by decide +kernel
theorem dX2_can_20 : decode cX2_can 20 = .ok (.invokestatic 145, 3) := by decide +kernel
theorem dX2_can_23 : decode cX2_can 23 = .ok (.ifCond .ne 5, 3) := by decide +kernel
theorem dX2_can_26 : decode cX2_can 26 = .ok (.iconst (-1), 1) := by decide +kernel
theorem dX2_can_27 : decode cX2_can 27 = .ok (.ireturn, 1) := by decide +kernel
theorem dX2_can_28 : decode cX2_can 28 = .ok (.iconst 1, 1) := by decide +kernel
theorem dX2_can_29 : decode cX2_can 29 = .ok (.istore 4, 2) := by decide +kernel
theorem dX2_can_31 : decode cX2_can 31 = .ok (.iconst 2, 1) := by decide +kernel
theorem dX2_can_32 : decode cX2_can 32 = .ok (.istore 5, 2) := by decide +kernel
theorem dX2_can_34 : decode cX2_can 34 = .ok (.iload 5, 2) := by decide +kernel
theorem dX2_can_36 : decode cX2_can 36 = .ok (.iload_n 1, 1) := by decide +kernel
theorem dX2_can_37 : decode cX2_can 37 = .ok (.if_icmp .gt 51, 3) := by decide +kernel
theorem dX2_can_40 : decode cX2_can 40 = .ok (.iload_n 1, 1) := by decide +kernel
theorem dX2_can_41 : decode cX2_can 41 = .ok (.iload 5, 2) := by decide +kernel
theorem dX2_can_43 : decode cX2_can 43 = .ok (.isub, 1) := by decide +kernel
theorem dX2_can_44 : decode cX2_can 44 = .ok (.iconst 2, 1) := by decide +kernel
theorem dX2_can_45 : decode cX2_can 45 = .ok (.irem, 1) := by decide +kernel
theorem dX2_can_46 : decode cX2_can 46 = .ok (.ifCond .ne 7, 3) := by decide +kernel
theorem dX2_can_49 : decode cX2_can 49 = .ok (.iconst 1, 1) := by decide +kernel
theorem dX2_can_50 : decode cX2_can 50 = .ok (.goto 4, 3) := by decide +kernel
theorem dX2_can_53 : decode cX2_can 53 = .ok (.iconst 0, 1) := by decide +kernel
theorem dX2_can_54 : decode cX2_can 54 = .ok (.istore 6, 2) := by decide +kernel
theorem dX2_can_56 : decode cX2_can 56 = .ok (.iload 6, 2) := by decide +kernel
theorem dX2_can_58 : decode cX2_can 58 = .ok (.ifCond .eq 14, 3) := by decide +kernel
theorem dX2_can_61 : decode cX2_can 61 = .ok (.iload 5, 2) := by decide +kernel
theorem dX2_can_63 : decode cX2_can 63 = .ok (.iload_n 2, 1) := by decide +kernel
theorem dX2_can_64 : decode cX2_can 64 = .ok (.iload 4, 2) := by decide +kernel
theorem dX2_can_66 : decode cX2_can 66 = .ok (.invokestatic 148, 3) := by decide +kernel
theorem dX2_can_69 : decode cX2_can 69 = .ok (.goto 11, 3) := by decide +kernel
theorem dX2_can_72 : decode cX2_can 72 = .ok (.iload 5, 2) := by decide +kernel
theorem dX2_can_74 : decode cX2_can 74 = .ok (.iload_n 3, 1) := by decide +kernel
theorem dX2_can_75 : decode cX2_can 75 = .ok (.iload 4, 2) := by decide +kernel
theorem dX2_can_77 : decode cX2_can 77 = .ok (.invokestatic 152, 3) := by decide +kernel
theorem dX2_can_80 : decode cX2_can 80 = .ok (.istore 4, 2) := by decide +kernel
theorem dX2_can_82 : decode cX2_can 82 = .ok (.iinc 5 1, 3) := by decide +kernel
theorem dX2_can_85 : decode cX2_can 85 = .ok (.goto (-51), 3) := by decide +kernel
theorem dX2_can_88 : decode cX2_can 88 = .ok (.iload 4, 2) := by decide +kernel
theorem dX2_can_90 : decode cX2_can 90 = .ok (.ireturn, 1) := by decide +kernel
theorem dX2_trace_0 : decode cX2_trace 0 = .ok (.aload_n 0, 1) := by decide +kernel
theorem dX2_trace_1 : decode cX2_trace 1 = .ok (.getfield 23, 3) := by decide +kernel
theorem dX2_trace_4 : decode cX2_trace 4 = .ok (.lreturn, 1) := by decide +kernel
theorem dX2_isWithin_0 : decode cX2_isWithin 0 = .ok (.lload_n 0, 1) := by decide +kernel
theorem dX2_isWithin_1 : decode cX2_isWithin 1 = .ok (.lload_n 2, 1) := by decide +kernel
theorem dX2_isWithin_2 : decode cX2_isWithin 2 = .ok (.lcmp, 1) := by decide +kernel
theorem dX2_isWithin_3 : decode cX2_isWithin 3 = .ok (.ifCond .lt 14, 3) := by decide +kernel
theorem dX2_isWithin_6 : decode cX2_isWithin 6 = .ok (.lload_n 0, 1) := by decide +kernel
theorem dX2_isWithin_7 : decode cX2_isWithin 7 = .ok (.lload 4, 2) := by decide +kernel
theorem dX2_isWithin_9 : decode cX2_isWithin 9 = .ok (.lcmp, 1) := by decide +kernel
theorem dX2_isWithin_10 : decode cX2_isWithin 10 = .ok (.ifCond .gt 7, 3) := by decide +kernel
theorem dX2_isWithin_13 : decode cX2_isWithin 13 = .ok (.iconst 1, 1) := by decide +kernel
theorem dX2_isWithin_14 : decode cX2_isWithin 14 = .ok (.goto 4, 3) := by decide +kernel
theorem dX2_isWithin_17 : decode cX2_isWithin 17 = .ok (.iconst 0, 1) := by decide +kernel
theorem dX2_isWithin_18 : decode cX2_isWithin 18 = .ok (.ireturn, 1) := by decide +kernel
set_option maxRecDepth 20000 in
theorem ggX2_isGreatRing_X2_isWithin : GoodIn wsX2_isGreatRing wsX2_isWithin := goodIn_r _ [6] (by decide +kernel) (by decide +kernel)
set_option maxRecDepth 20000 in
theorem gX2_isGreatRing_X2_isWithin : GoodIn wsX2_isGreatRing (va_wsS RX2 31 yX2_isWithin wsX2_isWithin) := goodIn_app (goodIn_of _ (by decide +kernel)) ggX2_isGreatRing_X2_isWithin
theorem dX2_isGreatRing_0 : decode cX2_isGreatRing 0 = .ok (.lload_n 0, 1) := by decide +kernel
theorem dX2_isGreatRing_1 : decode cX2_isGreatRing 1 = .ok (.lconst 1, 1) := by decide +kernel
theorem dX2_isGreatRing_2 : decode cX2_isGreatRing 2 = .ok (.ldc2_w 155, 3) := by decide +kernel
theorem dX2_isGreatRing_5 : decode cX2_isGreatRing 5 = .ok (.invokestatic 31, 3) := by decide +kernel
theorem dX2_isGreatRing_8 : decode cX2_isGreatRing 8 = .ok (.ifCond .eq 19, 3) := by decide +kernel
theorem dX2_isGreatRing_11 : decode cX2_isGreatRing 11 = .ok (.iload_n 2, 1) := by decide +kernel
theorem dX2_isGreatRing_12 : decode cX2_isGreatRing 12 = .ok (.i2l, 1) := by decide +kernel
theorem dX2_isGreatRing_13 : decode cX2_isGreatRing 13 = .ok (.lconst 1, 1) := by decide +kernel
theorem dX2_isGreatRing_14 : decode cX2_isGreatRing 14 = .ok (.ldc2_w 157, 3) := by decide +kernel
theorem dX2_isGreatRing_17 : decode cX2_isGreatRing 17 = .ok (.invokestatic 31, 3) := by decide +kernel
theorem dX2_isGreatRing_20 : decode cX2_isGreatRing 20 = .ok (.ifCond .eq 7, 3) := by decide +kernel
theorem dX2_isGreatRing_23 : decode cX2_isGreatRing 23 = .ok (.iconst 1, 1) := by decide +kernel
theorem dX2_isGreatRing_24 : decode cX2_isGreatRing 24 = .ok (.goto 4, 3) := by decide +kernel
theorem dX2_isGreatRing_27 : decode cX2_isGreatRing 27 = .ok (.iconst 0, 1) := by decide +kernel
theorem dX2_isGreatRing_28 : decode cX2_isGreatRing 28 = .ok (.ireturn, 1) := by decide +kernel
set_option maxRecDepth 20000 in
theorem ggX2_isHeap_X2_isWithin : GoodIn wsX2_isHeap wsX2_isWithin := goodIn_r _ [6] (by decide +kernel) (by decide +kernel)
set_option maxRecDepth 20000 in
theorem gX2_isHeap_X2_isWithin : GoodIn wsX2_isHeap (va_wsS RX2 31 yX2_isWithin wsX2_isWithin) := goodIn_app (goodIn_of _ (by decide +kernel)) ggX2_isHeap_X2_isWithin
theorem dX2_isHeap_0 : decode cX2_isHeap 0 = .ok (.iload_n 0, 1) := by decide +kernel
theorem dX2_isHeap_1 : decode cX2_isHeap 1 = .ok (.i2l, 1) := by decide +kernel
theorem dX2_isHeap_2 : decode cX2_isHeap 2 = .ok (.ldc2_w 80, 3) := by decide +kernel
theorem dX2_isHeap_5 : decode cX2_isHeap 5 = .ok (.ldc2_w 78, 3) := by decide +kernel
theorem dX2_isHeap_8 : decode cX2_isHeap 8 = .ok (.invokestatic 31, 3) := by decide +kernel
theorem dX2_isHeap_11 : decode cX2_isHeap 11 = .ok (.ifCond .eq 22, 3) := by decide +kernel
theorem dX2_isHeap_14 : decode cX2_isHeap 14 = .ok (.iload_n 1, 1) := by decide +kernel
theorem dX2_isHeap_15 : decode cX2_isHeap 15 = .ok (.i2l, 1) := by decide +kernel
theorem dX2_isHeap_16 : decode cX2_isHeap 16 = .ok (.lconst 1, 1) := by decide +kernel
theorem dX2_isHeap_17 : decode cX2_isHeap 17 = .ok (.iconst 1, 1) := by decide +kernel
theorem dX2_isHeap_18 : decode cX2_isHeap 18 = .ok (.iload_n 0, 1) := by decide +kernel
theorem dX2_isHeap_19 : decode cX2_isHeap 19 = .ok (.ishl, 1) := by decide +kernel
theorem dX2_isHeap_20 : decode cX2_isHeap 20 = .ok (.iconst 2, 1) := by decide +kernel
theorem dX2_isHeap_21 : decode cX2_isHeap 21 = .ok (.isub, 1) := by decide +kernel
theorem dX2_isHeap_22 : decode cX2_isHeap 22 = .ok (.i2l, 1) := by decide +kernel
theorem dX2_isHeap_23 : decode cX2_isHeap 23 = .ok (.invokestatic 31, 3) := by decide +kernel
theorem dX2_isHeap_26 : decode cX2_isHeap 26 = .ok (.ifCond .eq 7, 3) := by decide +kernel
theorem dX2_isHeap_29 : decode cX2_isHeap 29 = .ok (.iconst 1, 1) := by decide +kernel
theorem dX2_isHeap_30 : decode cX2_isHeap 30 = .ok (.goto 4, 3) := by decide +kernel
theorem dX2_isHeap_33 : decode cX2_isHeap 33 = .ok (.iconst 0, 1) := by decide +kernel
theorem dX2_isHeap_34 : decode cX2_isHeap 34 = .ok (.ireturn, 1) := by decide +kernel
set_option maxRecDepth 20000 in
theorem ggX2_isWord_X2_isWithin : GoodIn wsX2_isWord wsX2_isWithin := goodIn_r _ [5] (by decide +kernel) (by decide +kernel)
set_option maxRecDepth 20000 in
theorem gX2_isWord_X2_isWithin : GoodIn wsX2_isWord (va_wsS RX2 31 yX2_isWithin wsX2_isWithin) := goodIn_app (goodIn_of _ (by decide +kernel)) ggX2_isWord_X2_isWithin
theorem dX2_isWord_0 : decode cX2_isWord 0 = .ok (.iload_n 0, 1) := by decide +kernel
theorem dX2_isWord_1 : decode cX2_isWord 1 = .ok (.i2l, 1) := by decide +kernel
theorem dX2_isWord_2 : decode cX2_isWord 2 = .ok (.lconst 1, 1) := by decide +kernel
theorem dX2_isWord_3 : decode cX2_isWord 3 = .ok (.ldc2_w 159, 3) := by decide +kernel
theorem dX2_isWord_6 : decode cX2_isWord 6 = .ok (.invokestatic 31, 3) := by decide +kernel
theorem dX2_isWord_9 : decode cX2_isWord 9 = .ok (.ireturn, 1) := by decide +kernel
set_option maxRecDepth 20000 in
theorem ggX2_isChosenSet_X2_isWithin : GoodIn wsX2_isChosenSet wsX2_isWithin := goodIn_r _ [5] (by decide +kernel) (by decide +kernel)
set_option maxRecDepth 20000 in
theorem gX2_isChosenSet_X2_isWithin : GoodIn wsX2_isChosenSet (va_wsS RX2 31 yX2_isWithin wsX2_isWithin) := goodIn_app (goodIn_of _ (by decide +kernel)) ggX2_isChosenSet_X2_isWithin
theorem dX2_isChosenSet_0 : decode cX2_isChosenSet 0 = .ok (.iload_n 0, 1) := by decide +kernel
theorem dX2_isChosenSet_1 : decode cX2_isChosenSet 1 = .ok (.i2l, 1) := by decide +kernel
theorem dX2_isChosenSet_2 : decode cX2_isChosenSet 2 = .ok (.lconst 1, 1) := by decide +kernel
theorem dX2_isChosenSet_3 : decode cX2_isChosenSet 3 = .ok (.ldc2_w 161, 3) := by decide +kernel
theorem dX2_isChosenSet_6 : decode cX2_isChosenSet 6 = .ok (.invokestatic 31, 3) := by decide +kernel
theorem dX2_isChosenSet_9 : decode cX2_isChosenSet 9 = .ok (.ireturn, 1) := by decide +kernel
theorem dX2_placeOfGoing_0 : decode cX2_placeOfGoing 0 = .ok (.iload_n 2, 1) := by decide +kernel
theorem dX2_placeOfGoing_1 : decode cX2_placeOfGoing 1 = .ok (.iconst 2, 1) := by decide +kernel
theorem dX2_placeOfGoing_2 : decode cX2_placeOfGoing 2 = .ok (.if_icmp .ge 7, 3) := by decide +kernel
theorem dX2_placeOfGoing_5 : decode cX2_placeOfGoing 5 = .ok (.lload_n 3, 1) := by decide +kernel
theorem dX2_placeOfGoing_6 : decode cX2_placeOfGoing 6 = .ok (.lconst 1, 1) := by decide +kernel
theorem dX2_placeOfGoing_7 : decode cX2_placeOfGoing 7 = .ok (.lsub, 1) := by decide +kernel
theorem dX2_placeOfGoing_8 : decode cX2_placeOfGoing 8 = .ok (.lreturn, 1) := by decide +kernel
theorem dX2_placeOfGoing_9 : decode cX2_placeOfGoing 9 = .ok (.iload_n 2, 1) := by decide +kernel
theorem dX2_placeOfGoing_10 : decode cX2_placeOfGoing 10 = .ok (.i2l, 1) := by decide +kernel
theorem dX2_placeOfGoing_11 : decode cX2_placeOfGoing 11 = .ok (.lload_n 3, 1) := by decide +kernel
theorem dX2_placeOfGoing_12 : decode cX2_placeOfGoing 12 = .ok (.lmul, 1) := by decide +kernel
theorem dX2_placeOfGoing_13 : decode cX2_placeOfGoing 13 = .ok (.lstore 5, 2) := by decide +kernel
theorem dX2_placeOfGoing_15 : decode cX2_placeOfGoing 15 = .ok (.iconst 0, 1) := by decide +kernel
theorem dX2_placeOfGoing_16 : decode cX2_placeOfGoing 16 = .ok (.istore 7, 2) := by decide +kernel
theorem dX2_placeOfGoing_18 : decode cX2_placeOfGoing 18 = .ok (.lload 5, 2) := by decide +kernel
theorem dX2_placeOfGoing_20 : decode cX2_placeOfGoing 20 = .ok (.lload_n 0, 1) := by decide +kernel
theorem dX2_placeOfGoing_21 : decode cX2_placeOfGoing 21 = .ok (.lcmp, 1) := by decide +kernel
theorem dX2_placeOfGoing_22 : decode cX2_placeOfGoing 22 = .ok (.ifCond .le 32, 3) := by decide +kernel
theorem dX2_placeOfGoing_25 : decode cX2_placeOfGoing 25 = .ok (.iload 7, 2) := by decide +kernel
theorem dX2_placeOfGoing_27 : decode cX2_placeOfGoing 27 = .ok (.ldc 163, 2) := by decide +kernel
theorem dX2_placeOfGoing_29 : decode cX2_placeOfGoing 29 = .ok (.if_icmp .ge 25, 3) := by decide +kernel
theorem dX2_placeOfGoing_32 : decode cX2_placeOfGoing 32 = .ok (.iload_n 2, 1) := by decide +kernel
theorem dX2_placeOfGoing_33 : decode cX2_placeOfGoing 33 = .ok (.i2l, 1) := by decide +kernel
theorem dX2_placeOfGoing_34 : decode cX2_placeOfGoing 34 = .ok (.lload 5, 2) := by decide +kernel
theorem dX2_placeOfGoing_36 : decode cX2_placeOfGoing 36 = .ok (.lload_n 0, 1) := by decide +kernel
theorem dX2_placeOfGoing_37 : decode cX2_placeOfGoing 37 = .ok (.lsub, 1) := by decide +kernel
theorem dX2_placeOfGoing_38 : decode cX2_placeOfGoing 38 = .ok (.lmul, 1) := by decide +kernel
theorem dX2_placeOfGoing_39 : decode cX2_placeOfGoing 39 = .ok (.lconst 1, 1) := by decide +kernel
theorem dX2_placeOfGoing_40 : decode cX2_placeOfGoing 40 = .ok (.lsub, 1) := by decide +kernel
theorem dX2_placeOfGoing_41 : decode cX2_placeOfGoing 41 = .ok (.iload_n 2, 1) := by decide +kernel
theorem dX2_placeOfGoing_42 : decode cX2_placeOfGoing 42 = .ok (.iconst 1, 1) := by decide +kernel
theorem dX2_placeOfGoing_43 : decode cX2_placeOfGoing 43 = .ok (.isub, 1) := by decide +kernel
theorem dX2_placeOfGoing_44 : decode cX2_placeOfGoing 44 = .ok (.i2l, 1) := by decide +kernel
theorem dX2_placeOfGoing_45 : decode cX2_placeOfGoing 45 = .ok (.ldiv, 1) := by decide +kernel
theorem dX2_placeOfGoing_46 : decode cX2_placeOfGoing 46 = .ok (.lstore 5, 2) := by decide +kernel
theorem dX2_placeOfGoing_48 : decode cX2_placeOfGoing 48 = .ok (.iinc 7 1, 3) := by decide +kernel
theorem dX2_placeOfGoing_51 : decode cX2_placeOfGoing 51 = .ok (.goto (-33), 3) := by decide +kernel
theorem dX2_placeOfGoing_54 : decode cX2_placeOfGoing 54 = .ok (.lload 5, 2) := by decide +kernel
theorem dX2_placeOfGoing_56 : decode cX2_placeOfGoing 56 = .ok (.lconst 1, 1) := by decide +kernel
theorem dX2_placeOfGoing_57 : decode cX2_placeOfGoing 57 = .ok (.lsub, 1) := by decide +kernel
theorem dX2_placeOfGoing_58 : decode cX2_placeOfGoing 58 = .ok (.lreturn, 1) := by decide +kernel
theorem dX2_goingOfPlace_0 : decode cX2_goingOfPlace 0 = .ok (.iload_n 2, 1) := by decide +kernel
theorem dX2_goingOfPlace_1 : decode cX2_goingOfPlace 1 = .ok (.iconst 2, 1) := by decide +kernel
theorem dX2_goingOfPlace_2 : decode cX2_goingOfPlace 2 = .ok (.if_icmp .ge 7, 3) := by decide +kernel
theorem dX2_goingOfPlace_5 : decode cX2_goingOfPlace 5 = .ok (.lload_n 3, 1) := by decide +kernel
theorem dX2_goingOfPlace_6 : decode cX2_goingOfPlace 6 = .ok (.lconst 1, 1) := by decide +kernel
theorem dX2_goingOfPlace_7 : decode cX2_goingOfPlace 7 = .ok (.ladd, 1) := by decide +kernel
theorem dX2_goingOfPlace_8 : decode cX2_goingOfPlace 8 = .ok (.lreturn, 1) := by decide +kernel
theorem dX2_goingOfPlace_9 : decode cX2_goingOfPlace 9 = .ok (.lload_n 3, 1) := by decide +kernel
theorem dX2_goingOfPlace_10 : decode cX2_goingOfPlace 10 = .ok (.lconst 1, 1) := by decide +kernel
theorem dX2_goingOfPlace_11 : decode cX2_goingOfPlace 11 = .ok (.ladd, 1) := by decide +kernel
theorem dX2_goingOfPlace_12 : decode cX2_goingOfPlace 12 = .ok (.lstore 5, 2) := by decide +kernel
theorem dX2_goingOfPlace_14 : decode cX2_goingOfPlace 14 = .ok (.iconst 0, 1) := by decide +kernel
theorem dX2_goingOfPlace_15 : decode cX2_goingOfPlace 15 = .ok (.istore 7, 2) := by decide +kernel
theorem dX2_goingOfPlace_17 : decode cX2_goingOfPlace 17 = .ok (.lload 5, 2) := by decide +kernel
theorem dX2_goingOfPlace_19 : decode cX2_goingOfPlace 19 = .ok (.iload_n 2, 1) := by decide +kernel
theorem dX2_goingOfPlace_20 : decode cX2_goingOfPlace 20 = .ok (.i2l, 1) := by decide +kernel
theorem dX2_goingOfPlace_21 : decode cX2_goingOfPlace 21 = .ok (.lrem, 1) := by decide +kernel
theorem dX2_goingOfPlace_22 : decode cX2_goingOfPlace 22 = .ok (.lconst 0, 1) := by decide +kernel
theorem dX2_goingOfPlace_23 : decode cX2_goingOfPlace 23 = .ok (.lcmp, 1) := by decide +kernel
theorem dX2_goingOfPlace_24 : decode cX2_goingOfPlace 24 = .ok (.ifCond .eq 28, 3) := by decide +kernel
theorem dX2_goingOfPlace_27 : decode cX2_goingOfPlace 27 = .ok (.iload 7, 2) := by decide +kernel
theorem dX2_goingOfPlace_29 : decode cX2_goingOfPlace 29 = .ok (.ldc 163, 2) := by decide +kernel
theorem dX2_goingOfPlace_31 : decode cX2_goingOfPlace 31 = .ok (.if_icmp .ge 21, 3) := by decide +kernel
theorem dX2_goingOfPlace_34 : decode cX2_goingOfPlace 34 = .ok (.lload_n 0, 1) := by decide +kernel
theorem dX2_goingOfPlace_35 : decode cX2_goingOfPlace 35 = .ok (.lload 5, 2) := by decide +kernel
theorem dX2_goingOfPlace_37 : decode cX2_goingOfPlace 37 = .ok (.ladd, 1) := by decide +kernel
theorem dX2_goingOfPlace_38 : decode cX2_goingOfPlace 38 = .ok (.lload 5, 2) := by decide +kernel
theorem dX2_goingOfPlace_40 : decode cX2_goingOfPlace 40 = .ok (.iload_n 2, 1) := by decide +kernel
theorem dX2_goingOfPlace_41 : decode cX2_goingOfPlace 41 = .ok (.i2l, 1) := by decide +kernel
theorem dX2_goingOfPlace_42 : decode cX2_goingOfPlace 42 = .ok (.ldiv, 1) := by decide +kernel
theorem dX2_goingOfPlace_43 : decode cX2_goingOfPlace 43 = .ok (.lsub, 1) := by decide +kernel
theorem dX2_goingOfPlace_44 : decode cX2_goingOfPlace 44 = .ok (.lstore 5, 2) := by decide +kernel
theorem dX2_goingOfPlace_46 : decode cX2_goingOfPlace 46 = .ok (.iinc 7 1, 3) := by decide +kernel
theorem dX2_goingOfPlace_49 : decode cX2_goingOfPlace 49 = .ok (.goto (-32), 3) := by decide +kernel
theorem dX2_goingOfPlace_52 : decode cX2_goingOfPlace 52 = .ok (.lload 5, 2) := by decide +kernel
theorem dX2_goingOfPlace_54 : decode cX2_goingOfPlace 54 = .ok (.iload_n 2, 1) := by decide +kernel
theorem dX2_goingOfPlace_55 : decode cX2_goingOfPlace 55 = .ok (.i2l, 1) := by decide +kernel
theorem dX2_goingOfPlace_56 : decode cX2_goingOfPlace 56 = .ok (.ldiv, 1) := by decide +kernel
theorem dX2_goingOfPlace_57 : decode cX2_goingOfPlace 57 = .ok (.lreturn, 1) := by decide +kernel
set_option maxRecDepth 20000 in
theorem ggX2_goesFirst_X2_withoutBit : GoodIn wsX2_goesFirst wsX2_withoutBit := goodIn_r _ [4] (by decide +kernel) (by decide +kernel)
set_option maxRecDepth 20000 in
theorem gX2_goesFirst_X2_withoutBit : GoodIn wsX2_goesFirst (va_wsS RX2 164 yX2_withoutBit wsX2_withoutBit) := goodIn_app (goodIn_of _ (by decide +kernel)) ggX2_goesFirst_X2_withoutBit
theorem dX2_goesFirst_0 : decode cX2_goesFirst 0 = .ok (.iload_n 1, 1) := by decide +kernel
theorem dX2_goesFirst_1 : decode cX2_goesFirst 1 = .ok (.istore_n 3, 1) := by decide +kernel
theorem dX2_goesFirst_2 : decode cX2_goesFirst 2 = .ok (.iconst 0, 1) := by decide +kernel
theorem dX2_goesFirst_3 : decode cX2_goesFirst 3 = .ok (.istore 4, 2) := by decide +kernel
theorem dX2_goesFirst_5 : decode cX2_goesFirst 5 = .ok (.iload_n 0, 1) := by decide +kernel
theorem dX2_goesFirst_6 : decode cX2_goesFirst 6 = .ok (.istore 5, 2) := by decide +kernel
theorem dX2_goesFirst_8 : decode cX2_goesFirst 8 = .ok (.iload 5, 2) := by decide +kernel
theorem dX2_goesFirst_10 : decode cX2_goesFirst 10 = .ok (.ifCond .le 42, 3) := by decide +kernel
theorem dX2_goesFirst_13 : decode cX2_goesFirst 13 = .ok (.iload_n 3, 1) := by decide +kernel
theorem dX2_goesFirst_14 : decode cX2_goesFirst 14 = .ok (.ifCond .eq 38, 3) := by decide +kernel
theorem dX2_goesFirst_17 : decode cX2_goesFirst 17 = .ok (.iload 4, 2) := by decide +kernel
theorem dX2_goesFirst_19 : decode cX2_goesFirst 19 = .ok (.iload_n 2, 1) := by decide +kernel
theorem dX2_goesFirst_20 : decode cX2_goesFirst 20 = .ok (.iadd, 1) := by decide +kernel
theorem dX2_goesFirst_21 : decode cX2_goesFirst 21 = .ok (.iconst 1, 1) := by decide +kernel
theorem dX2_goesFirst_22 : decode cX2_goesFirst 22 = .ok (.isub, 1) := by decide +kernel
theorem dX2_goesFirst_23 : decode cX2_goesFirst 23 = .ok (.iload 5, 2) := by decide +kernel
theorem dX2_goesFirst_25 : decode cX2_goesFirst 25 = .ok (.irem, 1) := by decide +kernel
theorem dX2_goesFirst_26 : decode cX2_goesFirst 26 = .ok (.istore 4, 2) := by decide +kernel
theorem dX2_goesFirst_28 : decode cX2_goesFirst 28 = .ok (.iload_n 3, 1) := by decide +kernel
theorem dX2_goesFirst_29 : decode cX2_goesFirst 29 = .ok (.iload 4, 2) := by decide +kernel
theorem dX2_goesFirst_31 : decode cX2_goesFirst 31 = .ok (.ishr, 1) := by decide +kernel
theorem dX2_goesFirst_32 : decode cX2_goesFirst 32 = .ok (.iconst 1, 1) := by decide +kernel
theorem dX2_goesFirst_33 : decode cX2_goesFirst 33 = .ok (.iand, 1) := by decide +kernel
theorem dX2_goesFirst_34 : decode cX2_goesFirst 34 = .ok (.ifCond .ne 5, 3) := by decide +kernel
theorem dX2_goesFirst_37 : decode cX2_goesFirst 37 = .ok (.iconst 0, 1) := by decide +kernel
theorem dX2_goesFirst_38 : decode cX2_goesFirst 38 = .ok (.ireturn, 1) := by decide +kernel
theorem dX2_goesFirst_39 : decode cX2_goesFirst 39 = .ok (.iload_n 3, 1) := by decide +kernel
theorem dX2_goesFirst_40 : decode cX2_goesFirst 40 = .ok (.iload 4, 2) := by decide +kernel
theorem dX2_goesFirst_42 : decode cX2_goesFirst 42 = .ok (.invokestatic 164, 3) := by decide +kernel
theorem dX2_goesFirst_45 : decode cX2_goesFirst 45 = .ok (.istore_n 3, 1) := by decide +kernel
theorem dX2_goesFirst_46 : decode cX2_goesFirst 46 = .ok (.iinc 5 (-1), 3) := by decide +kernel
theorem dX2_goesFirst_49 : decode cX2_goesFirst 49 = .ok (.goto (-41), 3) := by decide +kernel
theorem dX2_goesFirst_52 : decode cX2_goesFirst 52 = .ok (.iconst 1, 1) := by decide +kernel
theorem dX2_goesFirst_53 : decode cX2_goesFirst 53 = .ok (.ireturn, 1) := by decide +kernel
theorem dX2_withoutBit_0 : decode cX2_withoutBit 0 = .ok (.iconst 1, 1) := by decide +kernel
theorem dX2_withoutBit_1 : decode cX2_withoutBit 1 = .ok (.iload_n 1, 1) := by decide +kernel
theorem dX2_withoutBit_2 : decode cX2_withoutBit 2 = .ok (.ishl, 1) := by decide +kernel
theorem dX2_withoutBit_3 : decode cX2_withoutBit 3 = .ok (.iconst 1, 1) := by decide +kernel
theorem dX2_withoutBit_4 : decode cX2_withoutBit 4 = .ok (.isub, 1) := by decide +kernel
theorem dX2_withoutBit_5 : decode cX2_withoutBit 5 = .ok (.istore_n 2, 1) := by decide +kernel
theorem dX2_withoutBit_6 : decode cX2_withoutBit 6 = .ok (.iload_n 0, 1) := by decide +kernel
theorem dX2_withoutBit_7 : decode cX2_withoutBit 7 = .ok (.iload_n 2, 1) := by decide +kernel
theorem dX2_withoutBit_8 : decode cX2_withoutBit 8 = .ok (.iand, 1) := by decide +kernel
theorem dX2_withoutBit_9 : decode cX2_withoutBit 9 = .ok (.iload_n 0, 1) := by decide +kernel
theorem dX2_withoutBit_10 : decode cX2_withoutBit 10 = .ok (.iconst 1, 1) := by decide +kernel
theorem dX2_withoutBit_11 : decode cX2_withoutBit 11 = .ok (.ishr, 1) := by decide +kernel
theorem dX2_withoutBit_12 : decode cX2_withoutBit 12 = .ok (.iload_n 2, 1) := by decide +kernel
theorem dX2_withoutBit_13 : decode cX2_withoutBit 13 = .ok (.iconst (-1), 1) := by decide +kernel
theorem dX2_withoutBit_14 : decode cX2_withoutBit 14 = .ok (.ixor, 1) := by decide +kernel
theorem dX2_withoutBit_15 : decode cX2_withoutBit 15 = .ok (.iand, 1) := by decide +kernel
theorem dX2_withoutBit_16 : decode cX2_withoutBit 16 = .ok (.ior, 1) := by decide +kernel
theorem dX2_withoutBit_17 : decode cX2_withoutBit 17 = .ok (.ireturn, 1) := by decide +kernel
set_option maxRecDepth 20000 in
theorem ggX2_stayingBySome_X2_isChosen : GoodIn wsX2_stayingBySome wsX2_isChosen := goodIn_r _ [4] (by decide +kernel) (by decide +kernel)
set_option maxRecDepth 20000 in
theorem gX2_stayingBySome_X2_isChosen : GoodIn wsX2_stayingBySome (va_wsS RX2 167 yX2_isChosen wsX2_isChosen) := goodIn_app (goodIn_of _ (by decide +kernel)) ggX2_stayingBySome_X2_isChosen
set_option maxRecDepth 20000 in
theorem ggX2_stayingBySome_X2_stayingBehind : GoodIn wsX2_stayingBySome wsX2_stayingBehind := goodIn_r _ [7] (by decide +kernel) (by decide +kernel)
set_option maxRecDepth 20000 in
theorem gX2_stayingBySome_X2_stayingBehind : GoodIn wsX2_stayingBySome (va_wsS RX2 170 yX2_stayingBehind wsX2_stayingBehind) := goodIn_app (goodIn_of _ (by decide +kernel)) ggX2_stayingBySome_X2_stayingBehind
theorem dX2_stayingBySome_0 : decode cX2_stayingBySome 0 = .ok (.iconst 0, 1) := by decide +kernel
theorem dX2_stayingBySome_1 : decode cX2_stayingBySome 1 = .ok (.istore_n 3, 1) := by decide +kernel
theorem dX2_stayingBySome_2 : decode cX2_stayingBySome 2 = .ok (.iconst 1, 1) := by decide +kernel
theorem dX2_stayingBySome_3 : decode cX2_stayingBySome 3 = .ok (.istore 4, 2) := by decide +kernel
theorem dX2_stayingBySome_5 : decode cX2_stayingBySome 5 = .ok (.iload 4, 2) := by decide +kernel
theorem dX2_stayingBySome_7 : decode cX2_stayingBySome 7 = .ok (.bipush 6, 2) := by decide +kernel
theorem dX2_stayingBySome_9 : decode cX2_stayingBySome 9 = .ok (.if_icmp .gt 28, 3) := by decide +kernel
theorem dX2_stayingBySome_12 : decode cX2_stayingBySome 12 = .ok (.iload_n 1, 1) := by decide +kernel
theorem dX2_stayingBySome_13 : decode cX2_stayingBySome 13 = .ok (.iload 4, 2) := by decide +kernel
theorem dX2_stayingBySome_15 : decode cX2_stayingBySome 15 = .ok (.invokestatic 167, 3) := by decide +kernel
theorem dX2_stayingBySome_18 : decode cX2_stayingBySome 18 = .ok (.ifCond .eq 13, 3) := by decide +kernel
theorem dX2_stayingBySome_21 : decode cX2_stayingBySome 21 = .ok (.iload_n 3, 1) := by decide +kernel
theorem dX2_stayingBySome_22 : decode cX2_stayingBySome 22 = .ok (.iload_n 0, 1) := by decide +kernel
theorem dX2_stayingBySome_23 : decode cX2_stayingBySome 23 = .ok (.iload 4, 2) := by decide +kernel
theorem dX2_stayingBySome_25 : decode cX2_stayingBySome 25 = .ok (.iload_n 2, 1) := by decide +kernel
theorem dX2_stayingBySome_26 : decode cX2_stayingBySome 26 = .ok (.invokestatic 170, 3) := by decide +kernel
theorem dX2_stayingBySome_29 : decode cX2_stayingBySome 29 = .ok (.ior, 1) := by decide +kernel
theorem dX2_stayingBySome_30 : decode cX2_stayingBySome 30 = .ok (.istore_n 3, 1) := by decide +kernel
theorem dX2_stayingBySome_31 : decode cX2_stayingBySome 31 = .ok (.iinc 4 1, 3) := by decide +kernel
theorem dX2_stayingBySome_34 : decode cX2_stayingBySome 34 = .ok (.goto (-29), 3) := by decide +kernel
theorem dX2_stayingBySome_37 : decode cX2_stayingBySome 37 = .ok (.iload_n 3, 1) := by decide +kernel
theorem dX2_stayingBySome_38 : decode cX2_stayingBySome 38 = .ok (.ireturn, 1) := by decide +kernel
set_option maxRecDepth 20000 in
theorem ggX2_stayingByAll_X2_isChosen : GoodIn wsX2_stayingByAll wsX2_isChosen := goodIn_r _ [4] (by decide +kernel) (by decide +kernel)
set_option maxRecDepth 20000 in
theorem gX2_stayingByAll_X2_isChosen : GoodIn wsX2_stayingByAll (va_wsS RX2 167 yX2_isChosen wsX2_isChosen) := goodIn_app (goodIn_of _ (by decide +kernel)) ggX2_stayingByAll_X2_isChosen
set_option maxRecDepth 20000 in
theorem ggX2_stayingByAll_X2_stayingBehind : GoodIn wsX2_stayingByAll wsX2_stayingBehind := goodIn_r _ [7] (by decide +kernel) (by decide +kernel)
set_option maxRecDepth 20000 in
theorem gX2_stayingByAll_X2_stayingBehind : GoodIn wsX2_stayingByAll (va_wsS RX2 170 yX2_stayingBehind wsX2_stayingBehind) := goodIn_app (goodIn_of _ (by decide +kernel)) ggX2_stayingByAll_X2_stayingBehind
theorem dX2_stayingByAll_0 : decode cX2_stayingByAll 0 = .ok (.iconst 1, 1) := by decide +kernel
theorem dX2_stayingByAll_1 : decode cX2_stayingByAll 1 = .ok (.iload_n 0, 1) := by decide +kernel
theorem dX2_stayingByAll_2 : decode cX2_stayingByAll 2 = .ok (.ishl, 1) := by decide +kernel
theorem dX2_stayingByAll_3 : decode cX2_stayingByAll 3 = .ok (.iconst 1, 1) := by decide +kernel
theorem dX2_stayingByAll_4 : decode cX2_stayingByAll 4 = .ok (.isub, 1) := by decide +kernel
theorem dX2_stayingByAll_5 : decode cX2_stayingByAll 5 = .ok (.istore_n 3, 1) := by decide +kernel
theorem dX2_stayingByAll_6 : decode cX2_stayingByAll 6 = .ok (.iconst 1, 1) := by decide +kernel
theorem dX2_stayingByAll_7 : decode cX2_stayingByAll 7 = .ok (.istore 4, 2) := by decide +kernel
theorem dX2_stayingByAll_9 : decode cX2_stayingByAll 9 = .ok (.iload 4, 2) := by decide +kernel
theorem dX2_stayingByAll_11 : decode cX2_stayingByAll 11 = .ok (.bipush 6, 2) := by decide +kernel
theorem dX2_stayingByAll_13 : decode cX2_stayingByAll 13 = .ok (.if_icmp .gt 28, 3) := by decide +kernel
theorem dX2_stayingByAll_16 : decode cX2_stayingByAll 16 = .ok (.iload_n 1, 1) := by decide +kernel
theorem dX2_stayingByAll_17 : decode cX2_stayingByAll 17 = .ok (.iload 4, 2) := by decide +kernel
theorem dX2_stayingByAll_19 : decode cX2_stayingByAll 19 = .ok (.invokestatic 167, 3) := by decide +kernel
theorem dX2_stayingByAll_22 : decode cX2_stayingByAll 22 = .ok (.ifCond .eq 13, 3) := by decide +kernel
theorem dX2_stayingByAll_25 : decode cX2_stayingByAll 25 = .ok (.iload_n 3, 1) := by decide +kernel
theorem dX2_stayingByAll_26 : decode cX2_stayingByAll 26 = .ok (.iload_n 0, 1) := by decide +kernel
theorem dX2_stayingByAll_27 : decode cX2_stayingByAll 27 = .ok (.iload 4, 2) := by decide +kernel
theorem dX2_stayingByAll_29 : decode cX2_stayingByAll 29 = .ok (.iload_n 2, 1) := by decide +kernel
theorem dX2_stayingByAll_30 : decode cX2_stayingByAll 30 = .ok (.invokestatic 170, 3) := by decide +kernel
theorem dX2_stayingByAll_33 : decode cX2_stayingByAll 33 = .ok (.iand, 1) := by decide +kernel
theorem dX2_stayingByAll_34 : decode cX2_stayingByAll 34 = .ok (.istore_n 3, 1) := by decide +kernel
theorem dX2_stayingByAll_35 : decode cX2_stayingByAll 35 = .ok (.iinc 4 1, 3) := by decide +kernel
theorem dX2_stayingByAll_38 : decode cX2_stayingByAll 38 = .ok (.goto (-29), 3) := by decide +kernel
theorem dX2_stayingByAll_41 : decode cX2_stayingByAll 41 = .ok (.iload_n 3, 1) := by decide +kernel
theorem dX2_stayingByAll_42 : decode cX2_stayingByAll 42 = .ok (.ireturn, 1) := by decide +kernel
theorem dX2_isChosen_0 : decode cX2_isChosen 0 = .ok (.iload_n 0, 1) := by decide +kernel
theorem dX2_isChosen_1 : decode cX2_isChosen 1 = .ok (.iload_n 1, 1) := by decide +kernel
theorem dX2_isChosen_2 : decode cX2_isChosen 2 = .ok (.iconst 1, 1) := by decide +kernel
theorem dX2_isChosen_3 : decode cX2_isChosen 3 = .ok (.isub, 1) := by decide +kernel
theorem dX2_isChosen_4 : decode cX2_isChosen 4 = .ok (.ishr, 1) := by decide +kernel
theorem dX2_isChosen_5 : decode cX2_isChosen 5 = .ok (.iconst 1, 1) := by decide +kernel
theorem dX2_isChosen_6 : decode cX2_isChosen 6 = .ok (.iand, 1) := by decide +kernel
theorem dX2_isChosen_7 : decode cX2_isChosen 7 = .ok (.iconst 1, 1) := by decide +kernel
theorem dX2_isChosen_8 : decode cX2_isChosen 8 = .ok (.if_icmp .ne 7, 3) := by decide +kernel
theorem dX2_isChosen_11 : decode cX2_isChosen 11 = .ok (.iconst 1, 1) := by decide +kernel
theorem dX2_isChosen_12 : decode cX2_isChosen 12 = .ok (.goto 4, 3) := by decide +kernel
theorem dX2_isChosen_15 : decode cX2_isChosen 15 = .ok (.iconst 0, 1) := by decide +kernel
theorem dX2_isChosen_16 : decode cX2_isChosen 16 = .ok (.ireturn, 1) := by decide +kernel
theorem dX2_stayingBehind_0 : decode cX2_stayingBehind 0 = .ok (.iload_n 0, 1) := by decide +kernel
theorem dX2_stayingBehind_1 : decode cX2_stayingBehind 1 = .ok (.iconst 1, 1) := by decide +kernel
theorem dX2_stayingBehind_2 : decode cX2_stayingBehind 2 = .ok (.if_icmp .ge 5, 3) := by decide +kernel
theorem dX2_stayingBehind_5 : decode cX2_stayingBehind 5 = .ok (.iconst 0, 1) := by decide +kernel
theorem dX2_stayingBehind_6 : decode cX2_stayingBehind 6 = .ok (.ireturn, 1) := by decide +kernel
theorem dX2_stayingBehind_7 : decode cX2_stayingBehind 7 = .ok (.iload_n 1, 1) := by decide +kernel
theorem dX2_stayingBehind_8 : decode cX2_stayingBehind 8 = .ok (.iload_n 0, 1) := by decide +kernel
theorem dX2_stayingBehind_9 : decode cX2_stayingBehind 9 = .ok (.irem, 1) := by decide +kernel
theorem dX2_stayingBehind_10 : decode cX2_stayingBehind 10 = .ok (.istore_n 3, 1) := by decide +kernel
theorem dX2_stayingBehind_11 : decode cX2_stayingBehind 11 = .ok (.iload_n 2, 1) := by decide +kernel
theorem dX2_stayingBehind_12 : decode cX2_stayingBehind 12 = .ok (.iload_n 3, 1) := by decide +kernel
theorem dX2_stayingBehind_13 : decode cX2_stayingBehind 13 = .ok (.ishl, 1) := by decide +kernel
theorem dX2_stayingBehind_14 : decode cX2_stayingBehind 14 = .ok (.istore 4, 2) := by decide +kernel
theorem dX2_stayingBehind_16 : decode cX2_stayingBehind 16 = .ok (.iload 4, 2) := by decide +kernel
theorem dX2_stayingBehind_18 : decode cX2_stayingBehind 18 = .ok (.iload 4, 2) := by decide +kernel
theorem dX2_stayingBehind_20 : decode cX2_stayingBehind 20 = .ok (.iload_n 0, 1) := by decide +kernel
theorem dX2_stayingBehind_21 : decode cX2_stayingBehind 21 = .ok (.ishr, 1) := by decide +kernel
theorem dX2_stayingBehind_22 : decode cX2_stayingBehind 22 = .ok (.ior, 1) := by decide +kernel
theorem dX2_stayingBehind_23 : decode cX2_stayingBehind 23 = .ok (.iconst 1, 1) := by decide +kernel
theorem dX2_stayingBehind_24 : decode cX2_stayingBehind 24 = .ok (.iload_n 0, 1) := by decide +kernel
theorem dX2_stayingBehind_25 : decode cX2_stayingBehind 25 = .ok (.ishl, 1) := by decide +kernel
theorem dX2_stayingBehind_26 : decode cX2_stayingBehind 26 = .ok (.iconst 1, 1) := by decide +kernel
theorem dX2_stayingBehind_27 : decode cX2_stayingBehind 27 = .ok (.isub, 1) := by decide +kernel
theorem dX2_stayingBehind_28 : decode cX2_stayingBehind 28 = .ok (.iand, 1) := by decide +kernel
theorem dX2_stayingBehind_29 : decode cX2_stayingBehind 29 = .ok (.ireturn, 1) := by decide +kernel
set_option maxRecDepth 20000 in
theorem ggX3_init_X3_begins : GoodIn wsX3_init wsX3_begins := goodIn_r _ [21, 4, 22, 23, 6, 7, 8, 24, 25, 26, 27, 28, 29, 30, 31, 32, 33, 34, 35, 36, 37, 38, 39, 40] (by decide +kernel) (by decide +kernel)
set_option maxRecDepth 20000 in
theorem gX3_init_X3_begins : GoodIn wsX3_init (wsV RX3 47 RX3 yX3_begins wsX3_begins) := goodIn_app (goodIn_of _ (by decide +kernel)) ggX3_init_X3_begins
