theorem dX0_init_0 : decode cX0_init 0 = .ok (.aload_n 0, 1) := by decide +kernel
theorem dX0_init_1 : decode cX0_init 1 = .ok (.invokespecial 3, 3) := by decide +kernel
theorem dX0_init_4 : decode cX0_init 4 = .ok (.aload_n 0, 1) := by decide +kernel
theorem dX0_init_5 : decode cX0_init 5 = .ok (.bipush 60, 2) := by decide +kernel
theorem dX0_init_7 : decode cX0_init 7 = .ok (.newarray .int, 2) := by decide +kernel
theorem dX0_init_9 : decode cX0_init 9 = .ok (.putfield 9, 3) := by decide +kernel
theorem dX0_init_12 : decode cX0_init 12 = .ok (.return_, 1) := by decide +kernel
theorem dX0_begin_0 : decode cX0_begin 0 = .ok (.iconst 2, 1) := by decide +kernel
theorem dX0_begin_1 : decode cX0_begin 1 = .ok (.iload_n 1, 1) := by decide +kernel
theorem dX0_begin_2 : decode cX0_begin 2 = .ok (.imul, 1) := by decide +kernel
theorem dX0_begin_3 : decode cX0_begin 3 = .ok (.iload_n 2, 1) := by decide +kernel
theorem dX0_begin_4 : decode cX0_begin 4 = .ok (.iadd, 1) := by decide +kernel
theorem dX0_begin_5 : decode cX0_begin 5 = .ok (.istore 4, 2) := by decide +kernel
theorem dX0_begin_7 : decode cX0_begin 7 = .ok (.aload_n 0, 1) := by decide +kernel
theorem dX0_begin_8 : decode cX0_begin 8 = .ok (.getfield 9, 3) := by decide +kernel
theorem dX0_begin_11 : decode cX0_begin 11 = .ok (.iload 4, 2) := by decide +kernel
theorem dX0_begin_13 : decode cX0_begin 13 = .ok (.iaload, 1) := by decide +kernel
theorem dX0_begin_14 : decode cX0_begin 14 = .ok (.ifCond .eq 5, 3) := by decide +kernel
theorem dX0_begin_17 : decode cX0_begin 17 = .ok (.iconst 0, 1) := by decide +kernel
theorem dX0_begin_18 : decode cX0_begin 18 = .ok (.ireturn, 1) := by decide +kernel
theorem dX0_begin_19 : decode cX0_begin 19 = .ok (.aload_n 0, 1) := by decide +kernel
theorem dX0_begin_20 : decode cX0_begin 20 = .ok (.getfield 9, 3) := by decide +kernel
theorem dX0_begin_23 : decode cX0_begin 23 = .ok (.iload 4, 2) := by decide +kernel
theorem dX0_begin_25 : decode cX0_begin 25 = .ok (.iload_n 3, 1) := by decide +kernel
theorem dX0_begin_26 : decode cX0_begin 26 = .ok (.iastore, 1) := by decide +kernel
theorem dX0_begin_27 : decode cX0_begin 27 = .ok (.iconst 1, 1) := by decide +kernel
theorem dX0_begin_28 : decode cX0_begin 28 = .ok (.ireturn, 1) := by decide +kernel
theorem dX0_end_0 : decode cX0_end 0 = .ok (.aload_n 0, 1) := by decide +kernel
theorem dX0_end_1 : decode cX0_end 1 = .ok (.getfield 9, 3) := by decide +kernel
theorem dX0_end_4 : decode cX0_end 4 = .ok (.iconst 2, 1) := by decide +kernel
theorem dX0_end_5 : decode cX0_end 5 = .ok (.iload_n 1, 1) := by decide +kernel
theorem dX0_end_6 : decode cX0_end 6 = .ok (.imul, 1) := by decide +kernel
theorem dX0_end_7 : decode cX0_end 7 = .ok (.iconst 0, 1) := by decide +kernel
theorem dX0_end_8 : decode cX0_end 8 = .ok (.iadd, 1) := by decide +kernel
theorem dX0_end_9 : decode cX0_end 9 = .ok (.iconst 0, 1) := by decide +kernel
theorem dX0_end_10 : decode cX0_end 10 = .ok (.iastore, 1) := by decide +kernel
theorem dX0_end_11 : decode cX0_end 11 = .ok (.aload_n 0, 1) := by decide +kernel
theorem dX0_end_12 : decode cX0_end 12 = .ok (.getfield 9, 3) := by decide +kernel
theorem dX0_end_15 : decode cX0_end 15 = .ok (.iconst 2, 1) := by decide +kernel
theorem dX0_end_16 : decode cX0_end 16 = .ok (.iload_n 1, 1) := by decide +kernel
theorem dX0_end_17 : decode cX0_end 17 = .ok (.imul, 1) := by decide +kernel
theorem dX0_end_18 : decode cX0_end 18 = .ok (.iconst 1, 1) := by decide +kernel
theorem dX0_end_19 : decode cX0_end 19 = .ok (.iadd, 1) := by decide +kernel
theorem dX0_end_20 : decode cX0_end 20 = .ok (.iconst 0, 1) := by decide +kernel
theorem dX0_end_21 : decode cX0_end 21 = .ok (.iastore, 1) := by decide +kernel
theorem dX0_end_22 : decode cX0_end 22 = .ok (.return_, 1) := by decide +kernel
set_option maxRecDepth 20000 in
theorem ggX0_lastingAt_X0_countAhead : GoodIn wsX0_lastingAt wsX0_countAhead := goodIn_r _ [6, 1, 7, 8, 9, 5, 10, 11] (by decide +kernel) (by decide +kernel)
set_option maxRecDepth 20000 in
theorem gX0_lastingAt_X0_countAhead : GoodIn wsX0_lastingAt (wsV RX0 15 RX0 yX0_countAhead wsX0_countAhead) := goodIn_app (goodIn_of _ (by decide +kernel)) ggX0_lastingAt_X0_countAhead
theorem dX0_lastingAt_0 : decode cX0_lastingAt 0 = .ok (.iconst 0, 1) := by decide +kernel
theorem dX0_lastingAt_1 : decode cX0_lastingAt 1 = .ok (.istore_n 2, 1) := by decide +kernel
theorem dX0_lastingAt_2 : decode cX0_lastingAt 2 = .ok (.iload_n 2, 1) := by decide +kernel
theorem dX0_lastingAt_3 : decode cX0_lastingAt 3 = .ok (.aload_n 0, 1) := by decide +kernel
theorem dX0_lastingAt_4 : decode cX0_lastingAt 4 = .ok (.getfield 9, 3) := by decide +kernel
theorem dX0_lastingAt_7 : decode cX0_lastingAt 7 = .ok (.arraylength, 1) := by decide +kernel
theorem dX0_lastingAt_8 : decode cX0_lastingAt 8 = .ok (.if_icmp .ge 29, 3) := by decide +kernel
theorem dX0_lastingAt_11 : decode cX0_lastingAt 11 = .ok (.aload_n 0, 1) := by decide +kernel
theorem dX0_lastingAt_12 : decode cX0_lastingAt 12 = .ok (.getfield 9, 3) := by decide +kernel
theorem dX0_lastingAt_15 : decode cX0_lastingAt 15 = .ok (.iload_n 2, 1) := by decide +kernel
theorem dX0_lastingAt_16 : decode cX0_lastingAt 16 = .ok (.iaload, 1) := by decide +kernel
theorem dX0_lastingAt_17 : decode cX0_lastingAt 17 = .ok (.ifCond .eq 14, 3) := by decide +kernel
theorem dX0_lastingAt_20 : decode cX0_lastingAt 20 = .ok (.aload_n 0, 1) := by decide +kernel
theorem dX0_lastingAt_21 : decode cX0_lastingAt 21 = .ok (.iload_n 2, 1) := by decide +kernel
theorem dX0_lastingAt_22 : decode cX0_lastingAt 22 = .ok (.invokevirtual 15, 3) := by decide +kernel
theorem dX0_lastingAt_25 : decode cX0_lastingAt 25 = .ok (.iload_n 1, 1) := by decide +kernel
theorem dX0_lastingAt_26 : decode cX0_lastingAt 26 = .ok (.if_icmp .ne 5, 3) := by decide +kernel
theorem dX0_lastingAt_29 : decode cX0_lastingAt 29 = .ok (.iload_n 2, 1) := by decide +kernel
theorem dX0_lastingAt_30 : decode cX0_lastingAt 30 = .ok (.ireturn, 1) := by decide +kernel
theorem dX0_lastingAt_31 : decode cX0_lastingAt 31 = .ok (.iinc 2 1, 3) := by decide +kernel
theorem dX0_lastingAt_34 : decode cX0_lastingAt 34 = .ok (.goto (-32), 3) := by decide +kernel
theorem dX0_lastingAt_37 : decode cX0_lastingAt 37 = .ok (.iconst (-1), 1) := by decide +kernel
theorem dX0_lastingAt_38 : decode cX0_lastingAt 38 = .ok (.ireturn, 1) := by decide +kernel
set_option maxRecDepth 20000 in
theorem ggX0_countAhead_X0_isAhead : GoodIn wsX0_countAhead wsX0_isAhead := goodIn_r _ [6, 1, 7] (by decide +kernel) (by decide +kernel)
set_option maxRecDepth 20000 in
theorem gX0_countAhead_X0_isAhead : GoodIn wsX0_countAhead (wsV RX0 19 RX0 yX0_isAhead wsX0_isAhead) := goodIn_app (goodIn_of _ (by decide +kernel)) ggX0_countAhead_X0_isAhead
theorem dX0_countAhead_0 : decode cX0_countAhead 0 = .ok (.iconst 0, 1) := by decide +kernel
theorem dX0_countAhead_1 : decode cX0_countAhead 1 = .ok (.istore_n 2, 1) := by decide +kernel
theorem dX0_countAhead_2 : decode cX0_countAhead 2 = .ok (.iconst 0, 1) := by decide +kernel
theorem dX0_countAhead_3 : decode cX0_countAhead 3 = .ok (.istore_n 3, 1) := by decide +kernel
theorem dX0_countAhead_4 : decode cX0_countAhead 4 = .ok (.iload_n 3, 1) := by decide +kernel
theorem dX0_countAhead_5 : decode cX0_countAhead 5 = .ok (.aload_n 0, 1) := by decide +kernel
theorem dX0_countAhead_6 : decode cX0_countAhead 6 = .ok (.getfield 9, 3) := by decide +kernel
theorem dX0_countAhead_9 : decode cX0_countAhead 9 = .ok (.arraylength, 1) := by decide +kernel
theorem dX0_countAhead_10 : decode cX0_countAhead 10 = .ok (.if_icmp .ge 30, 3) := by decide +kernel
theorem dX0_countAhead_13 : decode cX0_countAhead 13 = .ok (.aload_n 0, 1) := by decide +kernel
theorem dX0_countAhead_14 : decode cX0_countAhead 14 = .ok (.getfield 9, 3) := by decide +kernel
theorem dX0_countAhead_17 : decode cX0_countAhead 17 = .ok (.iload_n 3, 1) := by decide +kernel
theorem dX0_countAhead_18 : decode cX0_countAhead 18 = .ok (.iaload, 1) := by decide +kernel
theorem dX0_countAhead_19 : decode cX0_countAhead 19 = .ok (.ifCond .eq 15, 3) := by decide +kernel
theorem dX0_countAhead_22 : decode cX0_countAhead 22 = .ok (.aload_n 0, 1) := by decide +kernel
theorem dX0_countAhead_23 : decode cX0_countAhead 23 = .ok (.iload_n 3, 1) := by decide +kernel
theorem dX0_countAhead_24 : decode cX0_countAhead 24 = .ok (.iload_n 1, 1) := by decide +kernel
theorem dX0_countAhead_25 : decode cX0_countAhead 25 = .ok (.invokevirtual 19, 3) := by decide +kernel
theorem dX0_countAhead_28 : decode cX0_countAhead 28 = .ok (.ifCond .eq 6, 3) := by decide +kernel
theorem dX0_countAhead_31 : decode cX0_countAhead 31 = .ok (.iinc 2 1, 3) := by decide +kernel
theorem dX0_countAhead_34 : decode cX0_countAhead 34 = .ok (.iinc 3 1, 3) := by decide +kernel
theorem dX0_countAhead_37 : decode cX0_countAhead 37 = .ok (.goto (-33), 3) := by decide +kernel
theorem dX0_countAhead_40 : decode cX0_countAhead 40 = .ok (.iload_n 2, 1) := by decide +kernel
theorem dX0_countAhead_41 : decode cX0_countAhead 41 = .ok (.ireturn, 1) := by decide +kernel
theorem dX0_isAhead_0 : decode cX0_isAhead 0 = .ok (.aload_n 0, 1) := by decide +kernel
theorem dX0_isAhead_1 : decode cX0_isAhead 1 = .ok (.getfield 9, 3) := by decide +kernel
theorem dX0_isAhead_4 : decode cX0_isAhead 4 = .ok (.iload_n 1, 1) := by decide +kernel
theorem dX0_isAhead_5 : decode cX0_isAhead 5 = .ok (.iaload, 1) := by decide +kernel
theorem dX0_isAhead_6 : decode cX0_isAhead 6 = .ok (.aload_n 0, 1) := by decide +kernel
theorem dX0_isAhead_7 : decode cX0_isAhead 7 = .ok (.getfield 9, 3) := by decide +kernel
theorem dX0_isAhead_10 : decode cX0_isAhead 10 = .ok (.iload_n 2, 1) := by decide +kernel
theorem dX0_isAhead_11 : decode cX0_isAhead 11 = .ok (.iaload, 1) := by decide +kernel
theorem dX0_isAhead_12 : decode cX0_isAhead 12 = .ok (.if_icmp .lt 23, 3) := by decide +kernel
theorem dX0_isAhead_15 : decode cX0_isAhead 15 = .ok (.aload_n 0, 1) := by decide +kernel
theorem dX0_isAhead_16 : decode cX0_isAhead 16 = .ok (.getfield 9, 3) := by decide +kernel
theorem dX0_isAhead_19 : decode cX0_isAhead 19 = .ok (.iload_n 1, 1) := by decide +kernel
theorem dX0_isAhead_20 : decode cX0_isAhead 20 = .ok (.iaload, 1) := by decide +kernel
theorem dX0_isAhead_21 : decode cX0_isAhead 21 = .ok (.aload_n 0, 1) := by decide +kernel
theorem dX0_isAhead_22 : decode cX0_isAhead 22 = .ok (.getfield 9, 3) := by decide +kernel
theorem dX0_isAhead_25 : decode cX0_isAhead 25 = .ok (.iload_n 2, 1) := by decide +kernel
theorem dX0_isAhead_26 : decode cX0_isAhead 26 = .ok (.iaload, 1) := by decide +kernel
theorem dX0_isAhead_27 : decode cX0_isAhead 27 = .ok (.if_icmp .ne 12, 3) := by decide +kernel
theorem dX0_isAhead_30 : decode cX0_isAhead 30 = .ok (.iload_n 1, 1) := by decide +kernel
theorem dX0_isAhead_31 : decode cX0_isAhead 31 = .ok (.iload_n 2, 1) := by decide +kernel
theorem dX0_isAhead_32 : decode cX0_isAhead 32 = .ok (.if_icmp .ge 7, 3) := by decide +kernel
theorem dX0_isAhead_35 : decode cX0_isAhead 35 = .ok (.iconst 1, 1) := by decide +kernel
theorem dX0_isAhead_36 : decode cX0_isAhead 36 = .ok (.goto 4, 3) := by decide +kernel
theorem dX0_isAhead_39 : decode cX0_isAhead 39 = .ok (.iconst 0, 1) := by decide +kernel
theorem dX0_isAhead_40 : decode cX0_isAhead 40 = .ok (.ireturn, 1) := by decide +kernel
theorem dX1_init_0 : decode cX1_init 0 = .ok (.aload_n 0, 1) := by decide +kernel
theorem dX1_init_1 : decode cX1_init 1 = .ok (.invokespecial 3, 3) := by decide +kernel
theorem dX1_init_4 : decode cX1_init 4 = .ok (.aload_n 0, 1) := by decide +kernel
theorem dX1_init_5 : decode cX1_init 5 = .ok (.bipush 40, 2) := by decide +kernel
theorem dX1_init_7 : decode cX1_init 7 = .ok (.newarray .int, 2) := by decide +kernel
theorem dX1_init_9 : decode cX1_init 9 = .ok (.putfield 9, 3) := by decide +kernel
theorem dX1_init_12 : decode cX1_init 12 = .ok (.aload_n 0, 1) := by decide +kernel
theorem dX1_init_13 : decode cX1_init 13 = .ok (.bipush 40, 2) := by decide +kernel
theorem dX1_init_15 : decode cX1_init 15 = .ok (.newarray .int, 2) := by decide +kernel
theorem dX1_init_17 : decode cX1_init 17 = .ok (.putfield 15, 3) := by decide +kernel
theorem dX1_init_20 : decode cX1_init 20 = .ok (.aload_n 0, 1) := by decide +kernel
theorem dX1_init_21 : decode cX1_init 21 = .ok (.bipush 40, 2) := by decide +kernel
theorem dX1_init_23 : decode cX1_init 23 = .ok (.newarray .int, 2) := by decide +kernel
theorem dX1_init_25 : decode cX1_init 25 = .ok (.putfield 18, 3) := by decide +kernel
theorem dX1_init_28 : decode cX1_init 28 = .ok (.aload_n 0, 1) := by decide +kernel
theorem dX1_init_29 : decode cX1_init 29 = .ok (.bipush 40, 2) := by decide +kernel
theorem dX1_init_31 : decode cX1_init 31 = .ok (.newarray .boolean, 2) := by decide +kernel
theorem dX1_init_33 : decode cX1_init 33 = .ok (.putfield 21, 3) := by decide +kernel
theorem dX1_init_36 : decode cX1_init 36 = .ok (.aload_n 0, 1) := by decide +kernel
theorem dX1_init_37 : decode cX1_init 37 = .ok (.bipush 40, 2) := by decide +kernel
theorem dX1_init_39 : decode cX1_init 39 = .ok (.newarray .double, 2) := by decide +kernel
theorem dX1_init_41 : decode cX1_init 41 = .ok (.putfield 25, 3) := by decide +kernel
theorem dX1_init_44 : decode cX1_init 44 = .ok (.aload_n 0, 1) := by decide +kernel
theorem dX1_init_45 : decode cX1_init 45 = .ok (.bipush 40, 2) := by decide +kernel
theorem dX1_init_47 : decode cX1_init 47 = .ok (.newarray .double, 2) := by decide +kernel
theorem dX1_init_49 : decode cX1_init 49 = .ok (.putfield 29, 3) := by decide +kernel
theorem dX1_init_52 : decode cX1_init 52 = .ok (.aload_n 0, 1) := by decide +kernel
theorem dX1_init_53 : decode cX1_init 53 = .ok (.iconst 0, 1) := by decide +kernel
theorem dX1_init_54 : decode cX1_init 54 = .ok (.putfield 32, 3) := by decide +kernel
theorem dX1_init_57 : decode cX1_init 57 = .ok (.return_, 1) := by decide +kernel
theorem dX1_size_0 : decode cX1_size 0 = .ok (.aload_n 0, 1) := by decide +kernel
theorem dX1_size_1 : decode cX1_size 1 = .ok (.getfield 32, 3) := by decide +kernel
theorem dX1_size_4 : decode cX1_size 4 = .ok (.ireturn, 1) := by decide +kernel
theorem dX1_kindAt_0 : decode cX1_kindAt 0 = .ok (.aload_n 0, 1) := by decide +kernel
theorem dX1_kindAt_1 : decode cX1_kindAt 1 = .ok (.getfield 9, 3) := by decide +kernel
theorem dX1_kindAt_4 : decode cX1_kindAt 4 = .ok (.iload_n 1, 1) := by decide +kernel
theorem dX1_kindAt_5 : decode cX1_kindAt 5 = .ok (.iaload, 1) := by decide +kernel
theorem dX1_kindAt_6 : decode cX1_kindAt 6 = .ok (.ireturn, 1) := by decide +kernel
theorem dX1_placeAt_0 : decode cX1_placeAt 0 = .ok (.aload_n 0, 1) := by decide +kernel
theorem dX1_placeAt_1 : decode cX1_placeAt 1 = .ok (.getfield 15, 3) := by decide +kernel
theorem dX1_placeAt_4 : decode cX1_placeAt 4 = .ok (.iload_n 1, 1) := by decide +kernel
theorem dX1_placeAt_5 : decode cX1_placeAt 5 = .ok (.iaload, 1) := by decide +kernel
theorem dX1_placeAt_6 : decode cX1_placeAt 6 = .ok (.ireturn, 1) := by decide +kernel
theorem dX1_turnsAt_0 : decode cX1_turnsAt 0 = .ok (.aload_n 0, 1) := by decide +kernel
theorem dX1_turnsAt_1 : decode cX1_turnsAt 1 = .ok (.getfield 18, 3) := by decide +kernel
theorem dX1_turnsAt_4 : decode cX1_turnsAt 4 = .ok (.iload_n 1, 1) := by decide +kernel
theorem dX1_turnsAt_5 : decode cX1_turnsAt 5 = .ok (.iaload, 1) := by decide +kernel
theorem dX1_turnsAt_6 : decode cX1_turnsAt 6 = .ok (.ireturn, 1) := by decide +kernel
theorem dX1_chargeAt_0 : decode cX1_chargeAt 0 = .ok (.aload_n 0, 1) := by decide +kernel
theorem dX1_chargeAt_1 : decode cX1_chargeAt 1 = .ok (.getfield 25, 3) := by decide +kernel
theorem dX1_chargeAt_4 : decode cX1_chargeAt 4 = .ok (.iload_n 1, 1) := by decide +kernel
theorem dX1_chargeAt_5 : decode cX1_chargeAt 5 = .ok (.daload, 1) := by decide +kernel
theorem dX1_chargeAt_6 : decode cX1_chargeAt 6 = .ok (.dreturn, 1) := by decide +kernel
theorem dX1_capacityAt_0 : decode cX1_capacityAt 0 = .ok (.aload_n 0, 1) := by decide +kernel
theorem dX1_capacityAt_1 : decode cX1_capacityAt 1 = .ok (.getfield 29, 3) := by decide +kernel
theorem dX1_capacityAt_4 : decode cX1_capacityAt 4 = .ok (.iload_n 1, 1) := by decide +kernel
theorem dX1_capacityAt_5 : decode cX1_capacityAt 5 = .ok (.daload, 1) := by decide +kernel
theorem dX1_capacityAt_6 : decode cX1_capacityAt 6 = .ok (.dreturn, 1) := by decide +kernel
set_option maxRecDepth 20000 in
theorem ggX1_hangNew_X1_newCapacity : GoodIn wsX1_hangNew wsX1_newCapacity := goodIn_r _ [9, 10, 11, 12] (by decide +kernel) (by decide +kernel)
set_option maxRecDepth 20000 in
theorem gX1_hangNew_X1_newCapacity : GoodIn wsX1_hangNew (va_wsS RX1 36 yX1_newCapacity wsX1_newCapacity) := goodIn_app (goodIn_of _ (by decide +kernel)) ggX1_hangNew_X1_newCapacity
theorem dX1_hangNew_0 : decode cX1_hangNew 0 = .ok (.aload_n 0, 1) := by decide +kernel
theorem dX1_hangNew_1 : decode cX1_hangNew 1 = .ok (.getfield 32, 3) := by decide +kernel
theorem dX1_hangNew_4 : decode cX1_hangNew 4 = .ok (.istore_n 2, 1) := by decide +kernel
theorem dX1_hangNew_5 : decode cX1_hangNew 5 = .ok (.aload_n 0, 1) := by decide +kernel
theorem dX1_hangNew_6 : decode cX1_hangNew 6 = .ok (.getfield 9, 3) := by decide +kernel
theorem dX1_hangNew_9 : decode cX1_hangNew 9 = .ok (.iload_n 2, 1) := by decide +kernel
theorem dX1_hangNew_10 : decode cX1_hangNew 10 = .ok (.iload_n 1, 1) := by decide +kernel
theorem dX1_hangNew_11 : decode cX1_hangNew 11 = .ok (.iastore, 1) := by decide +kernel
theorem dX1_hangNew_12 : decode cX1_hangNew 12 = .ok (.aload_n 0, 1) := by decide +kernel
theorem dX1_hangNew_13 : decode cX1_hangNew 13 = .ok (.getfield 15, 3) := by decide +kernel
theorem dX1_hangNew_16 : decode cX1_hangNew 16 = .ok (.iload_n 2, 1) := by decide +kernel
theorem dX1_hangNew_17 : decode cX1_hangNew 17 = .ok (.iconst 0, 1) := by decide +kernel
theorem dX1_hangNew_18 : decode cX1_hangNew 18 = .ok (.iastore, 1) := by decide +kernel
theorem dX1_hangNew_19 : decode cX1_hangNew 19 = .ok (.aload_n 0, 1) := by decide +kernel
theorem dX1_hangNew_20 : decode cX1_hangNew 20 = .ok (.getfield 29, 3) := by decide +kernel
theorem dX1_hangNew_23 : decode cX1_hangNew 23 = .ok (.iload_n 2, 1) := by decide +kernel
theorem dX1_hangNew_24 : decode cX1_hangNew 24 = .ok (.iload_n 1, 1) := by decide +kernel
theorem dX1_hangNew_25 : decode cX1_hangNew 25 = .ok (.invokestatic 36, 3) := by decide +kernel
theorem dX1_hangNew_28 : decode cX1_hangNew 28 = .ok (.dastore, 1) := by decide +kernel
theorem dX1_hangNew_29 : decode cX1_hangNew 29 = .ok (.aload_n 0, 1) := by decide +kernel
theorem dX1_hangNew_30 : decode cX1_hangNew 30 = .ok (.getfield 25, 3) := by decide +kernel
theorem dX1_hangNew_33 : decode cX1_hangNew 33 = .ok (.iload_n 2, 1) := by decide +kernel
theorem dX1_hangNew_34 : decode cX1_hangNew 34 = .ok (.aload_n 0, 1) := by decide +kernel
theorem dX1_hangNew_35 : decode cX1_hangNew 35 = .ok (.getfield 29, 3) := by decide +kernel
theorem dX1_hangNew_38 : decode cX1_hangNew 38 = .ok (.iload_n 2, 1) := by decide +kernel
theorem dX1_hangNew_39 : decode cX1_hangNew 39 = .ok (.daload, 1) := by decide +kernel
theorem dX1_hangNew_40 : decode cX1_hangNew 40 = .ok (.dastore, 1) := by decide +kernel
theorem dX1_hangNew_41 : decode cX1_hangNew 41 = .ok (.aload_n 0, 1) := by decide +kernel
theorem dX1_hangNew_42 : decode cX1_hangNew 42 = .ok (.dup, 1) := by decide +kernel
theorem dX1_hangNew_43 : decode cX1_hangNew 43 = .ok (.getfield 32, 3) := by decide +kernel
theorem dX1_hangNew_46 : decode cX1_hangNew 46 = .ok (.iconst 1, 1) := by decide +kernel
theorem dX1_hangNew_47 : decode cX1_hangNew 47 = .ok (.iadd, 1) := by decide +kernel
theorem dX1_hangNew_48 : decode cX1_hangNew 48 = .ok (.putfield 32, 3) := by decide +kernel
theorem dX1_hangNew_51 : decode cX1_hangNew 51 = .ok (.iload_n 2, 1) := by decide +kernel
theorem dX1_hangNew_52 : decode cX1_hangNew 52 = .ok (.ireturn, 1) := by decide +kernel
theorem dX1_moveTo_0 : decode cX1_moveTo 0 = .ok (.aload_n 0, 1) := by decide +kernel
theorem dX1_moveTo_1 : decode cX1_moveTo 1 = .ok (.getfield 15, 3) := by decide +kernel
theorem dX1_moveTo_4 : decode cX1_moveTo 4 = .ok (.iload_n 1, 1) := by decide +kernel
theorem dX1_moveTo_5 : decode cX1_moveTo 5 = .ok (.iload_n 2, 1) := by decide +kernel
theorem dX1_moveTo_6 : decode cX1_moveTo 6 = .ok (.iastore, 1) := by decide +kernel
theorem dX1_moveTo_7 : decode cX1_moveTo 7 = .ok (.return_, 1) := by decide +kernel
theorem dX1_endLeak_0 : decode cX1_endLeak 0 = .ok (.aload_n 0, 1) := by decide +kernel
theorem dX1_endLeak_1 : decode cX1_endLeak 1 = .ok (.getfield 21, 3) := by decide +kernel
theorem dX1_endLeak_4 : decode cX1_endLeak 4 = .ok (.iload_n 1, 1) := by decide +kernel
theorem dX1_endLeak_5 : decode cX1_endLeak 5 = .ok (.iconst 0, 1) := by decide +kernel
theorem dX1_endLeak_6 : decode cX1_endLeak 6 = .ok (.bastore, 1) := by decide +kernel
theorem dX1_endLeak_7 : decode cX1_endLeak 7 = .ok (.return_, 1) := by decide +kernel
theorem dX1_takeBack_0 : decode cX1_takeBack 0 = .ok (.aload_n 0, 1) := by decide +kernel
theorem dX1_takeBack_1 : decode cX1_takeBack 1 = .ok (.getfield 15, 3) := by decide +kernel
theorem dX1_takeBack_4 : decode cX1_takeBack 4 = .ok (.iload_n 1, 1) := by decide +kernel
theorem dX1_takeBack_5 : decode cX1_takeBack 5 = .ok (.iconst 0, 1) := by decide +kernel
theorem dX1_takeBack_6 : decode cX1_takeBack 6 = .ok (.iastore, 1) := by decide +kernel
theorem dX1_takeBack_7 : decode cX1_takeBack 7 = .ok (.aload_n 0, 1) := by decide +kernel
theorem dX1_takeBack_8 : decode cX1_takeBack 8 = .ok (.getfield 18, 3) := by decide +kernel
theorem dX1_takeBack_11 : decode cX1_takeBack 11 = .ok (.iload_n 1, 1) := by decide +kernel
theorem dX1_takeBack_12 : decode cX1_takeBack 12 = .ok (.dup2, 1) := by decide +kernel
theorem dX1_takeBack_13 : decode cX1_takeBack 13 = .ok (.iaload, 1) := by decide +kernel
theorem dX1_takeBack_14 : decode cX1_takeBack 14 = .ok (.iconst 1, 1) := by decide +kernel
theorem dX1_takeBack_15 : decode cX1_takeBack 15 = .ok (.iadd, 1) := by decide +kernel
theorem dX1_takeBack_16 : decode cX1_takeBack 16 = .ok (.iastore, 1) := by decide +kernel
theorem dX1_takeBack_17 : decode cX1_takeBack 17 = .ok (.aload_n 0, 1) := by decide +kernel
theorem dX1_takeBack_18 : decode cX1_takeBack 18 = .ok (.getfield 18, 3) := by decide +kernel
theorem dX1_takeBack_21 : decode cX1_takeBack 21 = .ok (.iload_n 1, 1) := by decide +kernel
theorem dX1_takeBack_22 : decode cX1_takeBack 22 = .ok (.iaload, 1) := by decide +kernel
theorem dX1_takeBack_23 : decode cX1_takeBack 23 = .ok (.bipush 7, 2) := by decide +kernel
theorem dX1_takeBack_25 : decode cX1_takeBack 25 = .ok (.irem, 1) := by decide +kernel
theorem dX1_takeBack_26 : decode cX1_takeBack 26 = .ok (.ifCond .ne 10, 3) := by decide +kernel
theorem dX1_takeBack_29 : decode cX1_takeBack 29 = .ok (.aload_n 0, 1) := by decide +kernel
theorem dX1_takeBack_30 : decode cX1_takeBack 30 = .ok (.getfield 21, 3) := by decide +kernel
theorem dX1_takeBack_33 : decode cX1_takeBack 33 = .ok (.iload_n 1, 1) := by decide +kernel
theorem dX1_takeBack_34 : decode cX1_takeBack 34 = .ok (.iconst 1, 1) := by decide +kernel
theorem dX1_takeBack_35 : decode cX1_takeBack 35 = .ok (.bastore, 1) := by decide +kernel
theorem dX1_takeBack_36 : decode cX1_takeBack 36 = .ok (.aload_n 0, 1) := by decide +kernel
theorem dX1_takeBack_37 : decode cX1_takeBack 37 = .ok (.getfield 29, 3) := by decide +kernel
theorem dX1_takeBack_40 : decode cX1_takeBack 40 = .ok (.iload_n 1, 1) := by decide +kernel
theorem dX1_takeBack_41 : decode cX1_takeBack 41 = .ok (.aload_n 0, 1) := by decide +kernel
theorem dX1_takeBack_42 : decode cX1_takeBack 42 = .ok (.getfield 29, 3) := by decide +kernel
theorem dX1_takeBack_45 : decode cX1_takeBack 45 = .ok (.iload_n 1, 1) := by decide +kernel
theorem dX1_takeBack_46 : decode cX1_takeBack 46 = .ok (.daload, 1) := by decide +kernel
theorem dX1_takeBack_47 : decode cX1_takeBack 47 = .ok (.ldc2_w 40, 3) := by decide +kernel
theorem dX1_takeBack_50 : decode cX1_takeBack 50 = .ok (.dmul, 1) := by decide +kernel
theorem dX1_takeBack_51 : decode cX1_takeBack 51 = .ok (.dastore, 1) := by decide +kernel
theorem dX1_takeBack_52 : decode cX1_takeBack 52 = .ok (.aload_n 0, 1) := by decide +kernel
theorem dX1_takeBack_53 : decode cX1_takeBack 53 = .ok (.getfield 25, 3) := by decide +kernel
theorem dX1_takeBack_56 : decode cX1_takeBack 56 = .ok (.iload_n 1, 1) := by decide +kernel
theorem dX1_takeBack_57 : decode cX1_takeBack 57 = .ok (.daload, 1) := by decide +kernel
theorem dX1_takeBack_58 : decode cX1_takeBack 58 = .ok (.aload_n 0, 1) := by decide +kernel
theorem dX1_takeBack_59 : decode cX1_takeBack 59 = .ok (.getfield 29, 3) := by decide +kernel
theorem dX1_takeBack_62 : decode cX1_takeBack 62 = .ok (.iload_n 1, 1) := by decide +kernel
theorem dX1_takeBack_63 : decode cX1_takeBack 63 = .ok (.daload, 1) := by decide +kernel
theorem dX1_takeBack_64 : decode cX1_takeBack 64 = .ok (.dcmp .l, 1) := by decide +kernel
theorem dX1_takeBack_65 : decode cX1_takeBack 65 = .ok (.ifCond .le 15, 3) := by decide +kernel
theorem dX1_takeBack_68 : decode cX1_takeBack 68 = .ok (.aload_n 0, 1) := by decide +kernel
theorem dX1_takeBack_69 : decode cX1_takeBack 69 = .ok (.getfield 25, 3) := by decide +kernel
theorem dX1_takeBack_72 : decode cX1_takeBack 72 = .ok (.iload_n 1, 1) := by decide +kernel
theorem dX1_takeBack_73 : decode cX1_takeBack 73 = .ok (.aload_n 0, 1) := by decide +kernel
theorem dX1_takeBack_74 : decode cX1_takeBack 74 = .ok (.getfield 29, 3) := by decide +kernel
theorem dX1_takeBack_77 : decode cX1_takeBack 77 = .ok (.iload_n 1, 1) := by decide +kernel
theorem dX1_takeBack_78 : decode cX1_takeBack 78 = .ok (.daload, 1) := by decide +kernel
theorem dX1_takeBack_79 : decode cX1_takeBack 79 = .ok (.dastore, 1) := by decide +kernel
theorem dX1_takeBack_80 : decode cX1_takeBack 80 = .ok (.return_, 1) := by decide +kernel
set_option maxRecDepth 20000 in
theorem ggX1_faultAt_X1_newCapacity : GoodIn wsX1_faultAt wsX1_newCapacity := goodIn_r _ [8, 9, 10, 11] (by decide +kernel) (by decide +kernel)
set_option maxRecDepth 20000 in
theorem gX1_faultAt_X1_newCapacity : GoodIn wsX1_faultAt (va_wsS RX1 36 yX1_newCapacity wsX1_newCapacity) := goodIn_app (goodIn_of _ (by decide +kernel)) ggX1_faultAt_X1_newCapacity
theorem dX1_faultAt_0 : decode cX1_faultAt 0 = .ok (.aload_n 0, 1) := by decide +kernel
theorem dX1_faultAt_1 : decode cX1_faultAt 1 = .ok (.getfield 21, 3) := by decide +kernel
theorem dX1_faultAt_4 : decode cX1_faultAt 4 = .ok (.iload_n 1, 1) := by decide +kernel
theorem dX1_faultAt_5 : decode cX1_faultAt 5 = .ok (.baload, 1) := by decide +kernel
theorem dX1_faultAt_6 : decode cX1_faultAt 6 = .ok (.ifCond .eq 5, 3) := by decide +kernel
theorem dX1_faultAt_9 : decode cX1_faultAt 9 = .ok (.iconst 1, 1) := by decide +kernel
theorem dX1_faultAt_10 : decode cX1_faultAt 10 = .ok (.ireturn, 1) := by decide +kernel
theorem dX1_faultAt_11 : decode cX1_faultAt 11 = .ok (.aload_n 0, 1) := by decide +kernel
theorem dX1_faultAt_12 : decode cX1_faultAt 12 = .ok (.getfield 29, 3) := by decide +kernel
theorem dX1_faultAt_15 : decode cX1_faultAt 15 = .ok (.iload_n 1, 1) := by decide +kernel
theorem dX1_faultAt_16 : decode cX1_faultAt 16 = .ok (.daload, 1) := by decide +kernel
theorem dX1_faultAt_17 : decode cX1_faultAt 17 = .ok (.ldc2_w 42, 3) := by decide +kernel
theorem dX1_faultAt_20 : decode cX1_faultAt 20 = .ok (.aload_n 0, 1) := by decide +kernel
theorem dX1_faultAt_21 : decode cX1_faultAt 21 = .ok (.getfield 9, 3) := by decide +kernel
theorem dX1_faultAt_24 : decode cX1_faultAt 24 = .ok (.iload_n 1, 1) := by decide +kernel
theorem dX1_faultAt_25 : decode cX1_faultAt 25 = .ok (.iaload, 1) := by decide +kernel
theorem dX1_faultAt_26 : decode cX1_faultAt 26 = .ok (.invokestatic 36, 3) := by decide +kernel
theorem dX1_faultAt_29 : decode cX1_faultAt 29 = .ok (.dmul, 1) := by decide +kernel
theorem dX1_faultAt_30 : decode cX1_faultAt 30 = .ok (.dcmp .g, 1) := by decide +kernel
theorem dX1_faultAt_31 : decode cX1_faultAt 31 = .ok (.ifCond .ge 7, 3) := by decide +kernel
theorem dX1_faultAt_34 : decode cX1_faultAt 34 = .ok (.iconst 2, 1) := by decide +kernel
theorem dX1_faultAt_35 : decode cX1_faultAt 35 = .ok (.goto 4, 3) := by decide +kernel
theorem dX1_faultAt_38 : decode cX1_faultAt 38 = .ok (.iconst 0, 1) := by decide +kernel
theorem dX1_faultAt_39 : decode cX1_faultAt 39 = .ok (.ireturn, 1) := by decide +kernel
set_option maxRecDepth 20000 in
theorem ggX1_bestFor_X1_fullestOf : GoodIn wsX1_bestFor wsX1_fullestOf := goodIn_r _ [5, 6, 7, 8, 9, 10, 4, 11, 12, 13, 14, 15, 16, 17, 18, 19, 20, 21] (by decide +kernel) (by decide +kernel)
set_option maxRecDepth 20000 in
theorem gX1_bestFor_X1_fullestOf : GoodIn wsX1_bestFor (wsV RX1 44 RX1 yX1_fullestOf wsX1_fullestOf) := goodIn_app (goodIn_of _ (by decide +kernel)) ggX1_bestFor_X1_fullestOf
theorem dX1_bestFor_0 : decode cX1_bestFor 0 = .ok (.iload_n 1, 1) := by decide +kernel
theorem dX1_bestFor_1 : decode cX1_bestFor 1 = .ok (.istore_n 2, 1) := by decide +kernel
theorem dX1_bestFor_2 : decode cX1_bestFor 2 = .ok (.iload_n 2, 1) := by decide +kernel
theorem dX1_bestFor_3 : decode cX1_bestFor 3 = .ok (.iconst 3, 1) := by decide +kernel
theorem dX1_bestFor_4 : decode cX1_bestFor 4 = .ok (.if_icmp .ge 22, 3) := by decide +kernel
theorem dX1_bestFor_7 : decode cX1_bestFor 7 = .ok (.aload_n 0, 1) := by decide +kernel
theorem dX1_bestFor_8 : decode cX1_bestFor 8 = .ok (.iload_n 2, 1) := by decide +kernel
theorem dX1_bestFor_9 : decode cX1_bestFor 9 = .ok (.invokevirtual 44, 3) := by decide +kernel
theorem dX1_bestFor_12 : decode cX1_bestFor 12 = .ok (.istore_n 3, 1) := by decide +kernel
theorem dX1_bestFor_13 : decode cX1_bestFor 13 = .ok (.iload_n 3, 1) := by decide +kernel
theorem dX1_bestFor_14 : decode cX1_bestFor 14 = .ok (.iconst (-1), 1) := by decide +kernel
theorem dX1_bestFor_15 : decode cX1_bestFor 15 = .ok (.if_icmp .eq 5, 3) := by decide +kernel
theorem dX1_bestFor_18 : decode cX1_bestFor 18 = .ok (.iload_n 3, 1) := by decide +kernel
theorem dX1_bestFor_19 : decode cX1_bestFor 19 = .ok (.ireturn, 1) := by decide +kernel
theorem dX1_bestFor_20 : decode cX1_bestFor 20 = .ok (.iinc 2 1, 3) := by decide +kernel
theorem dX1_bestFor_23 : decode cX1_bestFor 23 = .ok (.goto (-21), 3) := by decide +kernel
theorem dX1_bestFor_26 : decode cX1_bestFor 26 = .ok (.iconst (-1), 1) := by decide +kernel
theorem dX1_bestFor_27 : decode cX1_bestFor 27 = .ok (.ireturn, 1) := by decide +kernel
set_option maxRecDepth 20000 in
theorem ggX1_fullestOf_X1_isIssuable : GoodIn wsX1_fullestOf wsX1_isIssuable := goodIn_r _ [7, 8, 9, 2, 10, 11, 12, 13, 14, 15, 16, 17] (by decide +kernel) (by decide +kernel)
set_option maxRecDepth 20000 in
theorem gX1_fullestOf_X1_isIssuable : GoodIn wsX1_fullestOf (wsV RX1 48 RX1 yX1_isIssuable wsX1_isIssuable) := goodIn_app (goodIn_of _ (by decide +kernel)) ggX1_fullestOf_X1_isIssuable
theorem dX1_fullestOf_0 : decode cX1_fullestOf 0 = .ok (.iconst (-1), 1) := by decide +kernel
theorem dX1_fullestOf_1 : decode cX1_fullestOf 1 = .ok (.istore_n 2, 1) := by decide +kernel
theorem dX1_fullestOf_2 : decode cX1_fullestOf 2 = .ok (.iconst 0, 1) := by decide +kernel
theorem dX1_fullestOf_3 : decode cX1_fullestOf 3 = .ok (.istore_n 3, 1) := by decide +kernel
theorem dX1_fullestOf_4 : decode cX1_fullestOf 4 = .ok (.iload_n 3, 1) := by decide +kernel
theorem dX1_fullestOf_5 : decode cX1_fullestOf 5 = .ok (.aload_n 0, 1) := by decide +kernel
theorem dX1_fullestOf_6 : decode cX1_fullestOf 6 = .ok (.getfield 32, 3) := by decide +kernel
theorem dX1_fullestOf_9 : decode cX1_fullestOf 9 = .ok (.if_icmp .ge 41, 3) := by decide +kernel
theorem dX1_fullestOf_12 : decode cX1_fullestOf 12 = .ok (.aload_n 0, 1) := by decide +kernel
theorem dX1_fullestOf_13 : decode cX1_fullestOf 13 = .ok (.iload_n 3, 1) := by decide +kernel
theorem dX1_fullestOf_14 : decode cX1_fullestOf 14 = .ok (.iload_n 1, 1) := by decide +kernel
theorem dX1_fullestOf_15 : decode cX1_fullestOf 15 = .ok (.invokevirtual 48, 3) := by decide +kernel
theorem dX1_fullestOf_18 : decode cX1_fullestOf 18 = .ok (.ifCond .eq 26, 3) := by decide +kernel
theorem dX1_fullestOf_21 : decode cX1_fullestOf 21 = .ok (.iload_n 2, 1) := by decide +kernel
theorem dX1_fullestOf_22 : decode cX1_fullestOf 22 = .ok (.iconst (-1), 1) := by decide +kernel
theorem dX1_fullestOf_23 : decode cX1_fullestOf 23 = .ok (.if_icmp .eq 19, 3) := by decide +kernel
theorem dX1_fullestOf_26 : decode cX1_fullestOf 26 = .ok (.aload_n 0, 1) := by decide +kernel
theorem dX1_fullestOf_27 : decode cX1_fullestOf 27 = .ok (.getfield 25, 3) := by decide +kernel
theorem dX1_fullestOf_30 : decode cX1_fullestOf 30 = .ok (.iload_n 3, 1) := by decide +kernel
theorem dX1_fullestOf_31 : decode cX1_fullestOf 31 = .ok (.daload, 1) := by decide +kernel
theorem dX1_fullestOf_32 : decode cX1_fullestOf 32 = .ok (.aload_n 0, 1) := by decide +kernel
theorem dX1_fullestOf_33 : decode cX1_fullestOf 33 = .ok (.getfield 25, 3) := by decide +kernel
theorem dX1_fullestOf_36 : decode cX1_fullestOf 36 = .ok (.iload_n 2, 1) := by decide +kernel
theorem dX1_fullestOf_37 : decode cX1_fullestOf 37 = .ok (.daload, 1) := by decide +kernel
theorem dX1_fullestOf_38 : decode cX1_fullestOf 38 = .ok (.dcmp .l, 1) := by decide +kernel
theorem dX1_fullestOf_39 : decode cX1_fullestOf 39 = .ok (.ifCond .le 5, 3) := by decide +kernel
theorem dX1_fullestOf_42 : decode cX1_fullestOf 42 = .ok (.iload_n 3, 1) := by decide +kernel
theorem dX1_fullestOf_43 : decode cX1_fullestOf 43 = .ok (.istore_n 2, 1) := by decide +kernel
theorem dX1_fullestOf_44 : decode cX1_fullestOf 44 = .ok (.iinc 3 1, 3) := by decide +kernel
theorem dX1_fullestOf_47 : decode cX1_fullestOf 47 = .ok (.goto (-43), 3) := by decide +kernel
theorem dX1_fullestOf_50 : decode cX1_fullestOf 50 = .ok (.iload_n 2, 1) := by decide +kernel
theorem dX1_fullestOf_51 : decode cX1_fullestOf 51 = .ok (.ireturn, 1) := by decide +kernel
set_option maxRecDepth 20000 in
theorem ggX1_countIssuable_X1_isIssuable : GoodIn wsX1_countIssuable wsX1_isIssuable := goodIn_r _ [6, 7, 8, 9, 10, 11, 12, 13, 14, 15, 16, 17] (by decide +kernel) (by decide +kernel)
set_option maxRecDepth 20000 in
theorem gX1_countIssuable_X1_isIssuable : GoodIn wsX1_countIssuable (wsV RX1 48 RX1 yX1_isIssuable wsX1_isIssuable) := goodIn_app (goodIn_of _ (by decide +kernel)) ggX1_countIssuable_X1_isIssuable
theorem dX1_countIssuable_0 : decode cX1_countIssuable 0 = .ok (.iconst 0, 1) := by decide +kernel
theorem dX1_countIssuable_1 : decode cX1_countIssuable 1 = .ok (.istore_n 2, 1) := by decide +kernel
theorem dX1_countIssuable_2 : decode cX1_countIssuable 2 = .ok (.iconst 0, 1) := by decide +kernel
theorem dX1_countIssuable_3 : decode cX1_countIssuable 3 = .ok (.istore_n 3, 1) := by decide +kernel
theorem dX1_countIssuable_4 : decode cX1_countIssuable 4 = .ok (.iload_n 3, 1) := by decide +kernel
theorem dX1_countIssuable_5 : decode cX1_countIssuable 5 = .ok (.aload_n 0, 1) := by decide +kernel
theorem dX1_countIssuable_6 : decode cX1_countIssuable 6 = .ok (.getfield 32, 3) := by decide +kernel
theorem dX1_countIssuable_9 : decode cX1_countIssuable 9 = .ok (.if_icmp .ge 21, 3) := by decide +kernel
theorem dX1_countIssuable_12 : decode cX1_countIssuable 12 = .ok (.aload_n 0, 1) := by decide +kernel
theorem dX1_countIssuable_13 : decode cX1_countIssuable 13 = .ok (.iload_n 3, 1) := by decide +kernel
theorem dX1_countIssuable_14 : decode cX1_countIssuable 14 = .ok (.iload_n 1, 1) := by decide +kernel
theorem dX1_countIssuable_15 : decode cX1_countIssuable 15 = .ok (.invokevirtual 48, 3) := by decide +kernel
theorem dX1_countIssuable_18 : decode cX1_countIssuable 18 = .ok (.ifCond .eq 6, 3) := by decide +kernel
theorem dX1_countIssuable_21 : decode cX1_countIssuable 21 = .ok (.iinc 2 1, 3) := by decide +kernel
theorem dX1_countIssuable_24 : decode cX1_countIssuable 24 = .ok (.iinc 3 1, 3) := by decide +kernel
theorem dX1_countIssuable_27 : decode cX1_countIssuable 27 = .ok (.goto (-23), 3) := by decide +kernel
theorem dX1_countIssuable_30 : decode cX1_countIssuable 30 = .ok (.iload_n 2, 1) := by decide +kernel
theorem dX1_countIssuable_31 : decode cX1_countIssuable 31 = .ok (.ireturn, 1) := by decide +kernel
theorem dX1_isIssuable_0 : decode cX1_isIssuable 0 = .ok (.aload_n 0, 1) := by decide +kernel
theorem dX1_isIssuable_1 : decode cX1_isIssuable 1 = .ok (.getfield 9, 3) := by decide +kernel
theorem dX1_isIssuable_4 : decode cX1_isIssuable 4 = .ok (.iload_n 1, 1) := by decide +kernel
theorem dX1_isIssuable_5 : decode cX1_isIssuable 5 = .ok (.iaload, 1) := by decide +kernel
theorem dX1_isIssuable_6 : decode cX1_isIssuable 6 = .ok (.iload_n 2, 1) := by decide +kernel
theorem dX1_isIssuable_7 : decode cX1_isIssuable 7 = .ok (.if_icmp .ne 29, 3) := by decide +kernel
theorem dX1_isIssuable_10 : decode cX1_isIssuable 10 = .ok (.aload_n 0, 1) := by decide +kernel
theorem dX1_isIssuable_11 : decode cX1_isIssuable 11 = .ok (.getfield 15, 3) := by decide +kernel
theorem dX1_isIssuable_14 : decode cX1_isIssuable 14 = .ok (.iload_n 1, 1) := by decide +kernel
theorem dX1_isIssuable_15 : decode cX1_isIssuable 15 = .ok (.iaload, 1) := by decide +kernel
theorem dX1_isIssuable_16 : decode cX1_isIssuable 16 = .ok (.ifCond .ne 20, 3) := by decide +kernel
theorem dX1_isIssuable_19 : decode cX1_isIssuable 19 = .ok (.aload_n 0, 1) := by decide +kernel
theorem dX1_isIssuable_20 : decode cX1_isIssuable 20 = .ok (.getfield 25, 3) := by decide +kernel
theorem dX1_isIssuable_23 : decode cX1_isIssuable 23 = .ok (.iload_n 1, 1) := by decide +kernel
theorem dX1_isIssuable_24 : decode cX1_isIssuable 24 = .ok (.daload, 1) := by decide +kernel
theorem dX1_isIssuable_25 : decode cX1_isIssuable 25 = .ok (.ldc2_w 52, 3) := by decide +kernel
theorem dX1_isIssuable_28 : decode cX1_isIssuable 28 = .ok (.dcmp .l, 1) := by decide +kernel
theorem dX1_isIssuable_29 : decode cX1_isIssuable 29 = .ok (.ifCond .lt 7, 3) := by decide +kernel
theorem dX1_isIssuable_32 : decode cX1_isIssuable 32 = .ok (.iconst 1, 1) := by decide +kernel
theorem dX1_isIssuable_33 : decode cX1_isIssuable 33 = .ok (.goto 4, 3) := by decide +kernel
theorem dX1_isIssuable_36 : decode cX1_isIssuable 36 = .ok (.iconst 0, 1) := by decide +kernel
theorem dX1_isIssuable_37 : decode cX1_isIssuable 37 = .ok (.ireturn, 1) := by decide +kernel
theorem dX1_burn_0 : decode cX1_burn 0 = .ok (.iconst 0, 1) := by decide +kernel
theorem dX1_burn_1 : decode cX1_burn 1 = .ok (.istore_n 1, 1) := by decide +kernel
theorem dX1_burn_2 : decode cX1_burn 2 = .ok (.iload_n 1, 1) := by decide +kernel
theorem dX1_burn_3 : decode cX1_burn 3 = .ok (.aload_n 0, 1) := by decide +kernel
theorem dX1_burn_4 : decode cX1_burn 4 = .ok (.getfield 32, 3) := by decide +kernel
theorem dX1_burn_7 : decode cX1_burn 7 = .ok (.if_icmp .ge 65, 3) := by decide +kernel
theorem dX1_burn_10 : decode cX1_burn 10 = .ok (.aload_n 0, 1) := by decide +kernel
theorem dX1_burn_11 : decode cX1_burn 11 = .ok (.getfield 15, 3) := by decide +kernel
theorem dX1_burn_14 : decode cX1_burn 14 = .ok (.iload_n 1, 1) := by decide +kernel
theorem dX1_burn_15 : decode cX1_burn 15 = .ok (.iaload, 1) := by decide +kernel
theorem dX1_burn_16 : decode cX1_burn 16 = .ok (.iconst 1, 1) := by decide +kernel
theorem dX1_burn_17 : decode cX1_burn 17 = .ok (.if_icmp .ne 49, 3) := by decide +kernel
theorem dX1_burn_20 : decode cX1_burn 20 = .ok (.aload_n 0, 1) := by decide +kernel
theorem dX1_burn_21 : decode cX1_burn 21 = .ok (.getfield 21, 3) := by decide +kernel
theorem dX1_burn_24 : decode cX1_burn 24 = .ok (.iload_n 1, 1) := by decide +kernel
theorem dX1_burn_25 : decode cX1_burn 25 = .ok (.baload, 1) := by decide +kernel
theorem dX1_burn_26 : decode cX1_burn 26 = .ok (.ifCond .eq 9, 3) := by decide +kernel
theorem dX1_burn_29 : decode cX1_burn 29 = .ok (.ldc2_w 54, 3) := by decide +kernel
theorem dX1_burn_32 : decode cX1_burn 32 = .ok (.goto 4, 3) := by decide +kernel
theorem dX1_burn_35 : decode cX1_burn 35 = .ok (.dconst 1, 1) := by decide +kernel
theorem dX1_burn_36 : decode cX1_burn 36 = .ok (.dstore_n 2, 1) := by decide +kernel
theorem dX1_burn_37 : decode cX1_burn 37 = .ok (.aload_n 0, 1) := by decide +kernel
theorem dX1_burn_38 : decode cX1_burn 38 = .ok (.getfield 25, 3) := by decide +kernel
theorem dX1_burn_41 : decode cX1_burn 41 = .ok (.iload_n 1, 1) := by decide +kernel
theorem dX1_burn_42 : decode cX1_burn 42 = .ok (.aload_n 0, 1) := by decide +kernel
theorem dX1_burn_43 : decode cX1_burn 43 = .ok (.getfield 25, 3) := by decide +kernel
theorem dX1_burn_46 : decode cX1_burn 46 = .ok (.iload_n 1, 1) := by decide +kernel
theorem dX1_burn_47 : decode cX1_burn 47 = .ok (.daload, 1) := by decide +kernel
theorem dX1_burn_48 : decode cX1_burn 48 = .ok (.dload_n 2, 1) := by decide +kernel
theorem dX1_burn_49 : decode cX1_burn 49 = .ok (.dcmp .l, 1) := by decide +kernel
theorem dX1_burn_50 : decode cX1_burn 50 = .ok (.ifCond .le 14, 3) := by decide +kernel
theorem dX1_burn_53 : decode cX1_burn 53 = .ok (.aload_n 0, 1) := by decide +kernel
theorem dX1_burn_54 : decode cX1_burn 54 = .ok (.getfield 25, 3) := by decide +kernel
theorem dX1_burn_57 : decode cX1_burn 57 = .ok (.iload_n 1, 1) := by decide +kernel
theorem dX1_burn_58 : decode cX1_burn 58 = .ok (.daload, 1) := by decide +kernel
theorem dX1_burn_59 : decode cX1_burn 59 = .ok (.dload_n 2, 1) := by decide +kernel
theorem dX1_burn_60 : decode cX1_burn 60 = .ok (.dsub, 1) := by decide +kernel
theorem dX1_burn_61 : decode cX1_burn 61 = .ok (.goto 4, 3) := by decide +kernel
theorem dX1_burn_64 : decode cX1_burn 64 = .ok (.dconst 0, 1) := by decide +kernel
theorem dX1_burn_65 : decode cX1_burn 65 = .ok (.dastore, 1) := by decide +kernel
theorem dX1_burn_66 : decode cX1_burn 66 = .ok (.iinc 1 1, 3) := by decide +kernel
theorem dX1_burn_69 : decode cX1_burn 69 = .ok (.goto (-67), 3) := by decide +kernel
theorem dX1_burn_72 : decode cX1_burn 72 = .ok (.return_, 1) := by decide +kernel
theorem dX1_load_0 : decode cX1_load 0 = .ok (.iconst 5, 1) := by decide +kernel
theorem dX1_load_1 : decode cX1_load 1 = .ok (.istore_n 1, 1) := by decide +kernel
theorem dX1_load_2 : decode cX1_load 2 = .ok (.iconst 0, 1) := by decide +kernel
theorem dX1_load_3 : decode cX1_load 3 = .ok (.istore_n 2, 1) := by decide +kernel
theorem dX1_load_4 : decode cX1_load 4 = .ok (.iload_n 2, 1) := by decide +kernel
theorem dX1_load_5 : decode cX1_load 5 = .ok (.aload_n 0, 1) := by decide +kernel
theorem dX1_load_6 : decode cX1_load 6 = .ok (.getfield 32, 3) := by decide +kernel
theorem dX1_load_9 : decode cX1_load 9 = .ok (.if_icmp .ge 79, 3) := by decide +kernel
theorem dX1_load_12 : decode cX1_load 12 = .ok (.iload_n 1, 1) := by decide +kernel
theorem dX1_load_13 : decode cX1_load 13 = .ok (.ifCond .le 75, 3) := by decide +kernel
theorem dX1_load_16 : decode cX1_load 16 = .ok (.aload_n 0, 1) := by decide +kernel
theorem dX1_load_17 : decode cX1_load 17 = .ok (.getfield 15, 3) := by decide +kernel
theorem dX1_load_20 : decode cX1_load 20 = .ok (.iload_n 2, 1) := by decide +kernel
theorem dX1_load_21 : decode cX1_load 21 = .ok (.iaload, 1) := by decide +kernel
theorem dX1_load_22 : decode cX1_load 22 = .ok (.ifCond .ne 60, 3) := by decide +kernel
theorem dX1_load_25 : decode cX1_load 25 = .ok (.aload_n 0, 1) := by decide +kernel
theorem dX1_load_26 : decode cX1_load 26 = .ok (.getfield 25, 3) := by decide +kernel
theorem dX1_load_29 : decode cX1_load 29 = .ok (.iload_n 2, 1) := by decide +kernel
theorem dX1_load_30 : decode cX1_load 30 = .ok (.daload, 1) := by decide +kernel
theorem dX1_load_31 : decode cX1_load 31 = .ok (.aload_n 0, 1) := by decide +kernel
theorem dX1_load_32 : decode cX1_load 32 = .ok (.getfield 29, 3) := by decide +kernel
theorem dX1_load_35 : decode cX1_load 35 = .ok (.iload_n 2, 1) := by decide +kernel
theorem dX1_load_36 : decode cX1_load 36 = .ok (.daload, 1) := by decide +kernel
theorem dX1_load_37 : decode cX1_load 37 = .ok (.dcmp .g, 1) := by decide +kernel
theorem dX1_load_38 : decode cX1_load 38 = .ok (.ifCond .ge 44, 3) := by decide +kernel
theorem dX1_load_41 : decode cX1_load 41 = .ok (.aload_n 0, 1) := by decide +kernel
theorem dX1_load_42 : decode cX1_load 42 = .ok (.getfield 25, 3) := by decide +kernel
theorem dX1_load_45 : decode cX1_load 45 = .ok (.iload_n 2, 1) := by decide +kernel
theorem dX1_load_46 : decode cX1_load 46 = .ok (.daload, 1) := by decide +kernel
theorem dX1_load_47 : decode cX1_load 47 = .ok (.ldc2_w 56, 3) := by decide +kernel
theorem dX1_load_50 : decode cX1_load 50 = .ok (.dadd, 1) := by decide +kernel
theorem dX1_load_51 : decode cX1_load 51 = .ok (.dstore_n 3, 1) := by decide +kernel
theorem dX1_load_52 : decode cX1_load 52 = .ok (.aload_n 0, 1) := by decide +kernel
theorem dX1_load_53 : decode cX1_load 53 = .ok (.getfield 25, 3) := by decide +kernel
theorem dX1_load_56 : decode cX1_load 56 = .ok (.iload_n 2, 1) := by decide +kernel
theorem dX1_load_57 : decode cX1_load 57 = .ok (.dload_n 3, 1) := by decide +kernel
theorem dX1_load_58 : decode cX1_load 58 = .ok (.aload_n 0, 1) := by decide +kernel
theorem dX1_load_59 : decode cX1_load 59 = .ok (.getfield 29, 3) := by decide +kernel
theorem dX1_load_62 : decode cX1_load 62 = .ok (.iload_n 2, 1) := by decide +kernel
theorem dX1_load_63 : decode cX1_load 63 = .ok (.daload, 1) := by decide +kernel
theorem dX1_load_64 : decode cX1_load 64 = .ok (.dcmp .g, 1) := by decide +kernel
theorem dX1_load_65 : decode cX1_load 65 = .ok (.ifCond .ge 7, 3) := by decide +kernel
theorem dX1_load_68 : decode cX1_load 68 = .ok (.dload_n 3, 1) := by decide +kernel
theorem dX1_load_69 : decode cX1_load 69 = .ok (.goto 9, 3) := by decide +kernel
theorem dX1_load_72 : decode cX1_load 72 = .ok (.aload_n 0, 1) := by decide +kernel
theorem dX1_load_73 : decode cX1_load 73 = .ok (.getfield 29, 3) := by decide +kernel
theorem dX1_load_76 : decode cX1_load 76 = .ok (.iload_n 2, 1) := by decide +kernel
theorem dX1_load_77 : decode cX1_load 77 = .ok (.daload, 1) := by decide +kernel
theorem dX1_load_78 : decode cX1_load 78 = .ok (.dastore, 1) := by decide +kernel
theorem dX1_load_79 : decode cX1_load 79 = .ok (.iinc 1 (-1), 3) := by decide +kernel
theorem dX1_load_82 : decode cX1_load 82 = .ok (.iinc 2 1, 3) := by decide +kernel
theorem dX1_load_85 : decode cX1_load 85 = .ok (.goto (-81), 3) := by decide +kernel
theorem dX1_load_88 : decode cX1_load 88 = .ok (.return_, 1) := by decide +kernel
theorem dX1_hundredthsOnRack_0 : decode cX1_hundredthsOnRack 0 = .ok (.dconst 0, 1) := by decide +kernel
theorem dX1_hundredthsOnRack_1 : decode cX1_hundredthsOnRack 1 = .ok (.dstore_n 1, 1) := by decide +kernel
theorem dX1_hundredthsOnRack_2 : decode cX1_hundredthsOnRack 2 = .ok (.dconst 0, 1) := by decide +kernel
theorem dX1_hundredthsOnRack_3 : decode cX1_hundredthsOnRack 3 = .ok (.dstore_n 3, 1) := by decide +kernel
theorem dX1_hundredthsOnRack_4 : decode cX1_hundredthsOnRack 4 = .ok (.iconst 0, 1) := by decide +kernel
theorem dX1_hundredthsOnRack_5 : decode cX1_hundredthsOnRack 5 = .ok (.istore 5, 2) := by decide +kernel
theorem dX1_hundredthsOnRack_7 : decode cX1_hundredthsOnRack 7 = .ok (.iload 5, 2) := by decide +kernel
theorem dX1_hundredthsOnRack_9 : decode cX1_hundredthsOnRack 9 = .ok (.aload_n 0, 1) := by decide +kernel
theorem dX1_hundredthsOnRack_10 : decode cX1_hundredthsOnRack 10 = .ok (.getfield 32, 3) := by decide +kernel
theorem dX1_hundredthsOnRack_13 : decode cX1_hundredthsOnRack 13 = .ok (.if_icmp .ge 39, 3) := by decide +kernel
theorem dX1_hundredthsOnRack_16 : decode cX1_hundredthsOnRack 16 = .ok (.aload_n 0, 1) := by decide +kernel
theorem dX1_hundredthsOnRack_17 : decode cX1_hundredthsOnRack 17 = .ok (.getfield 15, 3) := by decide +kernel
theorem dX1_hundredthsOnRack_20 : decode cX1_hundredthsOnRack 20 = .ok (.iload 5, 2) := by decide +kernel
theorem dX1_hundredthsOnRack_22 : decode cX1_hundredthsOnRack 22 = .ok (.iaload, 1) := by decide +kernel
theorem dX1_hundredthsOnRack_23 : decode cX1_hundredthsOnRack 23 = .ok (.ifCond .ne 23, 3) := by decide +kernel
theorem dX1_hundredthsOnRack_26 : decode cX1_hundredthsOnRack 26 = .ok (.dload_n 1, 1) := by decide +kernel
theorem dX1_hundredthsOnRack_27 : decode cX1_hundredthsOnRack 27 = .ok (.aload_n 0, 1) := by decide +kernel
theorem dX1_hundredthsOnRack_28 : decode cX1_hundredthsOnRack 28 = .ok (.getfield 25, 3) := by decide +kernel
theorem dX1_hundredthsOnRack_31 : decode cX1_hundredthsOnRack 31 = .ok (.iload 5, 2) := by decide +kernel
theorem dX1_hundredthsOnRack_33 : decode cX1_hundredthsOnRack 33 = .ok (.daload, 1) := by decide +kernel
theorem dX1_hundredthsOnRack_34 : decode cX1_hundredthsOnRack 34 = .ok (.dadd, 1) := by decide +kernel
theorem dX1_hundredthsOnRack_35 : decode cX1_hundredthsOnRack 35 = .ok (.dstore_n 1, 1) := by decide +kernel
theorem dX1_hundredthsOnRack_36 : decode cX1_hundredthsOnRack 36 = .ok (.dload_n 3, 1) := by decide +kernel
theorem dX1_hundredthsOnRack_37 : decode cX1_hundredthsOnRack 37 = .ok (.aload_n 0, 1) := by decide +kernel
theorem dX1_hundredthsOnRack_38 : decode cX1_hundredthsOnRack 38 = .ok (.getfield 29, 3) := by decide +kernel
theorem dX1_hundredthsOnRack_41 : decode cX1_hundredthsOnRack 41 = .ok (.iload 5, 2) := by decide +kernel
theorem dX1_hundredthsOnRack_43 : decode cX1_hundredthsOnRack 43 = .ok (.daload, 1) := by decide +kernel
theorem dX1_hundredthsOnRack_44 : decode cX1_hundredthsOnRack 44 = .ok (.dadd, 1) := by decide +kernel
theorem dX1_hundredthsOnRack_45 : decode cX1_hundredthsOnRack 45 = .ok (.dstore_n 3, 1) := by decide +kernel
theorem dX1_hundredthsOnRack_46 : decode cX1_hundredthsOnRack 46 = .ok (.iinc 5 1, 3) := by decide +kernel
theorem dX1_hundredthsOnRack_49 : decode cX1_hundredthsOnRack 49 = .ok (.goto (-42), 3) := by decide +kernel
theorem dX1_hundredthsOnRack_52 : decode cX1_hundredthsOnRack 52 = .ok (.dload_n 3, 1) := by decide +kernel
theorem dX1_hundredthsOnRack_53 : decode cX1_hundredthsOnRack 53 = .ok (.dconst 0, 1) := by decide +kernel
theorem dX1_hundredthsOnRack_54 : decode cX1_hundredthsOnRack 54 = .ok (.dcmp .l, 1) := by decide +kernel
theorem dX1_hundredthsOnRack_55 : decode cX1_hundredthsOnRack 55 = .ok (.ifCond .le 14, 3) := by decide +kernel
theorem dX1_hundredthsOnRack_58 : decode cX1_hundredthsOnRack 58 = .ok (.dload_n 1, 1) := by decide +kernel
theorem dX1_hundredthsOnRack_59 : decode cX1_hundredthsOnRack 59 = .ok (.dload_n 3, 1) := by decide +kernel
theorem dX1_hundredthsOnRack_60 : decode cX1_hundredthsOnRack 60 = .ok (.ddiv, 1) := by decide +kernel
theorem dX1_hundredthsOnRack_61 : decode cX1_hundredthsOnRack 61 = .ok (.ldc2_w 58, 3) := by decide +kernel
theorem dX1_hundredthsOnRack_64 : decode cX1_hundredthsOnRack 64 = .ok (.dmul, 1) := by decide +kernel
theorem dX1_hundredthsOnRack_65 : decode cX1_hundredthsOnRack 65 = .ok (.d2i, 1) := by decide +kernel
theorem dX1_hundredthsOnRack_66 : decode cX1_hundredthsOnRack 66 = .ok (.goto 4, 3) := by decide +kernel
theorem dX1_hundredthsOnRack_69 : decode cX1_hundredthsOnRack 69 = .ok (.iconst 0, 1) := by decide +kernel
theorem dX1_hundredthsOnRack_70 : decode cX1_hundredthsOnRack 70 = .ok (.ireturn, 1) := by decide +kernel
theorem dX1_newCapacity_0 : decode cX1_newCapacity 0 = .ok (.iload_n 0, 1) := by decide +kernel
theorem dX1_newCapacity_1 : decode cX1_newCapacity 1 = .ok (.ifCond .ne 9, 3) := by decide +kernel
theorem dX1_newCapacity_4 : decode cX1_newCapacity 4 = .ok (.ldc2_w 60, 3) := by decide +kernel
theorem dX1_newCapacity_7 : decode cX1_newCapacity 7 = .ok (.goto 17, 3) := by decide +kernel
theorem dX1_newCapacity_10 : decode cX1_newCapacity 10 = .ok (.iload_n 0, 1) := by decide +kernel
theorem dX1_newCapacity_11 : decode cX1_newCapacity 11 = .ok (.iconst 1, 1) := by decide +kernel
theorem dX1_newCapacity_12 : decode cX1_newCapacity 12 = .ok (.if_icmp .ne 9, 3) := by decide +kernel
theorem dX1_newCapacity_15 : decode cX1_newCapacity 15 = .ok (.ldc2_w 62, 3) := by decide +kernel
theorem dX1_newCapacity_18 : decode cX1_newCapacity 18 = .ok (.goto 6, 3) := by decide +kernel
theorem dX1_newCapacity_21 : decode cX1_newCapacity 21 = .ok (.ldc2_w 64, 3) := by decide +kernel
theorem dX1_newCapacity_24 : decode cX1_newCapacity 24 = .ok (.dreturn, 1) := by decide +kernel
theorem dX2_init_0 : decode cX2_init 0 = .ok (.aload_n 0, 1) := by decide +kernel
theorem dX2_init_1 : decode cX2_init 1 = .ok (.invokespecial 3, 3) := by decide +kernel
theorem dX2_init_4 : decode cX2_init 4 = .ok (.aload_n 0, 1) := by decide +kernel
theorem dX2_init_5 : decode cX2_init 5 = .ok (.bipush 30, 2) := by decide +kernel
theorem dX2_init_7 : decode cX2_init 7 = .ok (.newarray .int, 2) := by decide +kernel
theorem dX2_init_9 : decode cX2_init 9 = .ok (.putfield 9, 3) := by decide +kernel
theorem dX2_init_12 : decode cX2_init 12 = .ok (.aload_n 0, 1) := by decide +kernel
theorem dX2_init_13 : decode cX2_init 13 = .ok (.bipush 30, 2) := by decide +kernel
theorem dX2_init_15 : decode cX2_init 15 = .ok (.newarray .int, 2) := by decide +kernel
theorem dX2_init_17 : decode cX2_init 17 = .ok (.putfield 15, 3) := by decide +kernel
theorem dX2_init_20 : decode cX2_init 20 = .ok (.aload_n 0, 1) := by decide +kernel
theorem dX2_init_21 : decode cX2_init 21 = .ok (.bipush 30, 2) := by decide +kernel
theorem dX2_init_23 : decode cX2_init 23 = .ok (.newarray .int, 2) := by decide +kernel
theorem dX2_init_25 : decode cX2_init 25 = .ok (.putfield 18, 3) := by decide +kernel
theorem dX2_init_28 : decode cX2_init 28 = .ok (.aload_n 0, 1) := by decide +kernel
theorem dX2_init_29 : decode cX2_init 29 = .ok (.bipush 30, 2) := by decide +kernel
theorem dX2_init_31 : decode cX2_init 31 = .ok (.newarray .int, 2) := by decide +kernel
theorem dX2_init_33 : decode cX2_init 33 = .ok (.putfield 21, 3) := by decide +kernel
theorem dX2_init_36 : decode cX2_init 36 = .ok (.aload_n 0, 1) := by decide +kernel
theorem dX2_init_37 : decode cX2_init 37 = .ok (.iconst 0, 1) := by decide +kernel
theorem dX2_init_38 : decode cX2_init 38 = .ok (.putfield 24, 3) := by decide +kernel
theorem dX2_init_41 : decode cX2_init 41 = .ok (.aload_n 0, 1) := by decide +kernel
theorem dX2_init_42 : decode cX2_init 42 = .ok (.iconst 0, 1) := by decide +kernel
theorem dX2_init_43 : decode cX2_init 43 = .ok (.putfield 28, 3) := by decide +kernel
theorem dX2_init_46 : decode cX2_init 46 = .ok (.return_, 1) := by decide +kernel
theorem dX2_size_0 : decode cX2_size 0 = .ok (.aload_n 0, 1) := by decide +kernel
theorem dX2_size_1 : decode cX2_size 1 = .ok (.getfield 24, 3) := by decide +kernel
theorem dX2_size_4 : decode cX2_size 4 = .ok (.ireturn, 1) := by decide +kernel
theorem dX2_kindAt_0 : decode cX2_kindAt 0 = .ok (.aload_n 0, 1) := by decide +kernel
theorem dX2_kindAt_1 : decode cX2_kindAt 1 = .ok (.getfield 9, 3) := by decide +kernel
theorem dX2_kindAt_4 : decode cX2_kindAt 4 = .ok (.iload_n 1, 1) := by decide +kernel
theorem dX2_kindAt_5 : decode cX2_kindAt 5 = .ok (.iaload, 1) := by decide +kernel
theorem dX2_kindAt_6 : decode cX2_kindAt 6 = .ok (.ireturn, 1) := by decide +kernel
theorem dX2_lampHeld_0 : decode cX2_lampHeld 0 = .ok (.aload_n 0, 1) := by decide +kernel
theorem dX2_lampHeld_1 : decode cX2_lampHeld 1 = .ok (.getfield 15, 3) := by decide +kernel
theorem dX2_lampHeld_4 : decode cX2_lampHeld 4 = .ok (.iload_n 1, 1) := by decide +kernel
theorem dX2_lampHeld_5 : decode cX2_lampHeld 5 = .ok (.iaload, 1) := by decide +kernel
theorem dX2_lampHeld_6 : decode cX2_lampHeld 6 = .ok (.ireturn, 1) := by decide +kernel
theorem dX2_hungAt_0 : decode cX2_hungAt 0 = .ok (.aload_n 0, 1) := by decide +kernel
theorem dX2_hungAt_1 : decode cX2_hungAt 1 = .ok (.getfield 18, 3) := by decide +kernel
theorem dX2_hungAt_4 : decode cX2_hungAt 4 = .ok (.iload_n 1, 1) := by decide +kernel
theorem dX2_hungAt_5 : decode cX2_hungAt 5 = .ok (.iaload, 1) := by decide +kernel
theorem dX2_hungAt_6 : decode cX2_hungAt 6 = .ok (.ireturn, 1) := by decide +kernel
theorem dX2_enter_0 : decode cX2_enter 0 = .ok (.aload_n 0, 1) := by decide +kernel
theorem dX2_enter_1 : decode cX2_enter 1 = .ok (.getfield 24, 3) := by decide +kernel
theorem dX2_enter_4 : decode cX2_enter 4 = .ok (.istore_n 2, 1) := by decide +kernel
theorem dX2_enter_5 : decode cX2_enter 5 = .ok (.aload_n 0, 1) := by decide +kernel
theorem dX2_enter_6 : decode cX2_enter 6 = .ok (.getfield 9, 3) := by decide +kernel
theorem dX2_enter_9 : decode cX2_enter 9 = .ok (.iload_n 2, 1) := by decide +kernel
theorem dX2_enter_10 : decode cX2_enter 10 = .ok (.iload_n 1, 1) := by decide +kernel
theorem dX2_enter_11 : decode cX2_enter 11 = .ok (.iastore, 1) := by decide +kernel
theorem dX2_enter_12 : decode cX2_enter 12 = .ok (.aload_n 0, 1) := by decide +kernel
theorem dX2_enter_13 : decode cX2_enter 13 = .ok (.getfield 15, 3) := by decide +kernel
theorem dX2_enter_16 : decode cX2_enter 16 = .ok (.iload_n 2, 1) := by decide +kernel
theorem dX2_enter_17 : decode cX2_enter 17 = .ok (.iconst (-1), 1) := by decide +kernel
theorem dX2_enter_18 : decode cX2_enter 18 = .ok (.iastore, 1) := by decide +kernel
theorem dX2_enter_19 : decode cX2_enter 19 = .ok (.aload_n 0, 1) := by decide +kernel
theorem dX2_enter_20 : decode cX2_enter 20 = .ok (.dup, 1) := by decide +kernel
theorem dX2_enter_21 : decode cX2_enter 21 = .ok (.getfield 24, 3) := by decide +kernel
theorem dX2_enter_24 : decode cX2_enter 24 = .ok (.iconst 1, 1) := by decide +kernel
theorem dX2_enter_25 : decode cX2_enter 25 = .ok (.iadd, 1) := by decide +kernel
theorem dX2_enter_26 : decode cX2_enter 26 = .ok (.putfield 24, 3) := by decide +kernel
theorem dX2_enter_29 : decode cX2_enter 29 = .ok (.iload_n 2, 1) := by decide +kernel
theorem dX2_enter_30 : decode cX2_enter 30 = .ok (.ireturn, 1) := by decide +kernel
theorem dX2_hangUp_0 : decode cX2_hangUp 0 = .ok (.aload_n 0, 1) := by decide +kernel
theorem dX2_hangUp_1 : decode cX2_hangUp 1 = .ok (.getfield 15, 3) := by decide +kernel
theorem dX2_hangUp_4 : decode cX2_hangUp 4 = .ok (.iload_n 1, 1) := by decide +kernel
theorem dX2_hangUp_5 : decode cX2_hangUp 5 = .ok (.iload_n 2, 1) := by decide +kernel
theorem dX2_hangUp_6 : decode cX2_hangUp 6 = .ok (.iastore, 1) := by decide +kernel
theorem dX2_hangUp_7 : decode cX2_hangUp 7 = .ok (.aload_n 0, 1) := by decide +kernel
theorem dX2_hangUp_8 : decode cX2_hangUp 8 = .ok (.getfield 18, 3) := by decide +kernel
theorem dX2_hangUp_11 : decode cX2_hangUp 11 = .ok (.iload_n 1, 1) := by decide +kernel
theorem dX2_hangUp_12 : decode cX2_hangUp 12 = .ok (.iload_n 3, 1) := by decide +kernel
theorem dX2_hangUp_13 : decode cX2_hangUp 13 = .ok (.iastore, 1) := by decide +kernel
theorem dX2_hangUp_14 : decode cX2_hangUp 14 = .ok (.aload_n 0, 1) := by decide +kernel
theorem dX2_hangUp_15 : decode cX2_hangUp 15 = .ok (.getfield 21, 3) := by decide +kernel
theorem dX2_hangUp_18 : decode cX2_hangUp 18 = .ok (.iload_n 1, 1) := by decide +kernel
theorem dX2_hangUp_19 : decode cX2_hangUp 19 = .ok (.aload_n 0, 1) := by decide +kernel
theorem dX2_hangUp_20 : decode cX2_hangUp 20 = .ok (.getfield 28, 3) := by decide +kernel
theorem dX2_hangUp_23 : decode cX2_hangUp 23 = .ok (.iastore, 1) := by decide +kernel
theorem dX2_hangUp_24 : decode cX2_hangUp 24 = .ok (.aload_n 0, 1) := by decide +kernel
theorem dX2_hangUp_25 : decode cX2_hangUp 25 = .ok (.dup, 1) := by decide +kernel
theorem dX2_hangUp_26 : decode cX2_hangUp 26 = .ok (.getfield 28, 3) := by decide +kernel
theorem dX2_hangUp_29 : decode cX2_hangUp 29 = .ok (.iconst 1, 1) := by decide +kernel
theorem dX2_hangUp_30 : decode cX2_hangUp 30 = .ok (.iadd, 1) := by decide +kernel
theorem dX2_hangUp_31 : decode cX2_hangUp 31 = .ok (.putfield 28, 3) := by decide +kernel
theorem dX2_hangUp_34 : decode cX2_hangUp 34 = .ok (.return_, 1) := by decide +kernel
theorem dX2_takeDown_0 : decode cX2_takeDown 0 = .ok (.aload_n 0, 1) := by decide +kernel
theorem dX2_takeDown_1 : decode cX2_takeDown 1 = .ok (.getfield 15, 3) := by decide +kernel
theorem dX2_takeDown_4 : decode cX2_takeDown 4 = .ok (.iload_n 1, 1) := by decide +kernel
theorem dX2_takeDown_5 : decode cX2_takeDown 5 = .ok (.iconst (-1), 1) := by decide +kernel
theorem dX2_takeDown_6 : decode cX2_takeDown 6 = .ok (.iastore, 1) := by decide +kernel
theorem dX2_takeDown_7 : decode cX2_takeDown 7 = .ok (.return_, 1) := by decide +kernel
theorem dX2_onBoard_0 : decode cX2_onBoard 0 = .ok (.iconst 0, 1) := by decide +kernel
theorem dX2_onBoard_1 : decode cX2_onBoard 1 = .ok (.istore_n 1, 1) := by decide +kernel
theorem dX2_onBoard_2 : decode cX2_onBoard 2 = .ok (.iconst 0, 1) := by decide +kernel
theorem dX2_onBoard_3 : decode cX2_onBoard 3 = .ok (.istore_n 2, 1) := by decide +kernel
theorem dX2_onBoard_4 : decode cX2_onBoard 4 = .ok (.iload_n 2, 1) := by decide +kernel
theorem dX2_onBoard_5 : decode cX2_onBoard 5 = .ok (.aload_n 0, 1) := by decide +kernel
theorem dX2_onBoard_6 : decode cX2_onBoard 6 = .ok (.getfield 24, 3) := by decide +kernel
theorem dX2_onBoard_9 : decode cX2_onBoard 9 = .ok (.if_icmp .ge 22, 3) := by decide +kernel
theorem dX2_onBoard_12 : decode cX2_onBoard 12 = .ok (.aload_n 0, 1) := by decide +kernel
theorem dX2_onBoard_13 : decode cX2_onBoard 13 = .ok (.getfield 15, 3) := by decide +kernel
theorem dX2_onBoard_16 : decode cX2_onBoard 16 = .ok (.iload_n 2, 1) := by decide +kernel
theorem dX2_onBoard_17 : decode cX2_onBoard 17 = .ok (.iaload, 1) := by decide +kernel
theorem dX2_onBoard_18 : decode cX2_onBoard 18 = .ok (.iconst (-1), 1) := by decide +kernel
theorem dX2_onBoard_19 : decode cX2_onBoard 19 = .ok (.if_icmp .eq 6, 3) := by decide +kernel
theorem dX2_onBoard_22 : decode cX2_onBoard 22 = .ok (.iinc 1 1, 3) := by decide +kernel
theorem dX2_onBoard_25 : decode cX2_onBoard 25 = .ok (.iinc 2 1, 3) := by decide +kernel
theorem dX2_onBoard_28 : decode cX2_onBoard 28 = .ok (.goto (-24), 3) := by decide +kernel
theorem dX2_onBoard_31 : decode cX2_onBoard 31 = .ok (.iload_n 1, 1) := by decide +kernel
theorem dX2_onBoard_32 : decode cX2_onBoard 32 = .ok (.ireturn, 1) := by decide +kernel
set_option maxRecDepth 20000 in
theorem ggX2_onBoardAt_X2_countAhead : GoodIn wsX2_onBoardAt wsX2_countAhead := goodIn_r _ [7, 1, 2, 8, 9, 10, 11, 12, 13, 14] (by decide +kernel) (by decide +kernel)
set_option maxRecDepth 20000 in
theorem gX2_onBoardAt_X2_countAhead : GoodIn wsX2_onBoardAt (wsV RX2 31 RX2 yX2_countAhead wsX2_countAhead) := goodIn_app (goodIn_of _ (by decide +kernel)) ggX2_onBoardAt_X2_countAhead
theorem dX2_onBoardAt_0 : decode cX2_onBoardAt 0 = .ok (.iconst 0, 1) := by decide +kernel
theorem dX2_onBoardAt_1 : decode cX2_onBoardAt 1 = .ok (.istore_n 2, 1) := by decide +kernel
theorem dX2_onBoardAt_2 : decode cX2_onBoardAt 2 = .ok (.iload_n 2, 1) := by decide +kernel
theorem dX2_onBoardAt_3 : decode cX2_onBoardAt 3 = .ok (.aload_n 0, 1) := by decide +kernel
theorem dX2_onBoardAt_4 : decode cX2_onBoardAt 4 = .ok (.getfield 24, 3) := by decide +kernel
theorem dX2_onBoardAt_7 : decode cX2_onBoardAt 7 = .ok (.if_icmp .ge 30, 3) := by decide +kernel
theorem dX2_onBoardAt_10 : decode cX2_onBoardAt 10 = .ok (.aload_n 0, 1) := by decide +kernel
theorem dX2_onBoardAt_11 : decode cX2_onBoardAt 11 = .ok (.getfield 15, 3) := by decide +kernel
theorem dX2_onBoardAt_14 : decode cX2_onBoardAt 14 = .ok (.iload_n 2, 1) := by decide +kernel
theorem dX2_onBoardAt_15 : decode cX2_onBoardAt 15 = .ok (.iaload, 1) := by decide +kernel
theorem dX2_onBoardAt_16 : decode cX2_onBoardAt 16 = .ok (.iconst (-1), 1) := by decide +kernel
theorem dX2_onBoardAt_17 : decode cX2_onBoardAt 17 = .ok (.if_icmp .eq 14, 3) := by decide +kernel
theorem dX2_onBoardAt_20 : decode cX2_onBoardAt 20 = .ok (.aload_n 0, 1) := by decide +kernel
theorem dX2_onBoardAt_21 : decode cX2_onBoardAt 21 = .ok (.iload_n 2, 1) := by decide +kernel
theorem dX2_onBoardAt_22 : decode cX2_onBoardAt 22 = .ok (.invokevirtual 31, 3) := by decide +kernel
theorem dX2_onBoardAt_25 : decode cX2_onBoardAt 25 = .ok (.iload_n 1, 1) := by decide +kernel
theorem dX2_onBoardAt_26 : decode cX2_onBoardAt 26 = .ok (.if_icmp .ne 5, 3) := by decide +kernel
theorem dX2_onBoardAt_29 : decode cX2_onBoardAt 29 = .ok (.iload_n 2, 1) := by decide +kernel
theorem dX2_onBoardAt_30 : decode cX2_onBoardAt 30 = .ok (.ireturn, 1) := by decide +kernel
theorem dX2_onBoardAt_31 : decode cX2_onBoardAt 31 = .ok (.iinc 2 1, 3) := by decide +kernel
theorem dX2_onBoardAt_34 : decode cX2_onBoardAt 34 = .ok (.goto (-32), 3) := by decide +kernel
theorem dX2_onBoardAt_37 : decode cX2_onBoardAt 37 = .ok (.iconst (-1), 1) := by decide +kernel
theorem dX2_onBoardAt_38 : decode cX2_onBoardAt 38 = .ok (.ireturn, 1) := by decide +kernel
theorem dX2_countAhead_0 : decode cX2_countAhead 0 = .ok (.iconst 0, 1) := by decide +kernel
theorem dX2_countAhead_1 : decode cX2_countAhead 1 = .ok (.istore_n 2, 1) := by decide +kernel
theorem dX2_countAhead_2 : decode cX2_countAhead 2 = .ok (.iconst 0, 1) := by decide +kernel
theorem dX2_countAhead_3 : decode cX2_countAhead 3 = .ok (.istore_n 3, 1) := by decide +kernel
theorem dX2_countAhead_4 : decode cX2_countAhead 4 = .ok (.iload_n 3, 1) := by decide +kernel
theorem dX2_countAhead_5 : decode cX2_countAhead 5 = .ok (.aload_n 0, 1) := by decide +kernel
theorem dX2_countAhead_6 : decode cX2_countAhead 6 = .ok (.getfield 24, 3) := by decide +kernel
theorem dX2_countAhead_9 : decode cX2_countAhead 9 = .ok (.if_icmp .ge 37, 3) := by decide +kernel
theorem dX2_countAhead_12 : decode cX2_countAhead 12 = .ok (.aload_n 0, 1) := by decide +kernel
theorem dX2_countAhead_13 : decode cX2_countAhead 13 = .ok (.getfield 15, 3) := by decide +kernel
theorem dX2_countAhead_16 : decode cX2_countAhead 16 = .ok (.iload_n 3, 1) := by decide +kernel
theorem dX2_countAhead_17 : decode cX2_countAhead 17 = .ok (.iaload, 1) := by decide +kernel
theorem dX2_countAhead_18 : decode cX2_countAhead 18 = .ok (.iconst (-1), 1) := by decide +kernel
theorem dX2_countAhead_19 : decode cX2_countAhead 19 = .ok (.if_icmp .eq 21, 3) := by decide +kernel
theorem dX2_countAhead_22 : decode cX2_countAhead 22 = .ok (.aload_n 0, 1) := by decide +kernel
theorem dX2_countAhead_23 : decode cX2_countAhead 23 = .ok (.getfield 21, 3) := by decide +kernel
theorem dX2_countAhead_26 : decode cX2_countAhead 26 = .ok (.iload_n 3, 1) := by decide +kernel
theorem dX2_countAhead_27 : decode cX2_countAhead 27 = .ok (.iaload, 1) := by decide +kernel
theorem dX2_countAhead_28 : decode cX2_countAhead 28 = .ok (.aload_n 0, 1) := by decide +kernel
theorem dX2_countAhead_29 : decode cX2_countAhead 29 = .ok (.getfield 21, 3) := by decide +kernel
theorem dX2_countAhead_32 : decode cX2_countAhead 32 = .ok (.iload_n 1, 1) := by decide +kernel
theorem dX2_countAhead_33 : decode cX2_countAhead 33 = .ok (.iaload, 1) := by decide +kernel
theorem dX2_countAhead_34 : decode cX2_countAhead 34 = .ok (.if_icmp .ge 6, 3) := by decide +kernel
theorem dX2_countAhead_37 : decode cX2_countAhead 37 = .ok (.iinc 2 1, 3) := by decide +kernel
theorem dX2_countAhead_40 : decode cX2_countAhead 40 = .ok (.iinc 3 1, 3) := by decide +kernel
theorem dX2_countAhead_43 : decode cX2_countAhead 43 = .ok (.goto (-39), 3) := by decide +kernel
theorem dX2_countAhead_46 : decode cX2_countAhead 46 = .ok (.iload_n 2, 1) := by decide +kernel
theorem dX2_countAhead_47 : decode cX2_countAhead 47 = .ok (.ireturn, 1) := by decide +kernel
