theorem dX0_init_0 : decode cX0_init 0 = .ok (.aload_n 0, 1) := by decide +kernel
theorem dX0_init_1 : decode cX0_init 1 = .ok (.invokespecial 3, 3) := by decide +kernel
theorem dX0_init_4 : decode cX0_init 4 = .ok (.aload_n 0, 1) := by decide +kernel
theorem dX0_init_5 : decode cX0_init 5 = .ok (.bipush 60, 2) := by decide +kernel
theorem dX0_init_7 : decode cX0_init 7 = .ok (.newarray .int, 2) := by decide +kernel
theorem dX0_init_9 : decode cX0_init 9 = .ok (.putfield 9, 3) := by decide +kernel
theorem dX0_init_12 : decode cX0_init 12 = .ok (.return_, 1) := by decide +kernel
set_option maxRecDepth 20000 in
theorem ggX0_lastingAt_X0_countAhead : GoodIn wsX0_lastingAt wsX0_countAhead := goodIn_r _ [6, 1, 7, 8, 9, 5, 10, 11] (by decide +kernel) (by decide +kernel)
set_option maxRecDepth 20000 in
theorem gX0_lastingAt_X0_countAhead : GoodIn wsX0_lastingAt (wsV RX0 15 RX0 yX0_countAhead wsX0_countAhead) := goodIn_app (goodIn_of _ (by decide +kernel)) ggX0_lastingAt_X0_countAhead
theorem dX0_lastingAt_0 : decode cX0_lastingAt 0 = .ok (.iconst 0, 1) := by decide +kernel
theorem dX0_lastingAt_1 : decode cX0_lastingAt 1 = .ok (.istore_n 2, 1) := by decide +kernel
theorem dX0_lastingAt_2 : decode cX0_lastingAt 2 = .ok (.iload_n 2, 1) := by decide +kernel
theorem dX0_lastingAt_3 : decode cX0_lastingAt 3 = .ok (.aload_n 0, 1) := by decide +kernel
theorem dX0_lastingAt_4 : decode cX0_lastingAt 4 = .ok (.getfield 9, 3) := by decide +kernel
theorem dX0_lastingAt_7 : decode cX0_lastingAt 7 = .ok (.arraylength, 1) := by decide +kernel
theorem dX0_lastingAt_8 : decode cX0_lastingAt 8 = .ok (.if_icmp .ge 29, 3) := by decide +kernel
theorem dX0_lastingAt_11 : decode cX0_lastingAt 11 = .ok (.aload_n 0, 1) := by decide +kernel
theorem dX0_lastingAt_12 : decode cX0_lastingAt 12 = .ok (.getfield 9, 3) := by decide +kernel
theorem dX0_lastingAt_15 : decode cX0_lastingAt 15 = .ok (.iload_n 2, 1) := by decide +kernel
theorem dX0_lastingAt_16 : decode cX0_lastingAt 16 = .ok (.iaload, 1) := by decide +kernel
theorem dX0_lastingAt_17 : decode cX0_lastingAt 17 = .ok (.ifCond .eq 14, 3) := by decide +kernel
theorem dX0_lastingAt_20 : decode cX0_lastingAt 20 = .ok (.aload_n 0, 1) := by decide +kernel
theorem dX0_lastingAt_21 : decode cX0_lastingAt 21 = .ok (.iload_n 2, 1) := by decide +kernel
theorem dX0_lastingAt_22 : decode cX0_lastingAt 22 = .ok (.invokevirtual 15, 3) := by decide +kernel
theorem dX0_lastingAt_25 : decode cX0_lastingAt 25 = .ok (.iload_n 1, 1) := by decide +kernel
theorem dX0_lastingAt_26 : decode cX0_lastingAt 26 = .ok (.if_icmp .ne 5, 3) := by decide +kernel
theorem dX0_lastingAt_29 : decode cX0_lastingAt 29 = .ok (.iload_n 2, 1) := by decide +kernel
theorem dX0_lastingAt_30 : decode cX0_lastingAt 30 = .ok (.ireturn, 1) := by decide +kernel
theorem dX0_lastingAt_31 : decode cX0_lastingAt 31 = .ok (.iinc 2 1, 3) := by decide +kernel
theorem dX0_lastingAt_34 : decode cX0_lastingAt 34 = .ok (.goto (-32), 3) := by decide +kernel
theorem dX0_lastingAt_37 : decode cX0_lastingAt 37 = .ok (.iconst (-1), 1) := by decide +kernel
theorem dX0_lastingAt_38 : decode cX0_lastingAt 38 = .ok (.ireturn, 1) := by decide +kernel
set_option maxRecDepth 20000 in
theorem ggX0_countAhead_X0_isAhead : GoodIn wsX0_countAhead wsX0_isAhead := goodIn_r _ [6, 1, 7] (by decide +kernel) (by decide +kernel)
set_option maxRecDepth 20000 in
theorem gX0_countAhead_X0_isAhead : GoodIn wsX0_countAhead (wsV RX0 19 RX0 yX0_isAhead wsX0_isAhead) := goodIn_app (goodIn_of _ (by decide +kernel)) ggX0_countAhead_X0_isAhead
theorem dX0_countAhead_0 : decode cX0_countAhead 0 = .ok (.iconst 0, 1) := by decide +kernel
theorem dX0_countAhead_1 : decode cX0_countAhead 1 = .ok (.istore_n 2, 1) := by decide +kernel
theorem dX0_countAhead_2 : decode cX0_countAhead 2 = .ok (.iconst 0, 1) := by decide +kernel
theorem dX0_countAhead_3 : decode cX0_countAhead 3 = .ok (.istore_n 3, 1) := by decide +kernel
theorem dX0_countAhead_4 : decode cX0_countAhead 4 = .ok (.iload_n 3, 1) := by decide +kernel
theorem dX0_countAhead_5 : decode cX0_countAhead 5 = .ok (.aload_n 0, 1) := by decide +kernel
theorem dX0_countAhead_6 : decode cX0_countAhead 6 = .ok (.getfield 9, 3) := by decide +kernel
theorem dX0_countAhead_9 : decode cX0_countAhead 9 = .ok (.arraylength, 1) := by decide +kernel
theorem dX0_countAhead_10 : decode cX0_countAhead 10 = .ok (.if_icmp .ge 30, 3) := by decide +kernel
theorem dX0_countAhead_13 : decode cX0_countAhead 13 = .ok (.aload_n 0, 1) := by decide +kernel
theorem dX0_countAhead_14 : decode cX0_countAhead 14 = .ok (.getfield 9, 3) := by decide +kernel
theorem dX0_countAhead_17 : decode cX0_countAhead 17 = .ok (.iload_n 3, 1) := by decide +kernel
theorem dX0_countAhead_18 : decode cX0_countAhead 18 = .ok (.iaload, 1) := by decide +kernel
theorem dX0_countAhead_19 : decode cX0_countAhead 19 = .ok (.ifCond .eq 15, 3) := by decide +kernel
theorem dX0_countAhead_22 : decode cX0_countAhead 22 = .ok (.aload_n 0, 1) := by decide +kernel
theorem dX0_countAhead_23 : decode cX0_countAhead 23 = .ok (.iload_n 3, 1) := by decide +kernel
theorem dX0_countAhead_24 : decode cX0_countAhead 24 = .ok (.iload_n 1, 1) := by decide +kernel
theorem dX0_countAhead_25 : decode cX0_countAhead 25 = .ok (.invokevirtual 19, 3) := by decide +kernel
theorem dX0_countAhead_28 : decode cX0_countAhead 28 = .ok (.ifCond .eq 6, 3) := by decide +kernel
theorem dX0_countAhead_31 : decode cX0_countAhead 31 = .ok (.iinc 2 1, 3) := by decide +kernel
theorem dX0_countAhead_34 : decode cX0_countAhead 34 = .ok (.iinc 3 1, 3) := by decide +kernel
theorem dX0_countAhead_37 : decode cX0_countAhead 37 = .ok (.goto (-33), 3) := by decide +kernel
theorem dX0_countAhead_40 : decode cX0_countAhead 40 = .ok (.iload_n 2, 1) := by decide +kernel
theorem dX0_countAhead_41 : decode cX0_countAhead 41 = .ok (.ireturn, 1) := by decide +kernel
theorem dX0_isAhead_0 : decode cX0_isAhead 0 = .ok (.aload_n 0, 1) := by decide +kernel
theorem dX0_isAhead_1 : decode cX0_isAhead 1 = .ok (.getfield 9, 3) := by decide +kernel
theorem dX0_isAhead_4 : decode cX0_isAhead 4 = .ok (.iload_n 1, 1) := by decide +kernel
theorem dX0_isAhead_5 : decode cX0_isAhead 5 = .ok (.iaload, 1) := by decide +kernel
theorem dX0_isAhead_6 : decode cX0_isAhead 6 = .ok (.aload_n 0, 1) := by decide +kernel
theorem dX0_isAhead_7 : decode cX0_isAhead 7 = .ok (.getfield 9, 3) := by decide +kernel
theorem dX0_isAhead_10 : decode cX0_isAhead 10 = .ok (.iload_n 2, 1) := by decide +kernel
theorem dX0_isAhead_11 : decode cX0_isAhead 11 = .ok (.iaload, 1) := by decide +kernel
theorem dX0_isAhead_12 : decode cX0_isAhead 12 = .ok (.if_icmp .lt 23, 3) := by decide +kernel
theorem dX0_isAhead_15 : decode cX0_isAhead 15 = .ok (.aload_n 0, 1) := by decide +kernel
theorem dX0_isAhead_16 : decode cX0_isAhead 16 = .ok (.getfield 9, 3) := by decide +kernel
theorem dX0_isAhead_19 : decode cX0_isAhead 19 = .ok (.iload_n 1, 1) := by decide +kernel
theorem dX0_isAhead_20 : decode cX0_isAhead 20 = .ok (.iaload, 1) := by decide +kernel
theorem dX0_isAhead_21 : decode cX0_isAhead 21 = .ok (.aload_n 0, 1) := by decide +kernel
theorem dX0_isAhead_22 : decode cX0_isAhead 22 = .ok (.getfield 9, 3) := by decide +kernel
theorem dX0_isAhead_25 : decode cX0_isAhead 25 = .ok (.iload_n 2, 1) := by decide +kernel
theorem dX0_isAhead_26 : decode cX0_isAhead 26 = .ok (.iaload, 1) := by decide +kernel
theorem dX0_isAhead_27 : decode cX0_isAhead 27 = .ok (.if_icmp .ne 12, 3) := by decide +kernel
theorem dX0_isAhead_30 : decode cX0_isAhead 30 = .ok (.iload_n 1, 1) := by decide +kernel
theorem dX0_isAhead_31 : decode cX0_isAhead 31 = .ok (.iload_n 2, 1) := by decide +kernel
theorem dX0_isAhead_32 : decode cX0_isAhead 32 = .ok (.if_icmp .ge 7, 3) := by decide +kernel
theorem dX0_isAhead_35 : decode cX0_isAhead 35 = .ok (.iconst 1, 1) := by decide +kernel
theorem dX0_isAhead_36 : decode cX0_isAhead 36 = .ok (.goto 4, 3) := by decide +kernel
theorem dX0_isAhead_39 : decode cX0_isAhead 39 = .ok (.iconst 0, 1) := by decide +kernel
theorem dX0_isAhead_40 : decode cX0_isAhead 40 = .ok (.ireturn, 1) := by decide +kernel
theorem dX1_init_0 : decode cX1_init 0 = .ok (.aload_n 0, 1) := by decide +kernel
theorem dX1_init_1 : decode cX1_init 1 = .ok (.invokespecial 3, 3) := by decide +kernel
theorem dX1_init_4 : decode cX1_init 4 = .ok (.aload_n 0, 1) := by decide +kernel
theorem dX1_init_5 : decode cX1_init 5 = .ok (.bipush 40, 2) := by decide +kernel
theorem dX1_init_7 : decode cX1_init 7 = .ok (.newarray .int, 2) := by decide +kernel
theorem dX1_init_9 : decode cX1_init 9 = .ok (.putfield 9, 3) := by decide +kernel
theorem dX1_init_12 : decode cX1_init 12 = .ok (.aload_n 0, 1) := by decide +kernel
theorem dX1_init_13 : decode cX1_init 13 = .ok (.bipush 40, 2) := by decide +kernel
theorem dX1_init_15 : decode cX1_init 15 = .ok (.newarray .int, 2) := by decide +kernel
theorem dX1_init_17 : decode cX1_init 17 = .ok (.putfield 15, 3) := by decide +kernel
theorem dX1_init_20 : decode cX1_init 20 = .ok (.aload_n 0, 1) := by decide +kernel
theorem dX1_init_21 : decode cX1_init 21 = .ok (.bipush 40, 2) := by decide +kernel
theorem dX1_init_23 : decode cX1_init 23 = .ok (.newarray .int, 2) := by decide +kernel
theorem dX1_init_25 : decode cX1_init 25 = .ok (.putfield 18, 3) := by decide +kernel
theorem dX1_init_28 : decode cX1_init 28 = .ok (.aload_n 0, 1) := by decide +kernel
theorem dX1_init_29 : decode cX1_init 29 = .ok (.bipush 40, 2) := by decide +kernel
theorem dX1_init_31 : decode cX1_init 31 = .ok (.newarray .boolean, 2) := by decide +kernel
theorem dX1_init_33 : decode cX1_init 33 = .ok (.putfield 21, 3) := by decide +kernel
theorem dX1_init_36 : decode cX1_init 36 = .ok (.aload_n 0, 1) := by decide +kernel
theorem dX1_init_37 : decode cX1_init 37 = .ok (.bipush 40, 2) := by decide +kernel
theorem dX1_init_39 : decode cX1_init 39 = .ok (.newarray .double, 2) := by decide +kernel
theorem dX1_init_41 : decode cX1_init 41 = .ok (.putfield 25, 3) := by decide +kernel
theorem dX1_init_44 : decode cX1_init 44 = .ok (.aload_n 0, 1) := by decide +kernel
theorem dX1_init_45 : decode cX1_init 45 = .ok (.bipush 40, 2) := by decide +kernel
theorem dX1_init_47 : decode cX1_init 47 = .ok (.newarray .double, 2) := by decide +kernel
theorem dX1_init_49 : decode cX1_init 49 = .ok (.putfield 29, 3) := by decide +kernel
theorem dX1_init_52 : decode cX1_init 52 = .ok (.aload_n 0, 1) := by decide +kernel
theorem dX1_init_53 : decode cX1_init 53 = .ok (.iconst 0, 1) := by decide +kernel
theorem dX1_init_54 : decode cX1_init 54 = .ok (.putfield 32, 3) := by decide +kernel
theorem dX1_init_57 : decode cX1_init 57 = .ok (.return_, 1) := by decide +kernel
theorem dX1_size_0 : decode cX1_size 0 = .ok (.aload_n 0, 1) := by decide +kernel
theorem dX1_size_1 : decode cX1_size 1 = .ok (.getfield 32, 3) := by decide +kernel
theorem dX1_size_4 : decode cX1_size 4 = .ok (.ireturn, 1) := by decide +kernel
theorem dX1_kindAt_0 : decode cX1_kindAt 0 = .ok (.aload_n 0, 1) := by decide +kernel
theorem dX1_kindAt_1 : decode cX1_kindAt 1 = .ok (.getfield 9, 3) := by decide +kernel
theorem dX1_kindAt_4 : decode cX1_kindAt 4 = .ok (.iload_n 1, 1) := by decide +kernel
theorem dX1_kindAt_5 : decode cX1_kindAt 5 = .ok (.iaload, 1) := by decide +kernel
theorem dX1_kindAt_6 : decode cX1_kindAt 6 = .ok (.ireturn, 1) := by decide +kernel
theorem dX1_placeAt_0 : decode cX1_placeAt 0 = .ok (.aload_n 0, 1) := by decide +kernel
theorem dX1_placeAt_1 : decode cX1_placeAt 1 = .ok (.getfield 15, 3) := by decide +kernel
theorem dX1_placeAt_4 : decode cX1_placeAt 4 = .ok (.iload_n 1, 1) := by decide +kernel
theorem dX1_placeAt_5 : decode cX1_placeAt 5 = .ok (.iaload, 1) := by decide +kernel
theorem dX1_placeAt_6 : decode cX1_placeAt 6 = .ok (.ireturn, 1) := by decide +kernel
theorem dX1_turnsAt_0 : decode cX1_turnsAt 0 = .ok (.aload_n 0, 1) := by decide +kernel
theorem dX1_turnsAt_1 : decode cX1_turnsAt 1 = .ok (.getfield 18, 3) := by decide +kernel
theorem dX1_turnsAt_4 : decode cX1_turnsAt 4 = .ok (.iload_n 1, 1) := by decide +kernel
theorem dX1_turnsAt_5 : decode cX1_turnsAt 5 = .ok (.iaload, 1) := by decide +kernel
theorem dX1_turnsAt_6 : decode cX1_turnsAt 6 = .ok (.ireturn, 1) := by decide +kernel
theorem dX1_chargeAt_0 : decode cX1_chargeAt 0 = .ok (.aload_n 0, 1) := by decide +kernel
theorem dX1_chargeAt_1 : decode cX1_chargeAt 1 = .ok (.getfield 25, 3) := by decide +kernel
theorem dX1_chargeAt_4 : decode cX1_chargeAt 4 = .ok (.iload_n 1, 1) := by decide +kernel
theorem dX1_chargeAt_5 : decode cX1_chargeAt 5 = .ok (.daload, 1) := by decide +kernel
theorem dX1_chargeAt_6 : decode cX1_chargeAt 6 = .ok (.dreturn, 1) := by decide +kernel
theorem dX1_capacityAt_0 : decode cX1_capacityAt 0 = .ok (.aload_n 0, 1) := by decide +kernel
theorem dX1_capacityAt_1 : decode cX1_capacityAt 1 = .ok (.getfield 29, 3) := by decide +kernel
theorem dX1_capacityAt_4 : decode cX1_capacityAt 4 = .ok (.iload_n 1, 1) := by decide +kernel
theorem dX1_capacityAt_5 : decode cX1_capacityAt 5 = .ok (.daload, 1) := by decide +kernel
theorem dX1_capacityAt_6 : decode cX1_capacityAt 6 = .ok (.dreturn, 1) := by decide +kernel
set_option maxRecDepth 20000 in
theorem ggX1_hangNew_X1_newCapacity : GoodIn wsX1_hangNew wsX1_newCapacity := goodIn_r _ [9, 10, 11, 12] (by decide +kernel) (by decide +kernel)
set_option maxRecDepth 20000 in
theorem gX1_hangNew_X1_newCapacity : GoodIn wsX1_hangNew (va_wsS RX1 36 yX1_newCapacity wsX1_newCapacity) := goodIn_app (goodIn_of _ (by decide +kernel)) ggX1_hangNew_X1_newCapacity
theorem dX1_hangNew_0 : decode cX1_hangNew 0 = .ok (.aload_n 0, 1) := by decide +kernel
theorem dX1_hangNew_1 : decode cX1_hangNew 1 = .ok (.getfield 32, 3) := by decide +kernel
theorem dX1_hangNew_4 : decode cX1_hangNew 4 = .ok (.istore_n 2, 1) := by decide +kernel
theorem dX1_hangNew_5 : decode cX1_hangNew 5 = .ok (.aload_n 0, 1) := by decide +kernel
theorem dX1_hangNew_6 : decode cX1_hangNew 6 = .ok (.getfield 9, 3) := by decide +kernel
theorem dX1_hangNew_9 : decode cX1_hangNew 9 = .ok (.iload_n 2, 1) := by decide +kernel
theorem dX1_hangNew_10 : decode cX1_hangNew 10 = .ok (.iload_n 1, 1) := by decide +kernel
theorem dX1_hangNew_11 : decode cX1_hangNew 11 = .ok (.iastore, 1) := by decide +kernel
theorem dX1_hangNew_12 : decode cX1_hangNew 12 = .ok (.aload_n 0, 1) := by decide +kernel
theorem dX1_hangNew_13 : decode cX1_hangNew 13 = .ok (.getfield 15, 3) := by decide +kernel
theorem dX1_hangNew_16 : decode cX1_hangNew 16 = .ok (.iload_n 2, 1) := by decide +kernel
theorem dX1_hangNew_17 : decode cX1_hangNew 17 = .ok (.iconst 0, 1) := by decide +kernel
theorem dX1_hangNew_18 : decode cX1_hangNew 18 = .ok (.iastore, 1) := by decide +kernel
theorem dX1_hangNew_19 : decode cX1_hangNew 19 = .ok (.aload_n 0, 1) := by decide +kernel
theorem dX1_hangNew_20 : decode cX1_hangNew 20 = .ok (.getfield 29, 3) := by decide +kernel
theorem dX1_hangNew_23 : decode cX1_hangNew 23 = .ok (.iload_n 2, 1) := by decide +kernel
theorem dX1_hangNew_24 : decode cX1_hangNew 24 = .ok (.iload_n 1, 1) := by decide +kernel
theorem dX1_hangNew_25 : decode cX1_hangNew 25 = .ok (.invokestatic 36, 3) := by decide +kernel
theorem dX1_hangNew_28 : decode cX1_hangNew 28 = .ok (.dastore, 1) := by decide +kernel
theorem dX1_hangNew_29 : decode cX1_hangNew 29 = .ok (.aload_n 0, 1) := by decide +kernel
theorem dX1_hangNew_30 : decode cX1_hangNew 30 = .ok (.getfield 25, 3) := by decide +kernel
theorem dX1_hangNew_33 : decode cX1_hangNew 33 = .ok (.iload_n 2, 1) := by decide +kernel
theorem dX1_hangNew_34 : decode cX1_hangNew 34 = .ok (.aload_n 0, 1) := by decide +kernel
theorem dX1_hangNew_35 : decode cX1_hangNew 35 = .ok (.getfield 29, 3) := by decide +kernel
theorem dX1_hangNew_38 : decode cX1_hangNew 38 = .ok (.iload_n 2, 1) := by decide +kernel
theorem dX1_hangNew_39 : decode cX1_hangNew 39 = .ok (.daload, 1) := by decide +kernel
theorem dX1_hangNew_40 : decode cX1_hangNew 40 = .ok (.dastore, 1) := by decide +kernel
theorem dX1_hangNew_41 : decode cX1_hangNew 41 = .ok (.aload_n 0, 1) := by decide +kernel
theorem dX1_hangNew_42 : decode cX1_hangNew 42 = .ok (.dup, 1) := by decide +kernel
theorem dX1_hangNew_43 : decode cX1_hangNew 43 = .ok (.getfield 32, 3) := by decide +kernel
theorem dX1_hangNew_46 : decode cX1_hangNew 46 = .ok (.iconst 1, 1) := by decide +kernel
theorem dX1_hangNew_47 : decode cX1_hangNew 47 = .ok (.iadd, 1) := by decide +kernel
theorem dX1_hangNew_48 : decode cX1_hangNew 48 = .ok (.putfield 32, 3) := by decide +kernel
theorem dX1_hangNew_51 : decode cX1_hangNew 51 = .ok (.iload_n 2, 1) := by decide +kernel
theorem dX1_hangNew_52 : decode cX1_hangNew 52 = .ok (.ireturn, 1) := by decide +kernel
set_option maxRecDepth 20000 in
theorem ggX1_countIssuable_X1_isIssuable : GoodIn wsX1_countIssuable wsX1_isIssuable := goodIn_r _ [6, 7, 8, 9, 10, 11, 12, 13, 14, 15, 16, 17] (by decide +kernel) (by decide +kernel)
set_option maxRecDepth 20000 in
theorem gX1_countIssuable_X1_isIssuable : GoodIn wsX1_countIssuable (wsV RX1 48 RX1 yX1_isIssuable wsX1_isIssuable) := goodIn_app (goodIn_of _ (by decide +kernel)) ggX1_countIssuable_X1_isIssuable
theorem dX1_countIssuable_0 : decode cX1_countIssuable 0 = .ok (.iconst 0, 1) := by decide +kernel
theorem dX1_countIssuable_1 : decode cX1_countIssuable 1 = .ok (.istore_n 2, 1) := by decide +kernel
theorem dX1_countIssuable_2 : decode cX1_countIssuable 2 = .ok (.iconst 0, 1) := by decide +kernel
theorem dX1_countIssuable_3 : decode cX1_countIssuable 3 = .ok (.istore_n 3, 1) := by decide +kernel
theorem dX1_countIssuable_4 : decode cX1_countIssuable 4 = .ok (.iload_n 3, 1) := by decide +kernel
theorem dX1_countIssuable_5 : decode cX1_countIssuable 5 = .ok (.aload_n 0, 1) := by decide +kernel
theorem dX1_countIssuable_6 : decode cX1_countIssuable 6 = .ok (.getfield 32, 3) := by decide +kernel
theorem dX1_countIssuable_9 : decode cX1_countIssuable 9 = .ok (.if_icmp .ge 21, 3) := by decide +kernel
theorem dX1_countIssuable_12 : decode cX1_countIssuable 12 = .ok (.aload_n 0, 1) := by decide +kernel
theorem dX1_countIssuable_13 : decode cX1_countIssuable 13 = .ok (.iload_n 3, 1) := by decide +kernel
theorem dX1_countIssuable_14 : decode cX1_countIssuable 14 = .ok (.iload_n 1, 1) := by decide +kernel
theorem dX1_countIssuable_15 : decode cX1_countIssuable 15 = .ok (.invokevirtual 48, 3) := by decide +kernel
theorem dX1_countIssuable_18 : decode cX1_countIssuable 18 = .ok (.ifCond .eq 6, 3) := by decide +kernel
theorem dX1_countIssuable_21 : decode cX1_countIssuable 21 = .ok (.iinc 2 1, 3) := by decide +kernel
theorem dX1_countIssuable_24 : decode cX1_countIssuable 24 = .ok (.iinc 3 1, 3) := by decide +kernel
theorem dX1_countIssuable_27 : decode cX1_countIssuable 27 = .ok (.goto (-23), 3) := by decide +kernel
theorem dX1_countIssuable_30 : decode cX1_countIssuable 30 = .ok (.iload_n 2, 1) := by decide +kernel
theorem dX1_countIssuable_31 : decode cX1_countIssuable 31 = .ok (.ireturn, 1) := by decide +kernel
theorem dX1_isIssuable_0 : decode cX1_isIssuable 0 = .ok (.aload_n 0, 1) := by decide +kernel
theorem dX1_isIssuable_1 : decode cX1_isIssuable 1 = .ok (.getfield 9, 3) := by decide +kernel
theorem dX1_isIssuable_4 : decode cX1_isIssuable 4 = .ok (.iload_n 1, 1) := by decide +kernel
theorem dX1_isIssuable_5 : decode cX1_isIssuable 5 = .ok (.iaload, 1) := by decide +kernel
theorem dX1_isIssuable_6 : decode cX1_isIssuable 6 = .ok (.iload_n 2, 1) := by decide +kernel
theorem dX1_isIssuable_7 : decode cX1_isIssuable 7 = .ok (.if_icmp .ne 29, 3) := by decide +kernel
theorem dX1_isIssuable_10 : decode cX1_isIssuable 10 = .ok (.aload_n 0, 1) := by decide +kernel
theorem dX1_isIssuable_11 : decode cX1_isIssuable 11 = .ok (.getfield 15, 3) := by decide +kernel
theorem dX1_isIssuable_14 : decode cX1_isIssuable 14 = .ok (.iload_n 1, 1) := by decide +kernel
theorem dX1_isIssuable_15 : decode cX1_isIssuable 15 = .ok (.iaload, 1) := by decide +kernel
theorem dX1_isIssuable_16 : decode cX1_isIssuable 16 = .ok (.ifCond .ne 20, 3) := by decide +kernel
theorem dX1_isIssuable_19 : decode cX1_isIssuable 19 = .ok (.aload_n 0, 1) := by decide +kernel
theorem dX1_isIssuable_20 : decode cX1_isIssuable 20 = .ok (.getfield 25, 3) := by decide +kernel
theorem dX1_isIssuable_23 : decode cX1_isIssuable 23 = .ok (.iload_n 1, 1) := by decide +kernel
theorem dX1_isIssuable_24 : decode cX1_isIssuable 24 = .ok (.daload, 1) := by decide +kernel
theorem dX1_isIssuable_25 : decode cX1_isIssuable 25 = .ok (.ldc2_w 52, 3) := by decide +kernel
theorem dX1_isIssuable_28 : decode cX1_isIssuable 28 = .ok (.dcmp .l, 1) := by decide +kernel
theorem dX1_isIssuable_29 : decode cX1_isIssuable 29 = .ok (.ifCond .lt 7, 3) := by decide +kernel
theorem dX1_isIssuable_32 : decode cX1_isIssuable 32 = .ok (.iconst 1, 1) := by decide +kernel
theorem dX1_isIssuable_33 : decode cX1_isIssuable 33 = .ok (.goto 4, 3) := by decide +kernel
theorem dX1_isIssuable_36 : decode cX1_isIssuable 36 = .ok (.iconst 0, 1) := by decide +kernel
theorem dX1_isIssuable_37 : decode cX1_isIssuable 37 = .ok (.ireturn, 1) := by decide +kernel
theorem dX1_hundredthsOnRack_0 : decode cX1_hundredthsOnRack 0 = .ok (.dconst 0, 1) := by decide +kernel
theorem dX1_hundredthsOnRack_1 : decode cX1_hundredthsOnRack 1 = .ok (.dstore_n 1, 1) := by decide +kernel
theorem dX1_hundredthsOnRack_2 : decode cX1_hundredthsOnRack 2 = .ok (.dconst 0, 1) := by decide +kernel
theorem dX1_hundredthsOnRack_3 : decode cX1_hundredthsOnRack 3 = .ok (.dstore_n 3, 1) := by decide +kernel
theorem dX1_hundredthsOnRack_4 : decode cX1_hundredthsOnRack 4 = .ok (.iconst 0, 1) := by decide +kernel
theorem dX1_hundredthsOnRack_5 : decode cX1_hundredthsOnRack 5 = .ok (.istore 5, 2) := by decide +kernel
theorem dX1_hundredthsOnRack_7 : decode cX1_hundredthsOnRack 7 = .ok (.iload 5, 2) := by decide +kernel
theorem dX1_hundredthsOnRack_9 : decode cX1_hundredthsOnRack 9 = .ok (.aload_n 0, 1) := by decide +kernel
theorem dX1_hundredthsOnRack_10 : decode cX1_hundredthsOnRack 10 = .ok (.getfield 32, 3) := by decide +kernel
theorem dX1_hundredthsOnRack_13 : decode cX1_hundredthsOnRack 13 = .ok (.if_icmp .ge 39, 3) := by decide +kernel
theorem dX1_hundredthsOnRack_16 : decode cX1_hundredthsOnRack 16 = .ok (.aload_n 0, 1) := by decide +kernel
theorem dX1_hundredthsOnRack_17 : decode cX1_hundredthsOnRack 17 = .ok (.getfield 15, 3) := by decide +kernel
theorem dX1_hundredthsOnRack_20 : decode cX1_hundredthsOnRack 20 = .ok (.iload 5, 2) := by decide +kernel
theorem dX1_hundredthsOnRack_22 : decode cX1_hundredthsOnRack 22 = .ok (.iaload, 1) := by decide +kernel
theorem dX1_hundredthsOnRack_23 : decode cX1_hundredthsOnRack 23 = .ok (.ifCond .ne 23, 3) := by decide +kernel
theorem dX1_hundredthsOnRack_26 : decode cX1_hundredthsOnRack 26 = .ok (.dload_n 1, 1) := by decide +kernel
theorem dX1_hundredthsOnRack_27 : decode cX1_hundredthsOnRack 27 = .ok (.aload_n 0, 1) := by decide +kernel
theorem dX1_hundredthsOnRack_28 : decode cX1_hundredthsOnRack 28 = .ok (.getfield 25, 3) := by decide +kernel
theorem dX1_hundredthsOnRack_31 : decode cX1_hundredthsOnRack 31 = .ok (.iload 5, 2) := by decide +kernel
theorem dX1_hundredthsOnRack_33 : decode cX1_hundredthsOnRack 33 = .ok (.daload, 1) := by decide +kernel
theorem dX1_hundredthsOnRack_34 : decode cX1_hundredthsOnRack 34 = .ok (.dadd, 1) := by decide +kernel
theorem dX1_hundredthsOnRack_35 : decode cX1_hundredthsOnRack 35 = .ok (.dstore_n 1, 1) := by decide +kernel
theorem dX1_hundredthsOnRack_36 : decode cX1_hundredthsOnRack 36 = .ok (.dload_n 3, 1) := by decide +kernel
theorem dX1_hundredthsOnRack_37 : decode cX1_hundredthsOnRack 37 = .ok (.aload_n 0, 1) := by decide +kernel
theorem dX1_hundredthsOnRack_38 : decode cX1_hundredthsOnRack 38 = .ok (.getfield 29, 3) := by decide +kernel
theorem dX1_hundredthsOnRack_41 : decode cX1_hundredthsOnRack 41 = .ok (.iload 5, 2) := by decide +kernel
theorem dX1_hundredthsOnRack_43 : decode cX1_hundredthsOnRack 43 = .ok (.daload, 1) := by decide +kernel
theorem dX1_hundredthsOnRack_44 : decode cX1_hundredthsOnRack 44 = .ok (.dadd, 1) := by decide +kernel
theorem dX1_hundredthsOnRack_45 : decode cX1_hundredthsOnRack 45 = .ok (.dstore_n 3, 1) := by decide +kernel
theorem dX1_hundredthsOnRack_46 : decode cX1_hundredthsOnRack 46 = .ok (.iinc 5 1, 3) := by decide +kernel
theorem dX1_hundredthsOnRack_49 : decode cX1_hundredthsOnRack 49 = .ok (.goto (-42), 3) := by decide +kernel
theorem dX1_hundredthsOnRack_52 : decode cX1_hundredthsOnRack 52 = .ok (.dload_n 3, 1) := by decide +kernel
theorem dX1_hundredthsOnRack_53 : decode cX1_hundredthsOnRack 53 = .ok (.dconst 0, 1) := by decide +kernel
theorem dX1_hundredthsOnRack_54 : decode cX1_hundredthsOnRack 54 = .ok (.dcmp .l, 1) := by decide +kernel
theorem dX1_hundredthsOnRack_55 : decode cX1_hundredthsOnRack 55 = .ok (.ifCond .le 14, 3) := by decide +kernel
theorem dX1_hundredthsOnRack_58 : decode cX1_hundredthsOnRack 58 = .ok (.dload_n 1, 1) := by decide +kernel
theorem dX1_hundredthsOnRack_59 : decode cX1_hundredthsOnRack 59 = .ok (.dload_n 3, 1) := by decide +kernel
theorem dX1_hundredthsOnRack_60 : decode cX1_hundredthsOnRack 60 = .ok (.ddiv, 1) := by decide +kernel
theorem dX1_hundredthsOnRack_61 : decode cX1_hundredthsOnRack 61 = .ok (.ldc2_w 58, 3) := by decide +kernel
theorem dX1_hundredthsOnRack_64 : decode cX1_hundredthsOnRack 64 = .ok (.dmul, 1) := by decide +kernel
theorem dX1_hundredthsOnRack_65 : decode cX1_hundredthsOnRack 65 = .ok (.d2i, 1) := by decide +kernel
theorem dX1_hundredthsOnRack_66 : decode cX1_hundredthsOnRack 66 = .ok (.goto 4, 3) := by decide +kernel
theorem dX1_hundredthsOnRack_69 : decode cX1_hundredthsOnRack 69 = .ok (.iconst 0, 1) := by decide +kernel
theorem dX1_hundredthsOnRack_70 : decode cX1_hundredthsOnRack 70 = .ok (.ireturn, 1) := by decide +kernel
theorem dX1_newCapacity_0 : decode cX1_newCapacity 0 = .ok (.iload_n 0, 1) := by decide +kernel
theorem dX1_newCapacity_1 : decode cX1_newCapacity 1 = .ok (.ifCond .ne 9, 3) := by decide +kernel
theorem dX1_newCapacity_4 : decode cX1_newCapacity 4 = .ok (.ldc2_w 60, 3) := by decide +kernel
theorem dX1_newCapacity_7 : decode cX1_newCapacity 7 = .ok (.goto 17, 3) := by decide +kernel
theorem dX1_newCapacity_10 : decode cX1_newCapacity 10 = .ok (.iload_n 0, 1) := by decide +kernel
theorem dX1_newCapacity_11 : decode cX1_newCapacity 11 = .ok (.iconst 1, 1) := by decide +kernel
theorem dX1_newCapacity_12 : decode cX1_newCapacity 12 = .ok (.if_icmp .ne 9, 3) := by decide +kernel
theorem dX1_newCapacity_15 : decode cX1_newCapacity 15 = .ok (.ldc2_w 62, 3) := by decide +kernel
theorem dX1_newCapacity_18 : decode cX1_newCapacity 18 = .ok (.goto 6, 3) := by decide +kernel
theorem dX1_newCapacity_21 : decode cX1_newCapacity 21 = .ok (.ldc2_w 64, 3) := by decide +kernel
theorem dX1_newCapacity_24 : decode cX1_newCapacity 24 = .ok (.dreturn, 1) := by decide +kernel
theorem dX2_init_0 : decode cX2_init 0 = .ok (.aload_n 0, 1) := by decide +kernel
theorem dX2_init_1 : decode cX2_init 1 = .ok (.invokespecial 3, 3) := by decide +kernel
theorem dX2_init_4 : decode cX2_init 4 = .ok (.aload_n 0, 1) := by decide +kernel
theorem dX2_init_5 : decode cX2_init 5 = .ok (.bipush 30, 2) := by decide +kernel
theorem dX2_init_7 : decode cX2_init 7 = .ok (.newarray .int, 2) := by decide +kernel
theorem dX2_init_9 : decode cX2_init 9 = .ok (.putfield 9, 3) := by decide +kernel
theorem dX2_init_12 : decode cX2_init 12 = .ok (.aload_n 0, 1) := by decide +kernel
theorem dX2_init_13 : decode cX2_init 13 = .ok (.bipush 30, 2) := by decide +kernel
theorem dX2_init_15 : decode cX2_init 15 = .ok (.newarray .int, 2) := by decide +kernel
theorem dX2_init_17 : decode cX2_init 17 = .ok (.putfield 15, 3) := by decide +kernel
theorem dX2_init_20 : decode cX2_init 20 = .ok (.aload_n 0, 1) := by decide +kernel
theorem dX2_init_21 : decode cX2_init 21 = .ok (.bipush 30, 2) := by decide +kernel
theorem dX2_init_23 : decode cX2_init 23 = .ok (.newarray .int, 2) := by decide +kernel
theorem dX2_init_25 : decode cX2_init 25 = .ok (.putfield 18, 3) := by decide +kernel
theorem dX2_init_28 : decode cX2_init 28 = .ok (.aload_n 0, 1) := by decide +kernel
theorem dX2_init_29 : decode cX2_init 29 = .ok (.bipush 30, 2) := by decide +kernel
theorem dX2_init_31 : decode cX2_init 31 = .ok (.newarray .int, 2) := by decide +kernel
theorem dX2_init_33 : decode cX2_init 33 = .ok (.putfield 21, 3) := by decide +kernel
theorem dX2_init_36 : decode cX2_init 36 = .ok (.aload_n 0, 1) := by decide +kernel
theorem dX2_init_37 : decode cX2_init 37 = .ok (.iconst 0, 1) := by decide +kernel
theorem dX2_init_38 : decode cX2_init 38 = .ok (.putfield 24, 3) := by decide +kernel
theorem dX2_init_41 : decode cX2_init 41 = .ok (.aload_n 0, 1) := by decide +kernel
theorem dX2_init_42 : decode cX2_init 42 = .ok (.iconst 0, 1) := by decide +kernel
theorem dX2_init_43 : decode cX2_init 43 = .ok (.putfield 28, 3) := by decide +kernel
theorem dX2_init_46 : decode cX2_init 46 = .ok (.return_, 1) := by decide +kernel
theorem dX2_size_0 : decode cX2_size 0 = .ok (.aload_n 0, 1) := by decide +kernel
theorem dX2_size_1 : decode cX2_size 1 = .ok (.getfield 24, 3) := by decide +kernel
theorem dX2_size_4 : decode cX2_size 4 = .ok (.ireturn, 1) := by decide +kernel
theorem dX2_kindAt_0 : decode cX2_kindAt 0 = .ok (.aload_n 0, 1) := by decide +kernel
theorem dX2_kindAt_1 : decode cX2_kindAt 1 = .ok (.getfield 9, 3) := by decide +kernel
theorem dX2_kindAt_4 : decode cX2_kindAt 4 = .ok (.iload_n 1, 1) := by decide +kernel
theorem dX2_kindAt_5 : decode cX2_kindAt 5 = .ok (.iaload, 1) := by decide +kernel
theorem dX2_kindAt_6 : decode cX2_kindAt 6 = .ok (.ireturn, 1) := by decide +kernel
theorem dX2_lampHeld_0 : decode cX2_lampHeld 0 = .ok (.aload_n 0, 1) := by decide +kernel
theorem dX2_lampHeld_1 : decode cX2_lampHeld 1 = .ok (.getfield 15, 3) := by decide +kernel
theorem dX2_lampHeld_4 : decode cX2_lampHeld 4 = .ok (.iload_n 1, 1) := by decide +kernel
theorem dX2_lampHeld_5 : decode cX2_lampHeld 5 = .ok (.iaload, 1) := by decide +kernel
theorem dX2_lampHeld_6 : decode cX2_lampHeld 6 = .ok (.ireturn, 1) := by decide +kernel
theorem dX2_hungAt_0 : decode cX2_hungAt 0 = .ok (.aload_n 0, 1) := by decide +kernel
theorem dX2_hungAt_1 : decode cX2_hungAt 1 = .ok (.getfield 18, 3) := by decide +kernel
theorem dX2_hungAt_4 : decode cX2_hungAt 4 = .ok (.iload_n 1, 1) := by decide +kernel
theorem dX2_hungAt_5 : decode cX2_hungAt 5 = .ok (.iaload, 1) := by decide +kernel
theorem dX2_hungAt_6 : decode cX2_hungAt 6 = .ok (.ireturn, 1) := by decide +kernel
theorem dX2_enter_0 : decode cX2_enter 0 = .ok (.aload_n 0, 1) := by decide +kernel
theorem dX2_enter_1 : decode cX2_enter 1 = .ok (.getfield 24, 3) := by decide +kernel
theorem dX2_enter_4 : decode cX2_enter 4 = .ok (.istore_n 2, 1) := by decide +kernel
theorem dX2_enter_5 : decode cX2_enter 5 = .ok (.aload_n 0, 1) := by decide +kernel
theorem dX2_enter_6 : decode cX2_enter 6 = .ok (.getfield 9, 3) := by decide +kernel
theorem dX2_enter_9 : decode cX2_enter 9 = .ok (.iload_n 2, 1) := by decide +kernel
theorem dX2_enter_10 : decode cX2_enter 10 = .ok (.iload_n 1, 1) := by decide +kernel
theorem dX2_enter_11 : decode cX2_enter 11 = .ok (.iastore, 1) := by decide +kernel
theorem dX2_enter_12 : decode cX2_enter 12 = .ok (.aload_n 0, 1) := by decide +kernel
theorem dX2_enter_13 : decode cX2_enter 13 = .ok (.getfield 15, 3) := by decide +kernel
theorem dX2_enter_16 : decode cX2_enter 16 = .ok (.iload_n 2, 1) := by decide +kernel
theorem dX2_enter_17 : decode cX2_enter 17 = .ok (.iconst (-1), 1) := by decide +kernel
theorem dX2_enter_18 : decode cX2_enter 18 = .ok (.iastore, 1) := by decide +kernel
theorem dX2_enter_19 : decode cX2_enter 19 = .ok (.aload_n 0, 1) := by decide +kernel
theorem dX2_enter_20 : decode cX2_enter 20 = .ok (.dup, 1) := by decide +kernel
theorem dX2_enter_21 : decode cX2_enter 21 = .ok (.getfield 24, 3) := by decide +kernel
theorem dX2_enter_24 : decode cX2_enter 24 = .ok (.iconst 1, 1) := by decide +kernel
theorem dX2_enter_25 : decode cX2_enter 25 = .ok (.iadd, 1) := by decide +kernel
theorem dX2_enter_26 : decode cX2_enter 26 = .ok (.putfield 24, 3) := by decide +kernel
theorem dX2_enter_29 : decode cX2_enter 29 = .ok (.iload_n 2, 1) := by decide +kernel
theorem dX2_enter_30 : decode cX2_enter 30 = .ok (.ireturn, 1) := by decide +kernel
theorem dX2_onBoard_0 : decode cX2_onBoard 0 = .ok (.iconst 0, 1) := by decide +kernel
theorem dX2_onBoard_1 : decode cX2_onBoard 1 = .ok (.istore_n 1, 1) := by decide +kernel
theorem dX2_onBoard_2 : decode cX2_onBoard 2 = .ok (.iconst 0, 1) := by decide +kernel
theorem dX2_onBoard_3 : decode cX2_onBoard 3 = .ok (.istore_n 2, 1) := by decide +kernel
theorem dX2_onBoard_4 : decode cX2_onBoard 4 = .ok (.iload_n 2, 1) := by decide +kernel
theorem dX2_onBoard_5 : decode cX2_onBoard 5 = .ok (.aload_n 0, 1) := by decide +kernel
theorem dX2_onBoard_6 : decode cX2_onBoard 6 = .ok (.getfield 24, 3) := by decide +kernel
theorem dX2_onBoard_9 : decode cX2_onBoard 9 = .ok (.if_icmp .ge 22, 3) := by decide +kernel
theorem dX2_onBoard_12 : decode cX2_onBoard 12 = .ok (.aload_n 0, 1) := by decide +kernel
theorem dX2_onBoard_13 : decode cX2_onBoard 13 = .ok (.getfield 15, 3) := by decide +kernel
theorem dX2_onBoard_16 : decode cX2_onBoard 16 = .ok (.iload_n 2, 1) := by decide +kernel
theorem dX2_onBoard_17 : decode cX2_onBoard 17 = .ok (.iaload, 1) := by decide +kernel
theorem dX2_onBoard_18 : decode cX2_onBoard 18 = .ok (.iconst (-1), 1) := by decide +kernel
theorem dX2_onBoard_19 : decode cX2_onBoard 19 = .ok (.if_icmp .eq 6, 3) := by decide +kernel
theorem dX2_onBoard_22 : decode cX2_onBoard 22 = .ok (.iinc 1 1, 3) := by decide +kernel
theorem dX2_onBoard_25 : decode cX2_onBoard 25 = .ok (.iinc 2 1, 3) := by decide +kernel
theorem dX2_onBoard_28 : decode cX2_onBoard 28 = .ok (.goto (-24), 3) := by decide +kernel
theorem dX2_onBoard_31 : decode cX2_onBoard 31 = .ok (.iload_n 1, 1) := by decide +kernel
theorem dX2_onBoard_32 : decode cX2_onBoard 32 = .ok (.ireturn, 1) := by decide +kernel
set_option maxRecDepth 20000 in
theorem ggX2_onBoardAt_X2_countAhead : GoodIn wsX2_onBoardAt wsX2_countAhead := goodIn_r _ [7, 1, 2, 8, 9, 10, 11, 12, 13, 14] (by decide +kernel) (by decide +kernel)
set_option maxRecDepth 20000 in
theorem gX2_onBoardAt_X2_countAhead : GoodIn wsX2_onBoardAt (wsV RX2 31 RX2 yX2_countAhead wsX2_countAhead) := goodIn_app (goodIn_of _ (by decide +kernel)) ggX2_onBoardAt_X2_countAhead
theorem dX2_onBoardAt_0 : decode cX2_onBoardAt 0 = .ok (.iconst 0, 1) := by decide +kernel
theorem dX2_onBoardAt_1 : decode cX2_onBoardAt 1 = .ok (.istore_n 2, 1) := by decide +kernel
theorem dX2_onBoardAt_2 : decode cX2_onBoardAt 2 = .ok (.iload_n 2, 1) := by decide +kernel
theorem dX2_onBoardAt_3 : decode cX2_onBoardAt 3 = .ok (.aload_n 0, 1) := by decide +kernel
theorem dX2_onBoardAt_4 : decode cX2_onBoardAt 4 = .ok (.getfield 24, 3) := by decide +kernel
theorem dX2_onBoardAt_7 : decode cX2_onBoardAt 7 = .ok (.if_icmp .ge 30, 3) := by decide +kernel
theorem dX2_onBoardAt_10 : decode cX2_onBoardAt 10 = .ok (.aload_n 0, 1) := by decide +kernel
theorem dX2_onBoardAt_11 : decode cX2_onBoardAt 11 = .ok (.getfield 15, 3) := by decide +kernel
theorem dX2_onBoardAt_14 : decode cX2_onBoardAt 14 = .ok (.iload_n 2, 1) := by decide +kernel
theorem dX2_onBoardAt_15 : decode cX2_onBoardAt 15 = .ok (.iaload, 1) := by decide +kernel
theorem dX2_onBoardAt_16 : decode cX2_onBoardAt 16 = .ok (.iconst (-1), 1) := by decide +kernel
theorem dX2_onBoardAt_17 : decode cX2_onBoardAt 17 = .ok (.if_icmp .eq 14, 3) := by decide +kernel
theorem dX2_onBoardAt_20 : decode cX2_onBoardAt 20 = .ok (.aload_n 0, 1) := by decide +kernel
theorem dX2_onBoardAt_21 : decode cX2_onBoardAt 21 = .ok (.iload_n 2, 1) := by decide +kernel
theorem dX2_onBoardAt_22 : decode cX2_onBoardAt 22 = .ok (.invokevirtual 31, 3) := by decide +kernel
theorem dX2_onBoardAt_25 : decode cX2_onBoardAt 25 = .ok (.iload_n 1, 1) := by decide +kernel
theorem dX2_onBoardAt_26 : decode cX2_onBoardAt 26 = .ok (.if_icmp .ne 5, 3) := by decide +kernel
theorem dX2_onBoardAt_29 : decode cX2_onBoardAt 29 = .ok (.iload_n 2, 1) := by decide +kernel
theorem dX2_onBoardAt_30 : decode cX2_onBoardAt 30 = .ok (.ireturn, 1) := by decide +kernel
theorem dX2_onBoardAt_31 : decode cX2_onBoardAt 31 = .ok (.iinc 2 1, 3) := by decide +kernel
theorem dX2_onBoardAt_34 : decode cX2_onBoardAt 34 = .ok (.goto (-32), 3) := by decide +kernel
theorem dX2_onBoardAt_37 : decode cX2_onBoardAt 37 = .ok (.iconst (-1), 1) := by decide +kernel
theorem dX2_onBoardAt_38 : decode cX2_onBoardAt 38 = .ok (.ireturn, 1) := by decide +kernel
theorem dX2_countAhead_0 : decode cX2_countAhead 0 = .ok (.iconst 0, 1) := by decide +kernel
theorem dX2_countAhead_1 : decode cX2_countAhead 1 = .ok (.istore_n 2, 1) := by decide +kernel
theorem dX2_countAhead_2 : decode cX2_countAhead 2 = .ok (.iconst 0, 1) := by decide +kernel
theorem dX2_countAhead_3 : decode cX2_countAhead 3 = .ok (.istore_n 3, 1) := by decide +kernel
theorem dX2_countAhead_4 : decode cX2_countAhead 4 = .ok (.iload_n 3, 1) := by decide +kernel
theorem dX2_countAhead_5 : decode cX2_countAhead 5 = .ok (.aload_n 0, 1) := by decide +kernel
theorem dX2_countAhead_6 : decode cX2_countAhead 6 = .ok (.getfield 24, 3) := by decide +kernel
theorem dX2_countAhead_9 : decode cX2_countAhead 9 = .ok (.if_icmp .ge 37, 3) := by decide +kernel
theorem dX2_countAhead_12 : decode cX2_countAhead 12 = .ok (.aload_n 0, 1) := by decide +kernel
theorem dX2_countAhead_13 : decode cX2_countAhead 13 = .ok (.getfield 15, 3) := by decide +kernel
theorem dX2_countAhead_16 : decode cX2_countAhead 16 = .ok (.iload_n 3, 1) := by decide +kernel
theorem dX2_countAhead_17 : decode cX2_countAhead 17 = .ok (.iaload, 1) := by decide +kernel
theorem dX2_countAhead_18 : decode cX2_countAhead 18 = .ok (.iconst (-1), 1) := by decide +kernel
theorem dX2_countAhead_19 : decode cX2_countAhead 19 = .ok (.if_icmp .eq 21, 3) := by decide +kernel
theorem dX2_countAhead_22 : decode cX2_countAhead 22 = .ok (.aload_n 0, 1) := by decide +kernel
theorem dX2_countAhead_23 : decode cX2_countAhead 23 = .ok (.getfield 21, 3) := by decide +kernel
theorem dX2_countAhead_26 : decode cX2_countAhead 26 = .ok (.iload_n 3, 1) := by decide +kernel
theorem dX2_countAhead_27 : decode cX2_countAhead 27 = .ok (.iaload, 1) := by decide +kernel
theorem dX2_countAhead_28 : decode cX2_countAhead 28 = .ok (.aload_n 0, 1) := by decide +kernel
theorem dX2_countAhead_29 : decode cX2_countAhead 29 = .ok (.getfield 21, 3) := by decide +kernel
theorem dX2_countAhead_32 : decode cX2_countAhead 32 = .ok (.iload_n 1, 1) := by decide +kernel
theorem dX2_countAhead_33 : decode cX2_countAhead 33 = .ok (.iaload, 1) := by decide +kernel
theorem dX2_countAhead_34 : decode cX2_countAhead 34 = .ok (.if_icmp .ge 6, 3) := by decide +kernel
theorem dX2_countAhead_37 : decode cX2_countAhead 37 = .ok (.iinc 2 1, 3) := by decide +kernel
theorem dX2_countAhead_40 : decode cX2_countAhead 40 = .ok (.iinc 3 1, 3) := by decide +kernel
theorem dX2_countAhead_43 : decode cX2_countAhead 43 = .ok (.goto (-39), 3) := by decide +kernel
theorem dX2_countAhead_46 : decode cX2_countAhead 46 = .ok (.iload_n 2, 1) := by decide +kernel
theorem dX2_countAhead_47 : decode cX2_countAhead 47 = .ok (.ireturn, 1) := by decide +kernel
