theorem dL_cell_0 : decode cL_cell 0 = .ok (.iload_n 1, 1) := by decide +kernel
theorem dL_cell_1 : decode cL_cell 1 = .ok (.aload_n 0, 1) := by decide +kernel
theorem dL_cell_2 : decode cL_cell 2 = .ok (.arraylength, 1) := by decide +kernel
theorem dL_cell_3 : decode cL_cell 3 = .ok (.if_icmp .ge 9, 3) := by decide +kernel
theorem dL_cell_6 : decode cL_cell 6 = .ok (.aload_n 0, 1) := by decide +kernel
theorem dL_cell_7 : decode cL_cell 7 = .ok (.iload_n 1, 1) := by decide +kernel
theorem dL_cell_8 : decode cL_cell 8 = .ok (.iaload, 1) := by decide +kernel
theorem dL_cell_9 : decode cL_cell 9 = .ok (.goto 9, 3) := by decide +kernel
theorem dL_cell_12 : decode cL_cell 12 = .ok (.ldc 7, 2) := by decide +kernel
theorem dL_cell_14 : decode cL_cell 14 = .ok (.iload_n 1, 1) := by decide +kernel
theorem dL_cell_15 : decode cL_cell 15 = .ok (.iconst 4, 1) := by decide +kernel
theorem dL_cell_16 : decode cL_cell 16 = .ok (.iadd, 1) := by decide +kernel
theorem dL_cell_17 : decode cL_cell 17 = .ok (.imul, 1) := by decide +kernel
theorem dL_cell_18 : decode cL_cell 18 = .ok (.ireturn, 1) := by decide +kernel
theorem dL_low_0 : decode cL_low 0 = .ok (.iload_n 0, 1) := by decide +kernel
theorem dL_low_1 : decode cL_low 1 = .ok (.iconst 1, 1) := by decide +kernel
theorem dL_low_2 : decode cL_low 2 = .ok (.iushr, 1) := by decide +kernel
theorem dL_low_3 : decode cL_low 3 = .ok (.iload_n 1, 1) := by decide +kernel
theorem dL_low_4 : decode cL_low 4 = .ok (.irem, 1) := by decide +kernel
theorem dL_low_5 : decode cL_low 5 = .ok (.ireturn, 1) := by decide +kernel
set_option maxRecDepth 20000 in
theorem ggL_addLamp_X3_addLamp : GoodIn wsL_addLamp wsX3_addLamp := goodIn_ca (goodIn_ca (goodIn_r _ [7, 8, 9, 10, 11, 12, 6, 13, 14, 15, 16, 17, 18, 19, 20, 21, 22, 23, 24, 25, 26, 27, 28, 29, 30, 31, 32, 33, 34, 35, 36, 37, 38, 39, 40, 41, 42, 43, 44, 45, 46] (by decide +kernel) (by decide +kernel)) (goodIn_sub (fun _ h => List.mem_cons_of_mem _ (List.mem_append_left _ (List.mem_append_right _ h))) (by decide +kernel))) (goodIn_sub (fun _ h => List.mem_cons_of_mem _ (List.mem_append_right _ h)) (by decide +kernel))
set_option maxRecDepth 20000 in
theorem gL_addLamp_X3_addLamp : GoodIn wsL_addLamp (wsV RL 8 RX3 yX3_addLamp wsX3_addLamp) := goodIn_app (goodIn_of _ (by decide +kernel)) ggL_addLamp_X3_addLamp
theorem dL_addLamp_0 : decode cL_addLamp 0 = .ok (.aload_n 0, 1) := by decide +kernel
theorem dL_addLamp_1 : decode cL_addLamp 1 = .ok (.iload_n 1, 1) := by decide +kernel
theorem dL_addLamp_2 : decode cL_addLamp 2 = .ok (.invokevirtual 8, 3) := by decide +kernel
theorem dL_addLamp_5 : decode cL_addLamp 5 = .ok (.istore_n 2, 1) := by decide +kernel
theorem dL_addLamp_6 : decode cL_addLamp 6 = .ok (.goto 11, 3) := by decide +kernel
theorem dL_addLamp_9 : decode cL_addLamp 9 = .ok (.astore_n 3, 1) := by decide +kernel
theorem dL_addLamp_10 : decode cL_addLamp 10 = .ok (.bipush (-62), 2) := by decide +kernel
theorem dL_addLamp_12 : decode cL_addLamp 12 = .ok (.ireturn, 1) := by decide +kernel
theorem dL_addLamp_13 : decode cL_addLamp 13 = .ok (.astore_n 3, 1) := by decide +kernel
theorem dL_addLamp_14 : decode cL_addLamp 14 = .ok (.bipush (-63), 2) := by decide +kernel
theorem dL_addLamp_16 : decode cL_addLamp 16 = .ok (.ireturn, 1) := by decide +kernel
theorem dL_addLamp_17 : decode cL_addLamp 17 = .ok (.iload_n 2, 1) := by decide +kernel
theorem dL_addLamp_18 : decode cL_addLamp 18 = .ok (.ireturn, 1) := by decide +kernel
set_option maxRecDepth 20000 in
theorem ggL_addMiner_X3_addMiner : GoodIn wsL_addMiner wsX3_addMiner := goodIn_ca (goodIn_ca (goodIn_r _ [7, 8, 9, 10, 11, 12, 6, 13, 14, 15, 16, 17, 18, 19, 20, 21, 22, 23, 24, 25, 26, 27, 28, 29, 30, 31, 32, 33, 34, 35, 36, 37] (by decide +kernel) (by decide +kernel)) (goodIn_sub (fun _ h => List.mem_cons_of_mem _ (List.mem_append_left _ (List.mem_append_right _ h))) (by decide +kernel))) (goodIn_sub (fun _ h => List.mem_cons_of_mem _ (List.mem_append_right _ h)) (by decide +kernel))
set_option maxRecDepth 20000 in
theorem gL_addMiner_X3_addMiner : GoodIn wsL_addMiner (wsV RL 18 RX3 yX3_addMiner wsX3_addMiner) := goodIn_app (goodIn_of _ (by decide +kernel)) ggL_addMiner_X3_addMiner
theorem dL_addMiner_0 : decode cL_addMiner 0 = .ok (.aload_n 0, 1) := by decide +kernel
theorem dL_addMiner_1 : decode cL_addMiner 1 = .ok (.iload_n 1, 1) := by decide +kernel
theorem dL_addMiner_2 : decode cL_addMiner 2 = .ok (.invokevirtual 18, 3) := by decide +kernel
theorem dL_addMiner_5 : decode cL_addMiner 5 = .ok (.istore_n 2, 1) := by decide +kernel
theorem dL_addMiner_6 : decode cL_addMiner 6 = .ok (.goto 11, 3) := by decide +kernel
theorem dL_addMiner_9 : decode cL_addMiner 9 = .ok (.astore_n 3, 1) := by decide +kernel
theorem dL_addMiner_10 : decode cL_addMiner 10 = .ok (.bipush (-62), 2) := by decide +kernel
theorem dL_addMiner_12 : decode cL_addMiner 12 = .ok (.ireturn, 1) := by decide +kernel
theorem dL_addMiner_13 : decode cL_addMiner 13 = .ok (.astore_n 3, 1) := by decide +kernel
theorem dL_addMiner_14 : decode cL_addMiner 14 = .ok (.bipush (-63), 2) := by decide +kernel
theorem dL_addMiner_16 : decode cL_addMiner 16 = .ok (.ireturn, 1) := by decide +kernel
theorem dL_addMiner_17 : decode cL_addMiner 17 = .ok (.iload_n 2, 1) := by decide +kernel
theorem dL_addMiner_18 : decode cL_addMiner 18 = .ok (.ireturn, 1) := by decide +kernel
set_option maxRecDepth 20000 in
theorem ggL_test_X3_test : GoodIn wsL_test wsX3_test := goodIn_ca (goodIn_ca (goodIn_r _ [7, 8, 9, 10, 11, 12, 13, 6, 14, 15, 16, 17, 18, 19, 20, 21, 22, 23, 24, 25, 26, 27, 28, 29, 30, 31, 32, 33, 34, 35, 36, 37, 38, 39, 40, 41, 42, 43, 44, 45, 46, 47, 48, 49, 50, 51, 52, 53, 54, 55, 56] (by decide +kernel) (by decide +kernel)) (goodIn_sub (fun _ h => List.mem_cons_of_mem _ (List.mem_append_left _ (List.mem_append_right _ h))) (by decide +kernel))) (goodIn_sub (fun _ h => List.mem_cons_of_mem _ (List.mem_append_right _ h)) (by decide +kernel))
set_option maxRecDepth 20000 in
theorem gL_test_X3_test : GoodIn wsL_test (wsV RL 29 RX3 yX3_test wsX3_test) := goodIn_app (goodIn_of _ (by decide +kernel)) ggL_test_X3_test
theorem dL_test_0 : decode cL_test 0 = .ok (.aload_n 0, 1) := by decide +kernel
theorem dL_test_1 : decode cL_test 1 = .ok (.iload_n 1, 1) := by decide +kernel
theorem dL_test_2 : decode cL_test 2 = .ok (.invokevirtual 29, 3) := by decide +kernel
theorem dL_test_5 : decode cL_test 5 = .ok (.istore_n 2, 1) := by decide +kernel
theorem dL_test_6 : decode cL_test 6 = .ok (.goto 11, 3) := by decide +kernel
theorem dL_test_9 : decode cL_test 9 = .ok (.astore_n 3, 1) := by decide +kernel
theorem dL_test_10 : decode cL_test 10 = .ok (.bipush (-61), 2) := by decide +kernel
theorem dL_test_12 : decode cL_test 12 = .ok (.ireturn, 1) := by decide +kernel
theorem dL_test_13 : decode cL_test 13 = .ok (.astore_n 3, 1) := by decide +kernel
theorem dL_test_14 : decode cL_test 14 = .ok (.bipush (-63), 2) := by decide +kernel
theorem dL_test_16 : decode cL_test 16 = .ok (.ireturn, 1) := by decide +kernel
theorem dL_test_17 : decode cL_test 17 = .ok (.iload_n 2, 1) := by decide +kernel
theorem dL_test_18 : decode cL_test 18 = .ok (.ireturn, 1) := by decide +kernel
set_option maxRecDepth 20000 in
theorem ggL_mend_X3_mend : GoodIn wsL_mend wsX3_mend := goodIn_ca (goodIn_ca (goodIn_r _ [7, 8, 9, 10, 11, 12, 13, 6, 14, 15, 16, 17, 18, 19, 20, 21, 22, 23, 24, 25, 26, 27, 28, 29, 30, 31, 32, 33, 34, 35, 36, 37, 38, 39, 40, 41, 42, 43, 44, 45, 46, 47, 48, 49, 50, 51, 52, 53, 54, 55, 56, 57, 58, 59, 60] (by decide +kernel) (by decide +kernel)) (goodIn_sub (fun _ h => List.mem_cons_of_mem _ (List.mem_append_left _ (List.mem_append_right _ h))) (by decide +kernel))) (goodIn_sub (fun _ h => List.mem_cons_of_mem _ (List.mem_append_right _ h)) (by decide +kernel))
set_option maxRecDepth 20000 in
theorem gL_mend_X3_mend : GoodIn wsL_mend (wsV RL 32 RX3 yX3_mend wsX3_mend) := goodIn_app (goodIn_of _ (by decide +kernel)) ggL_mend_X3_mend
theorem dL_mend_0 : decode cL_mend 0 = .ok (.aload_n 0, 1) := by decide +kernel
theorem dL_mend_1 : decode cL_mend 1 = .ok (.iload_n 1, 1) := by decide +kernel
theorem dL_mend_2 : decode cL_mend 2 = .ok (.invokevirtual 32, 3) := by decide +kernel
theorem dL_mend_5 : decode cL_mend 5 = .ok (.istore_n 2, 1) := by decide +kernel
theorem dL_mend_6 : decode cL_mend 6 = .ok (.goto 11, 3) := by decide +kernel
theorem dL_mend_9 : decode cL_mend 9 = .ok (.astore_n 3, 1) := by decide +kernel
theorem dL_mend_10 : decode cL_mend 10 = .ok (.bipush (-61), 2) := by decide +kernel
theorem dL_mend_12 : decode cL_mend 12 = .ok (.ireturn, 1) := by decide +kernel
theorem dL_mend_13 : decode cL_mend 13 = .ok (.astore_n 3, 1) := by decide +kernel
theorem dL_mend_14 : decode cL_mend 14 = .ok (.bipush (-63), 2) := by decide +kernel
theorem dL_mend_16 : decode cL_mend 16 = .ok (.ireturn, 1) := by decide +kernel
theorem dL_mend_17 : decode cL_mend 17 = .ok (.iload_n 2, 1) := by decide +kernel
theorem dL_mend_18 : decode cL_mend 18 = .ok (.ifCond .eq 7, 3) := by decide +kernel
theorem dL_mend_21 : decode cL_mend 21 = .ok (.iconst 1, 1) := by decide +kernel
theorem dL_mend_22 : decode cL_mend 22 = .ok (.goto 4, 3) := by decide +kernel
theorem dL_mend_25 : decode cL_mend 25 = .ok (.iconst 0, 1) := by decide +kernel
theorem dL_mend_26 : decode cL_mend 26 = .ok (.ireturn, 1) := by decide +kernel
set_option maxRecDepth 20000 in
theorem ggL_ready_X3_ready : GoodIn wsL_ready wsX3_ready := goodIn_ca (goodIn_r _ [6, 7, 8, 9, 5, 10, 11, 12, 13, 14, 15, 16, 17, 18, 19, 20, 21, 22, 23, 24, 25, 26, 27, 28, 29, 30, 31, 32, 33, 34, 35, 36, 37] (by decide +kernel) (by decide +kernel)) (goodIn_sub (fun _ h => List.mem_cons_of_mem _ (List.mem_append_right _ h)) (by decide +kernel))
set_option maxRecDepth 20000 in
theorem gL_ready_X3_ready : GoodIn wsL_ready (wsV RL 39 RX3 yX3_ready wsX3_ready) := goodIn_app (goodIn_of _ (by decide +kernel)) ggL_ready_X3_ready
theorem dL_ready_0 : decode cL_ready 0 = .ok (.aload_n 0, 1) := by decide +kernel
theorem dL_ready_1 : decode cL_ready 1 = .ok (.iload_n 1, 1) := by decide +kernel
theorem dL_ready_2 : decode cL_ready 2 = .ok (.invokevirtual 39, 3) := by decide +kernel
theorem dL_ready_5 : decode cL_ready 5 = .ok (.istore_n 2, 1) := by decide +kernel
theorem dL_ready_6 : decode cL_ready 6 = .ok (.goto 7, 3) := by decide +kernel
theorem dL_ready_9 : decode cL_ready 9 = .ok (.astore_n 3, 1) := by decide +kernel
theorem dL_ready_10 : decode cL_ready 10 = .ok (.bipush (-62), 2) := by decide +kernel
theorem dL_ready_12 : decode cL_ready 12 = .ok (.ireturn, 1) := by decide +kernel
theorem dL_ready_13 : decode cL_ready 13 = .ok (.iload_n 2, 1) := by decide +kernel
theorem dL_ready_14 : decode cL_ready 14 = .ok (.ireturn, 1) := by decide +kernel
set_option maxRecDepth 20000 in
theorem ggL_placeOf_X3_placeOf : GoodIn wsL_placeOf wsX3_placeOf := goodIn_ca (goodIn_r _ [6, 7, 8, 9, 10, 5, 11, 12, 13, 14, 15, 16, 17, 18, 19, 20, 21, 22, 23, 24, 25, 26, 27, 28, 29, 30, 31, 32, 33, 34, 35] (by decide +kernel) (by decide +kernel)) (goodIn_sub (fun _ h => List.mem_cons_of_mem _ (List.mem_append_right _ h)) (by decide +kernel))
set_option maxRecDepth 20000 in
theorem gL_placeOf_X3_placeOf : GoodIn wsL_placeOf (wsV RL 42 RX3 yX3_placeOf wsX3_placeOf) := goodIn_app (goodIn_of _ (by decide +kernel)) ggL_placeOf_X3_placeOf
theorem dL_placeOf_0 : decode cL_placeOf 0 = .ok (.aload_n 0, 1) := by decide +kernel
theorem dL_placeOf_1 : decode cL_placeOf 1 = .ok (.iload_n 1, 1) := by decide +kernel
theorem dL_placeOf_2 : decode cL_placeOf 2 = .ok (.invokevirtual 42, 3) := by decide +kernel
theorem dL_placeOf_5 : decode cL_placeOf 5 = .ok (.istore_n 2, 1) := by decide +kernel
theorem dL_placeOf_6 : decode cL_placeOf 6 = .ok (.goto 7, 3) := by decide +kernel
theorem dL_placeOf_9 : decode cL_placeOf 9 = .ok (.astore_n 3, 1) := by decide +kernel
theorem dL_placeOf_10 : decode cL_placeOf 10 = .ok (.bipush (-61), 2) := by decide +kernel
theorem dL_placeOf_12 : decode cL_placeOf 12 = .ok (.ireturn, 1) := by decide +kernel
theorem dL_placeOf_13 : decode cL_placeOf 13 = .ok (.iload_n 2, 1) := by decide +kernel
theorem dL_placeOf_14 : decode cL_placeOf 14 = .ok (.ireturn, 1) := by decide +kernel
set_option maxRecDepth 20000 in
theorem ggL_lampOf_X3_lampOf : GoodIn wsL_lampOf wsX3_lampOf := goodIn_ca (goodIn_r _ [6, 7, 8, 9, 10, 5, 11, 12, 13, 14, 15, 16, 17, 18, 19, 20, 21, 22, 23, 24, 25, 26, 27, 28, 29, 30, 31, 32, 33, 34] (by decide +kernel) (by decide +kernel)) (goodIn_sub (fun _ h => List.mem_cons_of_mem _ (List.mem_append_right _ h)) (by decide +kernel))
set_option maxRecDepth 20000 in
theorem gL_lampOf_X3_lampOf : GoodIn wsL_lampOf (wsV RL 45 RX3 yX3_lampOf wsX3_lampOf) := goodIn_app (goodIn_of _ (by decide +kernel)) ggL_lampOf_X3_lampOf
theorem dL_lampOf_0 : decode cL_lampOf 0 = .ok (.aload_n 0, 1) := by decide +kernel
theorem dL_lampOf_1 : decode cL_lampOf 1 = .ok (.iload_n 1, 1) := by decide +kernel
theorem dL_lampOf_2 : decode cL_lampOf 2 = .ok (.invokevirtual 45, 3) := by decide +kernel
theorem dL_lampOf_5 : decode cL_lampOf 5 = .ok (.istore_n 2, 1) := by decide +kernel
theorem dL_lampOf_6 : decode cL_lampOf 6 = .ok (.goto 7, 3) := by decide +kernel
theorem dL_lampOf_9 : decode cL_lampOf 9 = .ok (.astore_n 3, 1) := by decide +kernel
theorem dL_lampOf_10 : decode cL_lampOf 10 = .ok (.bipush (-61), 2) := by decide +kernel
theorem dL_lampOf_12 : decode cL_lampOf 12 = .ok (.ireturn, 1) := by decide +kernel
theorem dL_lampOf_13 : decode cL_lampOf 13 = .ok (.iload_n 2, 1) := by decide +kernel
theorem dL_lampOf_14 : decode cL_lampOf 14 = .ok (.ireturn, 1) := by decide +kernel
theorem dL_fresh_0 : decode cL_fresh 0 = .ok (.ldc2_w 48, 3) := by decide +kernel
theorem dL_fresh_3 : decode cL_fresh 3 = .ok (.ldc2_w 50, 3) := by decide +kernel
theorem dL_fresh_6 : decode cL_fresh 6 = .ok (.iload_n 0, 1) := by decide +kernel
theorem dL_fresh_7 : decode cL_fresh 7 = .ok (.i2d, 1) := by decide +kernel
theorem dL_fresh_8 : decode cL_fresh 8 = .ok (.dmul, 1) := by decide +kernel
theorem dL_fresh_9 : decode cL_fresh 9 = .ok (.dadd, 1) := by decide +kernel
theorem dL_fresh_10 : decode cL_fresh 10 = .ok (.dreturn, 1) := by decide +kernel
set_option maxRecDepth 20000 in
theorem ggL_isRead_X3_lampOf : GoodIn wsL_isRead wsX3_lampOf := goodIn_ca (goodIn_r _ [5, 6, 7, 8, 9, 4, 10, 11, 12, 13, 14, 15, 16, 17, 18, 19, 20, 21, 22, 23, 79, 80, 81, 82, 83, 84, 85, 86, 87, 88] (by decide +kernel) (by decide +kernel)) (goodIn_sub (fun _ h => List.mem_cons_of_mem _ (List.mem_append_right _ h)) (by decide +kernel))
set_option maxRecDepth 20000 in
theorem gL_isRead_X3_lampOf : GoodIn wsL_isRead (wsV RL 45 RX3 yX3_lampOf wsX3_lampOf) := goodIn_app (goodIn_of _ (by decide +kernel)) ggL_isRead_X3_lampOf
set_option maxRecDepth 20000 in
theorem ggL_isRead_X3_hoursBelow : GoodIn wsL_isRead wsX3_hoursBelow := goodIn_ca (goodIn_r _ [27, 6, 28, 7, 8, 9, 4, 10, 11, 12, 13, 14, 15, 16, 17, 18, 19, 20, 21, 22, 23, 29, 30, 31, 32, 33, 79, 80, 81, 82, 83, 84, 85, 86, 87, 88] (by decide +kernel) (by decide +kernel)) (goodIn_sub (fun _ h => List.mem_cons_of_mem _ (List.mem_append_right _ h)) (by decide +kernel))
set_option maxRecDepth 20000 in
theorem gL_isRead_X3_hoursBelow : GoodIn wsL_isRead (wsV RL 66 RX3 yX3_hoursBelow wsX3_hoursBelow) := goodIn_app (goodIn_of _ (by decide +kernel)) ggL_isRead_X3_hoursBelow
set_option maxRecDepth 20000 in
theorem ggL_isRead_X3_board : GoodIn wsL_isRead wsX3_board := goodIn_r _ [37, 6, 38, 39, 40, 16, 41, 18, 23, 42, 43, 44, 45, 46, 79, 80, 81, 82, 83, 84, 85, 86, 87, 88] (by decide +kernel) (by decide +kernel)
set_option maxRecDepth 20000 in
theorem gL_isRead_X3_board : GoodIn wsL_isRead (wsV RL 69 RX3 yX3_board wsX3_board) := goodIn_app (goodIn_of _ (by decide +kernel)) ggL_isRead_X3_board
set_option maxRecDepth 20000 in
theorem ggL_isRead_X3_alarm : GoodIn wsL_isRead wsX3_alarm := goodIn_r _ [50, 51, 52, 53, 54, 55, 56, 57, 58, 59, 60, 61, 62, 63, 64, 65, 79, 80, 81, 82, 89] (by decide +kernel) (by decide +kernel)
set_option maxRecDepth 20000 in
theorem gL_isRead_X3_alarm : GoodIn wsL_isRead (wsV RL 72 RX3 yX3_alarm wsX3_alarm) := goodIn_app (goodIn_of _ (by decide +kernel)) ggL_isRead_X3_alarm
set_option maxRecDepth 20000 in
theorem ggL_isRead_X3_below : GoodIn wsL_isRead wsX3_below := goodIn_r _ [69, 6, 70, 71, 72, 16, 73, 18, 23, 79, 80, 81, 82, 83, 84, 85, 86, 87, 88] (by decide +kernel) (by decide +kernel)
set_option maxRecDepth 20000 in
theorem gL_isRead_X3_below : GoodIn wsL_isRead (wsV RL 75 RX3 yX3_below wsX3_below) := goodIn_app (goodIn_of _ (by decide +kernel)) ggL_isRead_X3_below
set_option maxRecDepth 20000 in
theorem ggL_isRead_L_lampOf : GoodIn wsL_isRead wsL_lampOf := goodIn_ca (goodIn_r _ [77, 78, 1, 2, 3, 4, 5, 6, 7, 8, 9, 10, 11, 12, 13, 14, 15, 16, 17, 18, 19, 20, 21, 22, 23, 79, 80, 81, 82, 83, 84, 85, 86, 87, 88] (by decide +kernel) (by decide +kernel)) (goodIn_sub (fun _ h => List.mem_cons_of_mem _ (List.mem_append_right _ h)) (by decide +kernel))
set_option maxRecDepth 20000 in
theorem gL_isRead_L_lampOf : GoodIn wsL_isRead (va_wsS RL 79 yL_lampOf wsL_lampOf) := goodIn_app (goodIn_of _ (by decide +kernel)) ggL_isRead_L_lampOf
theorem dL_isRead_0 : decode cL_isRead 0 = .ok (.iconst 0, 1) := by decide +kernel
theorem dL_isRead_1 : decode cL_isRead 1 = .ok (.istore 7, 2) := by decide +kernel
theorem dL_isRead_3 : decode cL_isRead 3 = .ok (.iconst 0, 1) := by decide +kernel
theorem dL_isRead_4 : decode cL_isRead 4 = .ok (.istore 8, 2) := by decide +kernel
theorem dL_isRead_6 : decode cL_isRead 6 = .ok (.iconst 0, 1) := by decide +kernel
theorem dL_isRead_7 : decode cL_isRead 7 = .ok (.istore 9, 2) := by decide +kernel
theorem dL_isRead_9 : decode cL_isRead 9 = .ok (.iload 9, 2) := by decide +kernel
theorem dL_isRead_11 : decode cL_isRead 11 = .ok (.aload 6, 2) := by decide +kernel
theorem dL_isRead_13 : decode cL_isRead 13 = .ok (.iconst 1, 1) := by decide +kernel
theorem dL_isRead_14 : decode cL_isRead 14 = .ok (.iaload, 1) := by decide +kernel
theorem dL_isRead_15 : decode cL_isRead 15 = .ok (.if_icmp .ge 476, 3) := by decide +kernel
theorem dL_isRead_18 : decode cL_isRead 18 = .ok (.aload_n 0, 1) := by decide +kernel
theorem dL_isRead_19 : decode cL_isRead 19 = .ok (.iload 9, 2) := by decide +kernel
theorem dL_isRead_21 : decode cL_isRead 21 = .ok (.invokevirtual 45, 3) := by decide +kernel
theorem dL_isRead_24 : decode cL_isRead 24 = .ok (.aload_n 1, 1) := by decide +kernel
theorem dL_isRead_25 : decode cL_isRead 25 = .ok (.iload 9, 2) := by decide +kernel
theorem dL_isRead_27 : decode cL_isRead 27 = .ok (.iaload, 1) := by decide +kernel
theorem dL_isRead_28 : decode cL_isRead 28 = .ok (.iconst 1, 1) := by decide +kernel
theorem dL_isRead_29 : decode cL_isRead 29 = .ok (.isub, 1) := by decide +kernel
theorem dL_isRead_30 : decode cL_isRead 30 = .ok (.if_icmp .ne 32, 3) := by decide +kernel
theorem dL_isRead_33 : decode cL_isRead 33 = .ok (.aload_n 0, 1) := by decide +kernel
theorem dL_isRead_34 : decode cL_isRead 34 = .ok (.iload 9, 2) := by decide +kernel
theorem dL_isRead_36 : decode cL_isRead 36 = .ok (.invokevirtual 66, 3) := by decide +kernel
theorem dL_isRead_39 : decode cL_isRead 39 = .ok (.aload_n 1, 1) := by decide +kernel
theorem dL_isRead_40 : decode cL_isRead 40 = .ok (.iload 9, 2) := by decide +kernel
theorem dL_isRead_42 : decode cL_isRead 42 = .ok (.iaload, 1) := by decide +kernel
theorem dL_isRead_43 : decode cL_isRead 43 = .ok (.ifCond .ne 7, 3) := by decide +kernel
theorem dL_isRead_46 : decode cL_isRead 46 = .ok (.iconst (-1), 1) := by decide +kernel
theorem dL_isRead_47 : decode cL_isRead 47 = .ok (.goto 12, 3) := by decide +kernel
theorem dL_isRead_50 : decode cL_isRead 50 = .ok (.aload 6, 2) := by decide +kernel
theorem dL_isRead_52 : decode cL_isRead 52 = .ok (.iconst 2, 1) := by decide +kernel
theorem dL_isRead_53 : decode cL_isRead 53 = .ok (.iaload, 1) := by decide +kernel
theorem dL_isRead_54 : decode cL_isRead 54 = .ok (.aload_n 3, 1) := by decide +kernel
theorem dL_isRead_55 : decode cL_isRead 55 = .ok (.iload 9, 2) := by decide +kernel
theorem dL_isRead_57 : decode cL_isRead 57 = .ok (.iaload, 1) := by decide +kernel
theorem dL_isRead_58 : decode cL_isRead 58 = .ok (.isub, 1) := by decide +kernel
theorem dL_isRead_59 : decode cL_isRead 59 = .ok (.if_icmp .eq 5, 3) := by decide +kernel
theorem dL_isRead_62 : decode cL_isRead 62 = .ok (.iconst 0, 1) := by decide +kernel
theorem dL_isRead_63 : decode cL_isRead 63 = .ok (.ireturn, 1) := by decide +kernel
theorem dL_isRead_64 : decode cL_isRead 64 = .ok (.aload_n 1, 1) := by decide +kernel
theorem dL_isRead_65 : decode cL_isRead 65 = .ok (.iload 9, 2) := by decide +kernel
theorem dL_isRead_67 : decode cL_isRead 67 = .ok (.iaload, 1) := by decide +kernel
theorem dL_isRead_68 : decode cL_isRead 68 = .ok (.ifCond .ne 6, 3) := by decide +kernel
theorem dL_isRead_71 : decode cL_isRead 71 = .ok (.goto 414, 3) := by decide +kernel
theorem dL_isRead_74 : decode cL_isRead 74 = .ok (.iinc 7 1, 3) := by decide +kernel
theorem dL_isRead_485 : decode cL_isRead 485 = .ok (.iinc 9 1, 3) := by decide +kernel
theorem dL_isRead_488 : decode cL_isRead 488 = .ok (.goto (-479), 3) := by decide +kernel
theorem dL_isRead_491 : decode cL_isRead 491 = .ok (.aload_n 0, 1) := by decide +kernel
theorem dL_isRead_492 : decode cL_isRead 492 = .ok (.invokevirtual 75, 3) := by decide +kernel
theorem dL_isRead_495 : decode cL_isRead 495 = .ok (.iload 7, 2) := by decide +kernel
theorem dL_isRead_497 : decode cL_isRead 497 = .ok (.if_icmp .ne 58, 3) := by decide +kernel
theorem dL_isRead_500 : decode cL_isRead 500 = .ok (.aload_n 0, 1) := by decide +kernel
theorem dL_isRead_501 : decode cL_isRead 501 = .ok (.iload 7, 2) := by decide +kernel
theorem dL_isRead_503 : decode cL_isRead 503 = .ok (.invokevirtual 69, 3) := by decide +kernel
theorem dL_isRead_506 : decode cL_isRead 506 = .ok (.iconst (-1), 1) := by decide +kernel
theorem dL_isRead_507 : decode cL_isRead 507 = .ok (.if_icmp .ne 48, 3) := by decide +kernel
theorem dL_isRead_510 : decode cL_isRead 510 = .ok (.aload_n 0, 1) := by decide +kernel
theorem dL_isRead_511 : decode cL_isRead 511 = .ok (.iconst (-1), 1) := by decide +kernel
theorem dL_isRead_512 : decode cL_isRead 512 = .ok (.invokevirtual 69, 3) := by decide +kernel
theorem dL_isRead_515 : decode cL_isRead 515 = .ok (.iconst (-1), 1) := by decide +kernel
theorem dL_isRead_516 : decode cL_isRead 516 = .ok (.if_icmp .ne 39, 3) := by decide +kernel
theorem dL_isRead_519 : decode cL_isRead 519 = .ok (.aload_n 0, 1) := by decide +kernel
theorem dL_isRead_520 : decode cL_isRead 520 = .ok (.iload 8, 2) := by decide +kernel
theorem dL_isRead_522 : decode cL_isRead 522 = .ok (.invokevirtual 72, 3) := by decide +kernel
theorem dL_isRead_525 : decode cL_isRead 525 = .ok (.iconst (-1), 1) := by decide +kernel
theorem dL_isRead_526 : decode cL_isRead 526 = .ok (.if_icmp .ne 29, 3) := by decide +kernel
theorem dL_isRead_529 : decode cL_isRead 529 = .ok (.aload_n 0, 1) := by decide +kernel
theorem dL_isRead_530 : decode cL_isRead 530 = .ok (.iconst (-1), 1) := by decide +kernel
theorem dL_isRead_531 : decode cL_isRead 531 = .ok (.invokevirtual 72, 3) := by decide +kernel
theorem dL_isRead_534 : decode cL_isRead 534 = .ok (.iconst (-1), 1) := by decide +kernel
theorem dL_isRead_535 : decode cL_isRead 535 = .ok (.if_icmp .ne 20, 3) := by decide +kernel
theorem dL_isRead_538 : decode cL_isRead 538 = .ok (.aload_n 0, 1) := by decide +kernel
theorem dL_isRead_539 : decode cL_isRead 539 = .ok (.aload 6, 2) := by decide +kernel
theorem dL_isRead_541 : decode cL_isRead 541 = .ok (.iconst 1, 1) := by decide +kernel
theorem dL_isRead_542 : decode cL_isRead 542 = .ok (.iaload, 1) := by decide +kernel
theorem dL_isRead_543 : decode cL_isRead 543 = .ok (.invokestatic 79, 3) := by decide +kernel
theorem dL_isRead_546 : decode cL_isRead 546 = .ok (.bipush (-61), 2) := by decide +kernel
theorem dL_isRead_548 : decode cL_isRead 548 = .ok (.if_icmp .ne 7, 3) := by decide +kernel
theorem dL_isRead_551 : decode cL_isRead 551 = .ok (.iconst 1, 1) := by decide +kernel
theorem dL_isRead_552 : decode cL_isRead 552 = .ok (.goto 4, 3) := by decide +kernel
theorem dL_isRead_555 : decode cL_isRead 555 = .ok (.iconst 0, 1) := by decide +kernel
theorem dL_isRead_556 : decode cL_isRead 556 = .ok (.ireturn, 1) := by decide +kernel
set_option maxRecDepth 20000 in
theorem ggL_isRacked_X3_placeOf : GoodIn wsL_isRacked wsX3_placeOf := goodIn_ca (goodIn_r _ [7, 8, 9, 10, 11, 6, 12, 13, 14, 15, 16, 17, 18, 19, 20, 21, 22, 23, 24, 25, 123, 124, 125, 126, 127, 128, 129, 130, 131, 132, 133] (by decide +kernel) (by decide +kernel)) (goodIn_sub (fun _ h => List.mem_cons_of_mem _ (List.mem_append_left _ (List.mem_append_right _ h))) (by decide +kernel))
set_option maxRecDepth 20000 in
theorem gL_isRacked_X3_placeOf : GoodIn wsL_isRacked (wsV RL 42 RX3 yX3_placeOf wsX3_placeOf) := goodIn_app (goodIn_of _ (by decide +kernel)) ggL_isRacked_X3_placeOf
set_option maxRecDepth 20000 in
theorem ggL_isRacked_X3_turnsOf : GoodIn wsL_isRacked wsX3_turnsOf := goodIn_ca (goodIn_r _ [29, 8, 9, 10, 11, 6, 12, 13, 14, 15, 16, 17, 18, 19, 20, 30, 31, 32, 33, 34, 123, 124, 125, 126, 127, 128, 129, 130, 131, 132, 133] (by decide +kernel) (by decide +kernel)) (goodIn_sub (fun _ h => List.mem_cons_of_mem _ (List.mem_append_left _ (List.mem_append_right _ h))) (by decide +kernel))
set_option maxRecDepth 20000 in
theorem gL_isRacked_X3_turnsOf : GoodIn wsL_isRacked (wsV RL 82 RX3 yX3_turnsOf wsX3_turnsOf) := goodIn_app (goodIn_of _ (by decide +kernel)) ggL_isRacked_X3_turnsOf
set_option maxRecDepth 20000 in
theorem ggL_isRacked_X3_chargeOf : GoodIn wsL_isRacked wsX3_chargeOf := goodIn_ca (goodIn_r _ [38, 8, 9, 10, 11, 6, 12, 13, 14, 15, 16, 17, 18, 19, 20, 39, 40, 41, 42, 43, 123, 124, 125, 126, 127, 128, 129, 130, 131, 132, 133] (by decide +kernel) (by decide +kernel)) (goodIn_sub (fun _ h => List.mem_cons_of_mem _ (List.mem_append_left _ (List.mem_append_right _ h))) (by decide +kernel))
set_option maxRecDepth 20000 in
theorem gL_isRacked_X3_chargeOf : GoodIn wsL_isRacked (wsV RL 85 RX3 yX3_chargeOf wsX3_chargeOf) := goodIn_app (goodIn_of _ (by decide +kernel)) ggL_isRacked_X3_chargeOf
set_option maxRecDepth 20000 in
theorem ggL_isRacked_X3_capacityOf : GoodIn wsL_isRacked wsX3_capacityOf := goodIn_ca (goodIn_r _ [47, 8, 9, 10, 11, 6, 12, 13, 14, 15, 16, 17, 18, 19, 20, 48, 49, 50, 51, 52, 123, 124, 125, 126, 127, 128, 129, 130, 131, 132, 133] (by decide +kernel) (by decide +kernel)) (goodIn_sub (fun _ h => List.mem_cons_of_mem _ (List.mem_append_left _ (List.mem_append_right _ h))) (by decide +kernel))
set_option maxRecDepth 20000 in
theorem gL_isRacked_X3_capacityOf : GoodIn wsL_isRacked (wsV RL 88 RX3 yX3_capacityOf wsX3_capacityOf) := goodIn_app (goodIn_of _ (by decide +kernel)) ggL_isRacked_X3_capacityOf
set_option maxRecDepth 20000 in
theorem ggL_isRacked_L_ready : GoodIn wsL_isRacked wsL_ready := goodIn_ca (goodIn_r _ [56, 57, 58, 59, 60, 6, 61, 8, 62, 63, 64, 65, 66, 67, 68, 69, 18, 70, 20, 71, 72, 73, 74, 75, 25, 43, 76, 123, 124, 125, 126, 127, 128, 129, 130, 131, 132, 133] (by decide +kernel) (by decide +kernel)) (goodIn_sub (fun _ h => List.mem_cons_of_mem _ (List.mem_append_right _ h)) (by decide +kernel))
set_option maxRecDepth 20000 in
theorem gL_isRacked_L_ready : GoodIn wsL_isRacked (va_wsS RL 91 yL_ready wsL_ready) := goodIn_app (goodIn_of _ (by decide +kernel)) ggL_isRacked_L_ready
set_option maxRecDepth 20000 in
theorem ggL_isRacked_X3_lightLeft : GoodIn wsL_isRacked wsX3_lightLeft := goodIn_ca (goodIn_r _ [80, 81, 8, 82, 83, 84, 6, 85, 13, 14, 86, 87, 88, 89, 90, 91, 92, 93, 94, 95, 96, 39, 40, 41, 18, 42, 43, 123, 124, 125, 126, 134, 135, 136, 137, 138, 139, 127, 128, 129, 130, 131, 132, 133] (by decide +kernel) (by decide +kernel)) (goodIn_sub (fun _ h => List.mem_cons_of_mem _ (List.mem_append_left _ (List.mem_append_right _ h))) (by decide +kernel))
set_option maxRecDepth 20000 in
theorem gL_isRacked_X3_lightLeft : GoodIn wsL_isRacked (wsV RL 93 RX3 yX3_lightLeft wsX3_lightLeft) := goodIn_app (goodIn_of _ (by decide +kernel)) ggL_isRacked_X3_lightLeft
set_option maxRecDepth 20000 in
theorem ggL_isRacked_X3_spares : GoodIn wsL_isRacked wsX3_spares := goodIn_r _ [100, 81, 8, 86, 87, 88, 89, 90, 91, 92, 93, 94, 95, 96, 101, 102, 103, 18, 104, 75, 105, 106, 107, 108, 109, 123, 124, 125, 126, 134, 135, 136, 137, 138, 139, 127, 128, 129, 130, 131, 132, 133] (by decide +kernel) (by decide +kernel)
set_option maxRecDepth 20000 in
theorem gL_isRacked_X3_spares : GoodIn wsL_isRacked (wsV RL 96 RX3 yX3_spares wsX3_spares) := goodIn_app (goodIn_of _ (by decide +kernel)) ggL_isRacked_X3_spares
set_option maxRecDepth 20000 in
theorem ggL_isRacked_X3_rackCharge : GoodIn wsL_isRacked wsX3_rackCharge := goodIn_r _ [113, 8, 114, 115, 116, 18, 117, 20, 25, 43, 52, 118, 123, 124, 125, 126, 127, 128, 129, 130, 131, 132, 133] (by decide +kernel) (by decide +kernel)
set_option maxRecDepth 20000 in
theorem gL_isRacked_X3_rackCharge : GoodIn wsL_isRacked (wsV RL 99 RX3 yX3_rackCharge wsX3_rackCharge) := goodIn_app (goodIn_of _ (by decide +kernel)) ggL_isRacked_X3_rackCharge
set_option maxRecDepth 20000 in
theorem ggL_isRacked_L_placeOf : GoodIn wsL_isRacked wsL_placeOf := goodIn_ca (goodIn_r _ [121, 122, 3, 4, 5, 6, 7, 8, 9, 10, 11, 12, 13, 14, 15, 16, 17, 18, 19, 20, 21, 22, 23, 24, 25, 123, 124, 125, 126, 127, 128, 129, 130, 131, 132, 133] (by decide +kernel) (by decide +kernel)) (goodIn_sub (fun _ h => List.mem_cons_of_mem _ (List.mem_append_left _ (List.mem_append_right _ h))) (by decide +kernel))
set_option maxRecDepth 20000 in
theorem gL_isRacked_L_placeOf : GoodIn wsL_isRacked (va_wsS RL 104 yL_placeOf wsL_placeOf) := goodIn_app (goodIn_of _ (by decide +kernel)) ggL_isRacked_L_placeOf
theorem dL_isRacked_0 : decode cL_isRacked 0 = .ok (.dconst 0, 1) := by decide +kernel
theorem dL_isRacked_1 : decode cL_isRacked 1 = .ok (.dstore 7, 2) := by decide +kernel
theorem dL_isRacked_3 : decode cL_isRacked 3 = .ok (.dconst 0, 1) := by decide +kernel
theorem dL_isRacked_4 : decode cL_isRacked 4 = .ok (.dstore 9, 2) := by decide +kernel
theorem dL_isRacked_6 : decode cL_isRacked 6 = .ok (.iconst 0, 1) := by decide +kernel
theorem dL_isRacked_7 : decode cL_isRacked 7 = .ok (.istore 11, 2) := by decide +kernel
theorem dL_isRacked_9 : decode cL_isRacked 9 = .ok (.iload 11, 2) := by decide +kernel
theorem dL_isRacked_11 : decode cL_isRacked 11 = .ok (.aload 6, 2) := by decide +kernel
theorem dL_isRacked_13 : decode cL_isRacked 13 = .ok (.iconst 0, 1) := by decide +kernel
theorem dL_isRacked_14 : decode cL_isRacked 14 = .ok (.iaload, 1) := by decide +kernel
theorem dL_isRacked_15 : decode cL_isRacked 15 = .ok (.if_icmp .ge 107, 3) := by decide +kernel
theorem dL_isRacked_18 : decode cL_isRacked 18 = .ok (.aload_n 0, 1) := by decide +kernel
theorem dL_isRacked_19 : decode cL_isRacked 19 = .ok (.iload 11, 2) := by decide +kernel
theorem dL_isRacked_21 : decode cL_isRacked 21 = .ok (.invokevirtual 42, 3) := by decide +kernel
theorem dL_isRacked_24 : decode cL_isRacked 24 = .ok (.aload_n 1, 1) := by decide +kernel
theorem dL_isRacked_25 : decode cL_isRacked 25 = .ok (.iload 11, 2) := by decide +kernel
theorem dL_isRacked_27 : decode cL_isRacked 27 = .ok (.iaload, 1) := by decide +kernel
theorem dL_isRacked_28 : decode cL_isRacked 28 = .ok (.iconst 2, 1) := by decide +kernel
theorem dL_isRacked_29 : decode cL_isRacked 29 = .ok (.ishr, 1) := by decide +kernel
theorem dL_isRacked_30 : decode cL_isRacked 30 = .ok (.iconst 3, 1) := by decide +kernel
theorem dL_isRacked_31 : decode cL_isRacked 31 = .ok (.iand, 1) := by decide +kernel
theorem dL_isRacked_32 : decode cL_isRacked 32 = .ok (.if_icmp .ne 50, 3) := by decide +kernel
theorem dL_isRacked_35 : decode cL_isRacked 35 = .ok (.aload_n 0, 1) := by decide +kernel
theorem dL_isRacked_36 : decode cL_isRacked 36 = .ok (.iload 11, 2) := by decide +kernel
theorem dL_isRacked_38 : decode cL_isRacked 38 = .ok (.invokevirtual 82, 3) := by decide +kernel
theorem dL_isRacked_41 : decode cL_isRacked 41 = .ok (.aload_n 1, 1) := by decide +kernel
theorem dL_isRacked_42 : decode cL_isRacked 42 = .ok (.iload 11, 2) := by decide +kernel
theorem dL_isRacked_44 : decode cL_isRacked 44 = .ok (.iaload, 1) := by decide +kernel
theorem dL_isRacked_45 : decode cL_isRacked 45 = .ok (.iconst 4, 1) := by decide +kernel
theorem dL_isRacked_46 : decode cL_isRacked 46 = .ok (.ishr, 1) := by decide +kernel
theorem dL_isRacked_47 : decode cL_isRacked 47 = .ok (.sipush 255, 3) := by decide +kernel
theorem dL_isRacked_50 : decode cL_isRacked 50 = .ok (.iand, 1) := by decide +kernel
theorem dL_isRacked_51 : decode cL_isRacked 51 = .ok (.if_icmp .ne 31, 3) := by decide +kernel
theorem dL_isRacked_54 : decode cL_isRacked 54 = .ok (.aload_n 0, 1) := by decide +kernel
theorem dL_isRacked_55 : decode cL_isRacked 55 = .ok (.iload 11, 2) := by decide +kernel
theorem dL_isRacked_57 : decode cL_isRacked 57 = .ok (.invokevirtual 85, 3) := by decide +kernel
theorem dL_isRacked_60 : decode cL_isRacked 60 = .ok (.aload_n 2, 1) := by decide +kernel
theorem dL_isRacked_61 : decode cL_isRacked 61 = .ok (.iload 11, 2) := by decide +kernel
theorem dL_isRacked_63 : decode cL_isRacked 63 = .ok (.daload, 1) := by decide +kernel
theorem dL_isRacked_64 : decode cL_isRacked 64 = .ok (.dcmp .l, 1) := by decide +kernel
theorem dL_isRacked_65 : decode cL_isRacked 65 = .ok (.ifCond .ne 17, 3) := by decide +kernel
theorem dL_isRacked_68 : decode cL_isRacked 68 = .ok (.aload_n 0, 1) := by decide +kernel
theorem dL_isRacked_69 : decode cL_isRacked 69 = .ok (.iload 11, 2) := by decide +kernel
theorem dL_isRacked_71 : decode cL_isRacked 71 = .ok (.invokevirtual 88, 3) := by decide +kernel
theorem dL_isRacked_74 : decode cL_isRacked 74 = .ok (.aload_n 3, 1) := by decide +kernel
theorem dL_isRacked_75 : decode cL_isRacked 75 = .ok (.iload 11, 2) := by decide +kernel
theorem dL_isRacked_77 : decode cL_isRacked 77 = .ok (.daload, 1) := by decide +kernel
theorem dL_isRacked_78 : decode cL_isRacked 78 = .ok (.dcmp .l, 1) := by decide +kernel
theorem dL_isRacked_79 : decode cL_isRacked 79 = .ok (.ifCond .eq 5, 3) := by decide +kernel
theorem dL_isRacked_82 : decode cL_isRacked 82 = .ok (.iconst 0, 1) := by decide +kernel
theorem dL_isRacked_83 : decode cL_isRacked 83 = .ok (.ireturn, 1) := by decide +kernel
theorem dL_isRacked_84 : decode cL_isRacked 84 = .ok (.aload_n 1, 1) := by decide +kernel
theorem dL_isRacked_85 : decode cL_isRacked 85 = .ok (.iload 11, 2) := by decide +kernel
theorem dL_isRacked_87 : decode cL_isRacked 87 = .ok (.iaload, 1) := by decide +kernel
theorem dL_isRacked_88 : decode cL_isRacked 88 = .ok (.iconst 2, 1) := by decide +kernel
theorem dL_isRacked_89 : decode cL_isRacked 89 = .ok (.ishr, 1) := by decide +kernel
theorem dL_isRacked_90 : decode cL_isRacked 90 = .ok (.iconst 3, 1) := by decide +kernel
theorem dL_isRacked_91 : decode cL_isRacked 91 = .ok (.iand, 1) := by decide +kernel
theorem dL_isRacked_92 : decode cL_isRacked 92 = .ok (.ifCond .le 6, 3) := by decide +kernel
theorem dL_isRacked_95 : decode cL_isRacked 95 = .ok (.goto 21, 3) := by decide +kernel
theorem dL_isRacked_98 : decode cL_isRacked 98 = .ok (.dload 7, 2) := by decide +kernel
theorem dL_isRacked_100 : decode cL_isRacked 100 = .ok (.aload_n 2, 1) := by decide +kernel
theorem dL_isRacked_101 : decode cL_isRacked 101 = .ok (.iload 11, 2) := by decide +kernel
theorem dL_isRacked_103 : decode cL_isRacked 103 = .ok (.daload, 1) := by decide +kernel
theorem dL_isRacked_104 : decode cL_isRacked 104 = .ok (.dadd, 1) := by decide +kernel
theorem dL_isRacked_105 : decode cL_isRacked 105 = .ok (.dstore 7, 2) := by decide +kernel
theorem dL_isRacked_107 : decode cL_isRacked 107 = .ok (.dload 9, 2) := by decide +kernel
theorem dL_isRacked_109 : decode cL_isRacked 109 = .ok (.aload_n 3, 1) := by decide +kernel
theorem dL_isRacked_110 : decode cL_isRacked 110 = .ok (.iload 11, 2) := by decide +kernel
theorem dL_isRacked_112 : decode cL_isRacked 112 = .ok (.daload, 1) := by decide +kernel
theorem dL_isRacked_113 : decode cL_isRacked 113 = .ok (.dadd, 1) := by decide +kernel
theorem dL_isRacked_114 : decode cL_isRacked 114 = .ok (.dstore 9, 2) := by decide +kernel
theorem dL_isRacked_116 : decode cL_isRacked 116 = .ok (.iinc 11 1, 3) := by decide +kernel
theorem dL_isRacked_119 : decode cL_isRacked 119 = .ok (.goto (-110), 3) := by decide +kernel
theorem dL_isRacked_122 : decode cL_isRacked 122 = .ok (.iconst 0, 1) := by decide +kernel
theorem dL_isRacked_123 : decode cL_isRacked 123 = .ok (.istore 11, 2) := by decide +kernel
theorem dL_isRacked_125 : decode cL_isRacked 125 = .ok (.iload 11, 2) := by decide +kernel
theorem dL_isRacked_127 : decode cL_isRacked 127 = .ok (.iconst 3, 1) := by decide +kernel
theorem dL_isRacked_128 : decode cL_isRacked 128 = .ok (.if_icmp .ge 76, 3) := by decide +kernel
theorem dL_isRacked_131 : decode cL_isRacked 131 = .ok (.iconst 0, 1) := by decide +kernel
theorem dL_isRacked_132 : decode cL_isRacked 132 = .ok (.istore 12, 2) := by decide +kernel
theorem dL_isRacked_134 : decode cL_isRacked 134 = .ok (.iconst 0, 1) := by decide +kernel
theorem dL_isRacked_135 : decode cL_isRacked 135 = .ok (.istore 13, 2) := by decide +kernel
theorem dL_isRacked_137 : decode cL_isRacked 137 = .ok (.iload 13, 2) := by decide +kernel
theorem dL_isRacked_139 : decode cL_isRacked 139 = .ok (.aload 6, 2) := by decide +kernel
theorem dL_isRacked_141 : decode cL_isRacked 141 = .ok (.iconst 0, 1) := by decide +kernel
theorem dL_isRacked_142 : decode cL_isRacked 142 = .ok (.iaload, 1) := by decide +kernel
theorem dL_isRacked_143 : decode cL_isRacked 143 = .ok (.if_icmp .ge 42, 3) := by decide +kernel
theorem dL_isRacked_146 : decode cL_isRacked 146 = .ok (.iload 12, 2) := by decide +kernel
theorem dL_isRacked_148 : decode cL_isRacked 148 = .ok (.aload_n 1, 1) := by decide +kernel
theorem dL_isRacked_149 : decode cL_isRacked 149 = .ok (.iload 13, 2) := by decide +kernel
theorem dL_isRacked_151 : decode cL_isRacked 151 = .ok (.iaload, 1) := by decide +kernel
theorem dL_isRacked_152 : decode cL_isRacked 152 = .ok (.bipush 15, 2) := by decide +kernel
theorem dL_isRacked_154 : decode cL_isRacked 154 = .ok (.iand, 1) := by decide +kernel
theorem dL_isRacked_155 : decode cL_isRacked 155 = .ok (.iload 11, 2) := by decide +kernel
theorem dL_isRacked_157 : decode cL_isRacked 157 = .ok (.if_icmp .ne 18, 3) := by decide +kernel
theorem dL_isRacked_160 : decode cL_isRacked 160 = .ok (.aload_n 2, 1) := by decide +kernel
theorem dL_isRacked_161 : decode cL_isRacked 161 = .ok (.iload 13, 2) := by decide +kernel
theorem dL_isRacked_163 : decode cL_isRacked 163 = .ok (.daload, 1) := by decide +kernel
theorem dL_isRacked_164 : decode cL_isRacked 164 = .ok (.ldc2_w 60, 3) := by decide +kernel
theorem dL_isRacked_167 : decode cL_isRacked 167 = .ok (.dcmp .l, 1) := by decide +kernel
theorem dL_isRacked_168 : decode cL_isRacked 168 = .ok (.ifCond .lt 7, 3) := by decide +kernel
theorem dL_isRacked_171 : decode cL_isRacked 171 = .ok (.iconst 1, 1) := by decide +kernel
theorem dL_isRacked_172 : decode cL_isRacked 172 = .ok (.goto 4, 3) := by decide +kernel
theorem dL_isRacked_175 : decode cL_isRacked 175 = .ok (.iconst 0, 1) := by decide +kernel
theorem dL_isRacked_176 : decode cL_isRacked 176 = .ok (.iadd, 1) := by decide +kernel
theorem dL_isRacked_177 : decode cL_isRacked 177 = .ok (.istore 12, 2) := by decide +kernel
theorem dL_isRacked_179 : decode cL_isRacked 179 = .ok (.iinc 13 1, 3) := by decide +kernel
theorem dL_isRacked_182 : decode cL_isRacked 182 = .ok (.goto (-45), 3) := by decide +kernel
theorem dL_isRacked_185 : decode cL_isRacked 185 = .ok (.aload_n 0, 1) := by decide +kernel
theorem dL_isRacked_186 : decode cL_isRacked 186 = .ok (.iload 11, 2) := by decide +kernel
theorem dL_isRacked_188 : decode cL_isRacked 188 = .ok (.invokestatic 91, 3) := by decide +kernel
theorem dL_isRacked_191 : decode cL_isRacked 191 = .ok (.iload 12, 2) := by decide +kernel
theorem dL_isRacked_193 : decode cL_isRacked 193 = .ok (.if_icmp .eq 5, 3) := by decide +kernel
theorem dL_isRacked_196 : decode cL_isRacked 196 = .ok (.iconst 0, 1) := by decide +kernel
theorem dL_isRacked_197 : decode cL_isRacked 197 = .ok (.ireturn, 1) := by decide +kernel
theorem dL_isRacked_198 : decode cL_isRacked 198 = .ok (.iinc 11 1, 3) := by decide +kernel
theorem dL_isRacked_201 : decode cL_isRacked 201 = .ok (.goto (-76), 3) := by decide +kernel
theorem dL_isRacked_204 : decode cL_isRacked 204 = .ok (.iconst 0, 1) := by decide +kernel
theorem dL_isRacked_205 : decode cL_isRacked 205 = .ok (.istore 11, 2) := by decide +kernel
theorem dL_isRacked_207 : decode cL_isRacked 207 = .ok (.iconst 0, 1) := by decide +kernel
theorem dL_isRacked_208 : decode cL_isRacked 208 = .ok (.istore 12, 2) := by decide +kernel
theorem dL_isRacked_210 : decode cL_isRacked 210 = .ok (.iload 12, 2) := by decide +kernel
theorem dL_isRacked_212 : decode cL_isRacked 212 = .ok (.aload 6, 2) := by decide +kernel
theorem dL_isRacked_214 : decode cL_isRacked 214 = .ok (.iconst 1, 1) := by decide +kernel
theorem dL_isRacked_215 : decode cL_isRacked 215 = .ok (.iaload, 1) := by decide +kernel
theorem dL_isRacked_216 : decode cL_isRacked 216 = .ok (.if_icmp .ge 79, 3) := by decide +kernel
theorem dL_isRacked_219 : decode cL_isRacked 219 = .ok (.aload_n 0, 1) := by decide +kernel
theorem dL_isRacked_220 : decode cL_isRacked 220 = .ok (.iload 12, 2) := by decide +kernel
theorem dL_isRacked_222 : decode cL_isRacked 222 = .ok (.invokevirtual 93, 3) := by decide +kernel
theorem dL_isRacked_225 : decode cL_isRacked 225 = .ok (.aload 5, 2) := by decide +kernel
theorem dL_isRacked_227 : decode cL_isRacked 227 = .ok (.iload 12, 2) := by decide +kernel
theorem dL_isRacked_229 : decode cL_isRacked 229 = .ok (.iaload, 1) := by decide +kernel
theorem dL_isRacked_230 : decode cL_isRacked 230 = .ok (.ifCond .ne 7, 3) := by decide +kernel
theorem dL_isRacked_233 : decode cL_isRacked 233 = .ok (.iconst (-1), 1) := by decide +kernel
theorem dL_isRacked_234 : decode cL_isRacked 234 = .ok (.goto 13, 3) := by decide +kernel
theorem dL_isRacked_237 : decode cL_isRacked 237 = .ok (.aload_n 2, 1) := by decide +kernel
theorem dL_isRacked_238 : decode cL_isRacked 238 = .ok (.aload 5, 2) := by decide +kernel
theorem dL_isRacked_240 : decode cL_isRacked 240 = .ok (.iload 12, 2) := by decide +kernel
theorem dL_isRacked_242 : decode cL_isRacked 242 = .ok (.iaload, 1) := by decide +kernel
theorem dL_isRacked_243 : decode cL_isRacked 243 = .ok (.iconst 1, 1) := by decide +kernel
theorem dL_isRacked_244 : decode cL_isRacked 244 = .ok (.isub, 1) := by decide +kernel
theorem dL_isRacked_245 : decode cL_isRacked 245 = .ok (.daload, 1) := by decide +kernel
theorem dL_isRacked_246 : decode cL_isRacked 246 = .ok (.d2i, 1) := by decide +kernel
theorem dL_isRacked_247 : decode cL_isRacked 247 = .ok (.if_icmp .eq 5, 3) := by decide +kernel
theorem dL_isRacked_250 : decode cL_isRacked 250 = .ok (.iconst 0, 1) := by decide +kernel
theorem dL_isRacked_251 : decode cL_isRacked 251 = .ok (.ireturn, 1) := by decide +kernel
theorem dL_isRacked_252 : decode cL_isRacked 252 = .ok (.iload 11, 2) := by decide +kernel
theorem dL_isRacked_254 : decode cL_isRacked 254 = .ok (.aload 5, 2) := by decide +kernel
theorem dL_isRacked_256 : decode cL_isRacked 256 = .ok (.iload 12, 2) := by decide +kernel
theorem dL_isRacked_258 : decode cL_isRacked 258 = .ok (.iaload, 1) := by decide +kernel
theorem dL_isRacked_259 : decode cL_isRacked 259 = .ok (.ifCond .le 26, 3) := by decide +kernel
theorem dL_isRacked_262 : decode cL_isRacked 262 = .ok (.aload_n 1, 1) := by decide +kernel
theorem dL_isRacked_263 : decode cL_isRacked 263 = .ok (.aload 5, 2) := by decide +kernel
theorem dL_isRacked_265 : decode cL_isRacked 265 = .ok (.iload 12, 2) := by decide +kernel
theorem dL_isRacked_267 : decode cL_isRacked 267 = .ok (.iaload, 1) := by decide +kernel
theorem dL_isRacked_268 : decode cL_isRacked 268 = .ok (.iconst 1, 1) := by decide +kernel
theorem dL_isRacked_269 : decode cL_isRacked 269 = .ok (.isub, 1) := by decide +kernel
theorem dL_isRacked_270 : decode cL_isRacked 270 = .ok (.iaload, 1) := by decide +kernel
theorem dL_isRacked_271 : decode cL_isRacked 271 = .ok (.iconst 3, 1) := by decide +kernel
theorem dL_isRacked_272 : decode cL_isRacked 272 = .ok (.iand, 1) := by decide +kernel
theorem dL_isRacked_273 : decode cL_isRacked 273 = .ok (.aload 4, 2) := by decide +kernel
theorem dL_isRacked_275 : decode cL_isRacked 275 = .ok (.iload 12, 2) := by decide +kernel
theorem dL_isRacked_277 : decode cL_isRacked 277 = .ok (.iaload, 1) := by decide +kernel
theorem dL_isRacked_278 : decode cL_isRacked 278 = .ok (.if_icmp .le 7, 3) := by decide +kernel
theorem dL_isRacked_281 : decode cL_isRacked 281 = .ok (.iconst 1, 1) := by decide +kernel
theorem dL_isRacked_282 : decode cL_isRacked 282 = .ok (.goto 4, 3) := by decide +kernel
theorem dL_isRacked_285 : decode cL_isRacked 285 = .ok (.iconst 0, 1) := by decide +kernel
theorem dL_isRacked_286 : decode cL_isRacked 286 = .ok (.iadd, 1) := by decide +kernel
theorem dL_isRacked_287 : decode cL_isRacked 287 = .ok (.istore 11, 2) := by decide +kernel
theorem dL_isRacked_289 : decode cL_isRacked 289 = .ok (.iinc 12 1, 3) := by decide +kernel
theorem dL_isRacked_292 : decode cL_isRacked 292 = .ok (.goto (-82), 3) := by decide +kernel
theorem dL_isRacked_295 : decode cL_isRacked 295 = .ok (.aload_n 0, 1) := by decide +kernel
theorem dL_isRacked_296 : decode cL_isRacked 296 = .ok (.invokevirtual 96, 3) := by decide +kernel
theorem dL_isRacked_299 : decode cL_isRacked 299 = .ok (.iload 11, 2) := by decide +kernel
theorem dL_isRacked_301 : decode cL_isRacked 301 = .ok (.if_icmp .ne 78, 3) := by decide +kernel
theorem dL_isRacked_304 : decode cL_isRacked 304 = .ok (.aload_n 0, 1) := by decide +kernel
theorem dL_isRacked_305 : decode cL_isRacked 305 = .ok (.invokevirtual 99, 3) := by decide +kernel
theorem dL_isRacked_308 : decode cL_isRacked 308 = .ok (.dload 9, 2) := by decide +kernel
theorem dL_isRacked_310 : decode cL_isRacked 310 = .ok (.dconst 0, 1) := by decide +kernel
theorem dL_isRacked_311 : decode cL_isRacked 311 = .ok (.dcmp .l, 1) := by decide +kernel
theorem dL_isRacked_312 : decode cL_isRacked 312 = .ok (.ifCond .ne 7, 3) := by decide +kernel
theorem dL_isRacked_315 : decode cL_isRacked 315 = .ok (.iconst 0, 1) := by decide +kernel
theorem dL_isRacked_316 : decode cL_isRacked 316 = .ok (.goto 13, 3) := by decide +kernel
theorem dL_isRacked_319 : decode cL_isRacked 319 = .ok (.dload 7, 2) := by decide +kernel
theorem dL_isRacked_321 : decode cL_isRacked 321 = .ok (.dload 9, 2) := by decide +kernel
theorem dL_isRacked_323 : decode cL_isRacked 323 = .ok (.ddiv, 1) := by decide +kernel
theorem dL_isRacked_324 : decode cL_isRacked 324 = .ok (.ldc2_w 102, 3) := by decide +kernel
theorem dL_isRacked_327 : decode cL_isRacked 327 = .ok (.dmul, 1) := by decide +kernel
theorem dL_isRacked_328 : decode cL_isRacked 328 = .ok (.d2i, 1) := by decide +kernel
theorem dL_isRacked_329 : decode cL_isRacked 329 = .ok (.if_icmp .ne 50, 3) := by decide +kernel
theorem dL_isRacked_332 : decode cL_isRacked 332 = .ok (.aload_n 0, 1) := by decide +kernel
theorem dL_isRacked_333 : decode cL_isRacked 333 = .ok (.aload 6, 2) := by decide +kernel
theorem dL_isRacked_335 : decode cL_isRacked 335 = .ok (.iconst 0, 1) := by decide +kernel
theorem dL_isRacked_336 : decode cL_isRacked 336 = .ok (.iaload, 1) := by decide +kernel
theorem dL_isRacked_337 : decode cL_isRacked 337 = .ok (.invokestatic 104, 3) := by decide +kernel
theorem dL_isRacked_340 : decode cL_isRacked 340 = .ok (.bipush (-61), 2) := by decide +kernel
theorem dL_isRacked_342 : decode cL_isRacked 342 = .ok (.if_icmp .ne 37, 3) := by decide +kernel
theorem dL_isRacked_345 : decode cL_isRacked 345 = .ok (.aload_n 0, 1) := by decide +kernel
theorem dL_isRacked_346 : decode cL_isRacked 346 = .ok (.iconst (-1), 1) := by decide +kernel
theorem dL_isRacked_347 : decode cL_isRacked 347 = .ok (.invokestatic 104, 3) := by decide +kernel
theorem dL_isRacked_350 : decode cL_isRacked 350 = .ok (.bipush (-61), 2) := by decide +kernel
theorem dL_isRacked_352 : decode cL_isRacked 352 = .ok (.if_icmp .ne 27, 3) := by decide +kernel
theorem dL_isRacked_355 : decode cL_isRacked 355 = .ok (.aload_n 0, 1) := by decide +kernel
theorem dL_isRacked_356 : decode cL_isRacked 356 = .ok (.iconst 3, 1) := by decide +kernel
theorem dL_isRacked_357 : decode cL_isRacked 357 = .ok (.invokestatic 91, 3) := by decide +kernel
theorem dL_isRacked_360 : decode cL_isRacked 360 = .ok (.bipush (-62), 2) := by decide +kernel
theorem dL_isRacked_362 : decode cL_isRacked 362 = .ok (.if_icmp .ne 17, 3) := by decide +kernel
theorem dL_isRacked_365 : decode cL_isRacked 365 = .ok (.aload_n 0, 1) := by decide +kernel
theorem dL_isRacked_366 : decode cL_isRacked 366 = .ok (.iconst (-1), 1) := by decide +kernel
theorem dL_isRacked_367 : decode cL_isRacked 367 = .ok (.invokestatic 91, 3) := by decide +kernel
theorem dL_isRacked_370 : decode cL_isRacked 370 = .ok (.bipush (-62), 2) := by decide +kernel
theorem dL_isRacked_372 : decode cL_isRacked 372 = .ok (.if_icmp .ne 7, 3) := by decide +kernel
theorem dL_isRacked_375 : decode cL_isRacked 375 = .ok (.iconst 1, 1) := by decide +kernel
theorem dL_isRacked_376 : decode cL_isRacked 376 = .ok (.goto 4, 3) := by decide +kernel
theorem dL_isRacked_379 : decode cL_isRacked 379 = .ok (.iconst 0, 1) := by decide +kernel
theorem dL_isRacked_380 : decode cL_isRacked 380 = .ok (.ireturn, 1) := by decide +kernel
set_option maxRecDepth 20000 in
theorem ggL_keeps_L_low : GoodIn wsL_keeps wsL_low := goodIn_r _ [5] (by decide +kernel) (by decide +kernel)
set_option maxRecDepth 20000 in
theorem gL_keeps_L_low : GoodIn wsL_keeps (va_wsS RL 106 yL_low wsL_low) := goodIn_app (goodIn_of _ (by decide +kernel)) ggL_keeps_L_low
set_option maxRecDepth 20000 in
theorem ggL_keeps_L_addLamp : GoodIn wsL_keeps wsL_addLamp := goodIn_ca (goodIn_ca (goodIn_r _ [8, 9, 10, 11, 12, 13, 14, 15, 16, 17, 18, 19, 20, 21, 22, 23, 24, 25, 26, 27, 28, 29, 30, 31, 32, 33, 34, 35, 36, 37, 38, 39, 40, 41, 42, 43, 222, 223, 224, 225, 226, 227, 228, 229, 230, 231, 232] (by decide +kernel) (by decide +kernel)) (goodIn_sub (fun _ h => List.mem_cons_of_mem _ (List.mem_append_left _ (List.mem_append_left _ (List.mem_append_right _ h)))) (by decide +kernel))) (goodIn_sub (fun _ h => List.mem_cons_of_mem _ (List.mem_append_left _ (List.mem_append_right _ h))) (by decide +kernel))
set_option maxRecDepth 20000 in
theorem gL_keeps_L_addLamp : GoodIn wsL_keeps (va_wsS RL 110 yL_addLamp wsL_addLamp) := goodIn_app (goodIn_of _ (by decide +kernel)) ggL_keeps_L_addLamp
set_option maxRecDepth 20000 in
theorem ggL_keeps_L_fresh : GoodIn wsL_keeps wsL_fresh := goodIn_r _ [46, 47, 48] (by decide +kernel) (by decide +kernel)
set_option maxRecDepth 20000 in
theorem gL_keeps_L_fresh : GoodIn wsL_keeps (va_wsS RL 54 yL_fresh wsL_fresh) := goodIn_app (goodIn_of _ (by decide +kernel)) ggL_keeps_L_fresh
set_option maxRecDepth 20000 in
theorem ggL_keeps_L_addMiner : GoodIn wsL_keeps wsL_addMiner := goodIn_ca (goodIn_ca (goodIn_r _ [51, 9, 10, 52, 53, 54, 14, 55, 16, 17, 56, 19, 20, 21, 22, 23, 57, 58, 59, 60, 61, 62, 63, 64, 65, 66, 67, 68, 222, 223, 224, 225, 233, 234, 235, 236, 237, 238] (by decide +kernel) (by decide +kernel)) (goodIn_sub (fun _ h => List.mem_cons_of_mem _ (List.mem_append_left _ (List.mem_append_left _ (List.mem_append_right _ h)))) (by decide +kernel))) (goodIn_sub (fun _ h => List.mem_cons_of_mem _ (List.mem_append_left _ (List.mem_append_right _ h))) (by decide +kernel))
set_option maxRecDepth 20000 in
theorem gL_keeps_L_addMiner : GoodIn wsL_keeps (va_wsS RL 112 yL_addMiner wsL_addMiner) := goodIn_app (goodIn_of _ (by decide +kernel)) ggL_keeps_L_addMiner
set_option maxRecDepth 20000 in
theorem ggL_keeps_L_test : GoodIn wsL_keeps wsL_test := goodIn_ca (goodIn_ca (goodIn_r _ [151, 72, 10, 152, 153, 154, 14, 155, 16, 17, 18, 156, 157, 158, 159, 82, 83, 24, 25, 26, 27, 28, 29, 160, 161, 162, 163, 35, 164, 165, 166, 167, 133, 36, 168, 34, 38, 39, 40, 41, 42, 43, 105, 106, 107, 108, 222, 223, 224, 225, 226, 227, 228, 229, 230, 231, 232] (by decide +kernel) (by decide +kernel)) (goodIn_sub (fun _ h => List.mem_cons_of_mem _ (List.mem_append_left _ (List.mem_append_left _ (List.mem_append_right _ h)))) (by decide +kernel))) (goodIn_sub (fun _ h => List.mem_cons_of_mem _ (List.mem_append_right _ h)) (by decide +kernel))
set_option maxRecDepth 20000 in
theorem gL_keeps_L_test : GoodIn wsL_keeps (va_wsS RL 124 yL_test wsL_test) := goodIn_app (goodIn_of _ (by decide +kernel)) ggL_keeps_L_test
set_option maxRecDepth 20000 in
theorem ggL_keeps_L_mend : GoodIn wsL_keeps wsL_mend := goodIn_ca (goodIn_ca (goodIn_r _ [171, 72, 10, 172, 173, 174, 14, 175, 16, 17, 18, 156, 157, 158, 159, 82, 83, 24, 25, 26, 27, 28, 29, 160, 161, 162, 163, 35, 176, 177, 178, 179, 133, 164, 165, 166, 167, 36, 168, 34, 38, 39, 40, 41, 42, 43, 105, 106, 107, 108, 222, 223, 224, 225, 226, 227, 228, 229, 230, 231, 232] (by decide +kernel) (by decide +kernel)) (goodIn_sub (fun _ h => List.mem_cons_of_mem _ (List.mem_append_left _ (List.mem_append_left _ (List.mem_append_right _ h)))) (by decide +kernel))) (goodIn_sub (fun _ h => List.mem_cons_of_mem _ (List.mem_append_right _ h)) (by decide +kernel))
set_option maxRecDepth 20000 in
theorem gL_keeps_L_mend : GoodIn wsL_keeps (va_wsS RL 126 yL_mend wsL_mend) := goodIn_app (goodIn_of _ (by decide +kernel)) ggL_keeps_L_mend
theorem dL_keeps_0 : decode cL_keeps 0 = .ok (.iload_n 2, 1) := by decide +kernel
theorem dL_keeps_1 : decode cL_keeps 1 = .ok (.aload 12, 2) := by decide +kernel
theorem dL_keeps_3 : decode cL_keeps 3 = .ok (.iconst 0, 1) := by decide +kernel
theorem dL_keeps_4 : decode cL_keeps 4 = .ok (.iaload, 1) := by decide +kernel
theorem dL_keeps_5 : decode cL_keeps 5 = .ok (.iconst 1, 1) := by decide +kernel
theorem dL_keeps_6 : decode cL_keeps 6 = .ok (.iadd, 1) := by decide +kernel
theorem dL_keeps_7 : decode cL_keeps 7 = .ok (.invokestatic 106, 3) := by decide +kernel
theorem dL_keeps_10 : decode cL_keeps 10 = .ok (.istore 13, 2) := by decide +kernel
theorem dL_keeps_12 : decode cL_keeps 12 = .ok (.iload_n 2, 1) := by decide +kernel
theorem dL_keeps_13 : decode cL_keeps 13 = .ok (.aload 12, 2) := by decide +kernel
theorem dL_keeps_15 : decode cL_keeps 15 = .ok (.iconst 1, 1) := by decide +kernel
theorem dL_keeps_16 : decode cL_keeps 16 = .ok (.iaload, 1) := by decide +kernel
theorem dL_keeps_17 : decode cL_keeps 17 = .ok (.iconst 1, 1) := by decide +kernel
theorem dL_keeps_18 : decode cL_keeps 18 = .ok (.iadd, 1) := by decide +kernel
theorem dL_keeps_19 : decode cL_keeps 19 = .ok (.invokestatic 106, 3) := by decide +kernel
theorem dL_keeps_22 : decode cL_keeps 22 = .ok (.istore 14, 2) := by decide +kernel
theorem dL_keeps_24 : decode cL_keeps 24 = .ok (.iload_n 1, 1) := by decide +kernel
theorem dL_keeps_25 : decode cL_keeps 25 = .ok (.bipush 20, 2) := by decide +kernel
theorem dL_keeps_27 : decode cL_keeps 27 = .ok (.invokestatic 106, 3) := by decide +kernel
theorem dL_keeps_30 : decode cL_keeps 30 = .ok (.tableswitch 960 0 15 #[78, 78, 192, 192, 283, 283, 283, 283, 283, 441, 441, 441, 441, 651, 784, 784], 78) := by decide +kernel
theorem dL_keeps_108 : decode cL_keeps 108 = .ok (.iload_n 2, 1) := by decide +kernel
theorem dL_keeps_109 : decode cL_keeps 109 = .ok (.iconst 3, 1) := by decide +kernel
theorem dL_keeps_110 : decode cL_keeps 110 = .ok (.invokestatic 106, 3) := by decide +kernel
theorem dL_keeps_113 : decode cL_keeps 113 = .ok (.istore 15, 2) := by decide +kernel
theorem dL_keeps_115 : decode cL_keeps 115 = .ok (.aload 12, 2) := by decide +kernel
theorem dL_keeps_117 : decode cL_keeps 117 = .ok (.iconst 0, 1) := by decide +kernel
theorem dL_keeps_118 : decode cL_keeps 118 = .ok (.iaload, 1) := by decide +kernel
theorem dL_keeps_119 : decode cL_keeps 119 = .ok (.bipush 40, 2) := by decide +kernel
theorem dL_keeps_121 : decode cL_keeps 121 = .ok (.if_icmp .ne 30, 3) := by decide +kernel
theorem dL_keeps_124 : decode cL_keeps 124 = .ok (.aload_n 0, 1) := by decide +kernel
theorem dL_keeps_125 : decode cL_keeps 125 = .ok (.iload 15, 2) := by decide +kernel
theorem dL_keeps_127 : decode cL_keeps 127 = .ok (.invokestatic 110, 3) := by decide +kernel
theorem dL_keeps_130 : decode cL_keeps 130 = .ok (.bipush (-63), 2) := by decide +kernel
theorem dL_keeps_132 : decode cL_keeps 132 = .ok (.if_icmp .ne 17, 3) := by decide +kernel
theorem dL_keeps_135 : decode cL_keeps 135 = .ok (.aload_n 0, 1) := by decide +kernel
theorem dL_keeps_136 : decode cL_keeps 136 = .ok (.iconst 3, 1) := by decide +kernel
theorem dL_keeps_137 : decode cL_keeps 137 = .ok (.invokestatic 110, 3) := by decide +kernel
theorem dL_keeps_140 : decode cL_keeps 140 = .ok (.bipush (-62), 2) := by decide +kernel
theorem dL_keeps_142 : decode cL_keeps 142 = .ok (.if_icmp .ne 7, 3) := by decide +kernel
theorem dL_keeps_145 : decode cL_keeps 145 = .ok (.iconst 1, 1) := by decide +kernel
theorem dL_keeps_146 : decode cL_keeps 146 = .ok (.goto 4, 3) := by decide +kernel
theorem dL_keeps_149 : decode cL_keeps 149 = .ok (.iconst 0, 1) := by decide +kernel
theorem dL_keeps_150 : decode cL_keeps 150 = .ok (.ireturn, 1) := by decide +kernel
theorem dL_keeps_151 : decode cL_keeps 151 = .ok (.aload_n 3, 1) := by decide +kernel
theorem dL_keeps_152 : decode cL_keeps 152 = .ok (.aload 12, 2) := by decide +kernel
theorem dL_keeps_154 : decode cL_keeps 154 = .ok (.iconst 0, 1) := by decide +kernel
theorem dL_keeps_155 : decode cL_keeps 155 = .ok (.iaload, 1) := by decide +kernel
theorem dL_keeps_156 : decode cL_keeps 156 = .ok (.iload 15, 2) := by decide +kernel
theorem dL_keeps_158 : decode cL_keeps 158 = .ok (.iastore, 1) := by decide +kernel
theorem dL_keeps_159 : decode cL_keeps 159 = .ok (.aload 4, 2) := by decide +kernel
theorem dL_keeps_161 : decode cL_keeps 161 = .ok (.aload 12, 2) := by decide +kernel
theorem dL_keeps_163 : decode cL_keeps 163 = .ok (.iconst 0, 1) := by decide +kernel
theorem dL_keeps_164 : decode cL_keeps 164 = .ok (.iaload, 1) := by decide +kernel
theorem dL_keeps_165 : decode cL_keeps 165 = .ok (.iload 15, 2) := by decide +kernel
theorem dL_keeps_167 : decode cL_keeps 167 = .ok (.invokestatic 54, 3) := by decide +kernel
theorem dL_keeps_170 : decode cL_keeps 170 = .ok (.dastore, 1) := by decide +kernel
theorem dL_keeps_171 : decode cL_keeps 171 = .ok (.aload 5, 2) := by decide +kernel
theorem dL_keeps_173 : decode cL_keeps 173 = .ok (.aload 12, 2) := by decide +kernel
theorem dL_keeps_175 : decode cL_keeps 175 = .ok (.iconst 0, 1) := by decide +kernel
theorem dL_keeps_176 : decode cL_keeps 176 = .ok (.iaload, 1) := by decide +kernel
theorem dL_keeps_177 : decode cL_keeps 177 = .ok (.iload 15, 2) := by decide +kernel
theorem dL_keeps_179 : decode cL_keeps 179 = .ok (.invokestatic 54, 3) := by decide +kernel
theorem dL_keeps_182 : decode cL_keeps 182 = .ok (.dastore, 1) := by decide +kernel
theorem dL_keeps_183 : decode cL_keeps 183 = .ok (.aload 12, 2) := by decide +kernel
theorem dL_keeps_185 : decode cL_keeps 185 = .ok (.iconst 0, 1) := by decide +kernel
theorem dL_keeps_186 : decode cL_keeps 186 = .ok (.dup2, 1) := by decide +kernel
theorem dL_keeps_187 : decode cL_keeps 187 = .ok (.iaload, 1) := by decide +kernel
theorem dL_keeps_188 : decode cL_keeps 188 = .ok (.iconst 1, 1) := by decide +kernel
theorem dL_keeps_189 : decode cL_keeps 189 = .ok (.iadd, 1) := by decide +kernel
theorem dL_keeps_190 : decode cL_keeps 190 = .ok (.iastore, 1) := by decide +kernel
theorem dL_keeps_191 : decode cL_keeps 191 = .ok (.aload_n 0, 1) := by decide +kernel
theorem dL_keeps_192 : decode cL_keeps 192 = .ok (.iload 15, 2) := by decide +kernel
theorem dL_keeps_194 : decode cL_keeps 194 = .ok (.invokestatic 110, 3) := by decide +kernel
theorem dL_keeps_197 : decode cL_keeps 197 = .ok (.aload 12, 2) := by decide +kernel
theorem dL_keeps_199 : decode cL_keeps 199 = .ok (.iconst 0, 1) := by decide +kernel
theorem dL_keeps_200 : decode cL_keeps 200 = .ok (.iaload, 1) := by decide +kernel
theorem dL_keeps_201 : decode cL_keeps 201 = .ok (.iconst 1, 1) := by decide +kernel
theorem dL_keeps_202 : decode cL_keeps 202 = .ok (.isub, 1) := by decide +kernel
theorem dL_keeps_203 : decode cL_keeps 203 = .ok (.if_icmp .ne 17, 3) := by decide +kernel
theorem dL_keeps_206 : decode cL_keeps 206 = .ok (.aload_n 0, 1) := by decide +kernel
theorem dL_keeps_207 : decode cL_keeps 207 = .ok (.iconst (-1), 1) := by decide +kernel
theorem dL_keeps_208 : decode cL_keeps 208 = .ok (.invokestatic 110, 3) := by decide +kernel
theorem dL_keeps_211 : decode cL_keeps 211 = .ok (.bipush (-62), 2) := by decide +kernel
theorem dL_keeps_213 : decode cL_keeps 213 = .ok (.if_icmp .ne 7, 3) := by decide +kernel
theorem dL_keeps_216 : decode cL_keeps 216 = .ok (.iconst 1, 1) := by decide +kernel
theorem dL_keeps_217 : decode cL_keeps 217 = .ok (.goto 4, 3) := by decide +kernel
theorem dL_keeps_220 : decode cL_keeps 220 = .ok (.iconst 0, 1) := by decide +kernel
theorem dL_keeps_221 : decode cL_keeps 221 = .ok (.ireturn, 1) := by decide +kernel
theorem dL_keeps_222 : decode cL_keeps 222 = .ok (.aload 12, 2) := by decide +kernel
theorem dL_keeps_224 : decode cL_keeps 224 = .ok (.iconst 1, 1) := by decide +kernel
theorem dL_keeps_225 : decode cL_keeps 225 = .ok (.iaload, 1) := by decide +kernel
theorem dL_keeps_226 : decode cL_keeps 226 = .ok (.bipush 30, 2) := by decide +kernel
theorem dL_keeps_228 : decode cL_keeps 228 = .ok (.if_icmp .ne 19, 3) := by decide +kernel
theorem dL_keeps_231 : decode cL_keeps 231 = .ok (.aload_n 0, 1) := by decide +kernel
theorem dL_keeps_232 : decode cL_keeps 232 = .ok (.iconst 0, 1) := by decide +kernel
theorem dL_keeps_233 : decode cL_keeps 233 = .ok (.invokestatic 112, 3) := by decide +kernel
theorem dL_keeps_236 : decode cL_keeps 236 = .ok (.bipush (-63), 2) := by decide +kernel
theorem dL_keeps_238 : decode cL_keeps 238 = .ok (.if_icmp .ne 7, 3) := by decide +kernel
theorem dL_keeps_241 : decode cL_keeps 241 = .ok (.iconst 1, 1) := by decide +kernel
theorem dL_keeps_242 : decode cL_keeps 242 = .ok (.goto 4, 3) := by decide +kernel
theorem dL_keeps_245 : decode cL_keeps 245 = .ok (.iconst 0, 1) := by decide +kernel
theorem dL_keeps_246 : decode cL_keeps 246 = .ok (.ireturn, 1) := by decide +kernel
theorem dL_keeps_247 : decode cL_keeps 247 = .ok (.aload 6, 2) := by decide +kernel
theorem dL_keeps_249 : decode cL_keeps 249 = .ok (.aload 12, 2) := by decide +kernel
theorem dL_keeps_251 : decode cL_keeps 251 = .ok (.iconst 1, 1) := by decide +kernel
theorem dL_keeps_252 : decode cL_keeps 252 = .ok (.iaload, 1) := by decide +kernel
theorem dL_keeps_253 : decode cL_keeps 253 = .ok (.iload_n 2, 1) := by decide +kernel
theorem dL_keeps_254 : decode cL_keeps 254 = .ok (.iconst 3, 1) := by decide +kernel
theorem dL_keeps_255 : decode cL_keeps 255 = .ok (.invokestatic 106, 3) := by decide +kernel
theorem dL_keeps_258 : decode cL_keeps 258 = .ok (.iastore, 1) := by decide +kernel
theorem dL_keeps_259 : decode cL_keeps 259 = .ok (.aload 7, 2) := by decide +kernel
theorem dL_keeps_261 : decode cL_keeps 261 = .ok (.aload 12, 2) := by decide +kernel
theorem dL_keeps_263 : decode cL_keeps 263 = .ok (.iconst 1, 1) := by decide +kernel
theorem dL_keeps_264 : decode cL_keeps 264 = .ok (.iaload, 1) := by decide +kernel
theorem dL_keeps_265 : decode cL_keeps 265 = .ok (.iconst 0, 1) := by decide +kernel
theorem dL_keeps_266 : decode cL_keeps 266 = .ok (.iastore, 1) := by decide +kernel
theorem dL_keeps_267 : decode cL_keeps 267 = .ok (.aload 12, 2) := by decide +kernel
theorem dL_keeps_269 : decode cL_keeps 269 = .ok (.iconst 1, 1) := by decide +kernel
theorem dL_keeps_270 : decode cL_keeps 270 = .ok (.dup2, 1) := by decide +kernel
theorem dL_keeps_271 : decode cL_keeps 271 = .ok (.iaload, 1) := by decide +kernel
theorem dL_keeps_272 : decode cL_keeps 272 = .ok (.iconst 1, 1) := by decide +kernel
theorem dL_keeps_273 : decode cL_keeps 273 = .ok (.iadd, 1) := by decide +kernel
theorem dL_keeps_274 : decode cL_keeps 274 = .ok (.iastore, 1) := by decide +kernel
theorem dL_keeps_275 : decode cL_keeps 275 = .ok (.aload_n 0, 1) := by decide +kernel
theorem dL_keeps_276 : decode cL_keeps 276 = .ok (.aload 6, 2) := by decide +kernel
theorem dL_keeps_278 : decode cL_keeps 278 = .ok (.aload 12, 2) := by decide +kernel
theorem dL_keeps_280 : decode cL_keeps 280 = .ok (.iconst 1, 1) := by decide +kernel
theorem dL_keeps_281 : decode cL_keeps 281 = .ok (.iaload, 1) := by decide +kernel
theorem dL_keeps_282 : decode cL_keeps 282 = .ok (.iconst 1, 1) := by decide +kernel
theorem dL_keeps_283 : decode cL_keeps 283 = .ok (.isub, 1) := by decide +kernel
theorem dL_keeps_284 : decode cL_keeps 284 = .ok (.iaload, 1) := by decide +kernel
theorem dL_keeps_285 : decode cL_keeps 285 = .ok (.invokestatic 112, 3) := by decide +kernel
theorem dL_keeps_288 : decode cL_keeps 288 = .ok (.aload 12, 2) := by decide +kernel
theorem dL_keeps_290 : decode cL_keeps 290 = .ok (.iconst 1, 1) := by decide +kernel
theorem dL_keeps_291 : decode cL_keeps 291 = .ok (.iaload, 1) := by decide +kernel
theorem dL_keeps_292 : decode cL_keeps 292 = .ok (.iconst 1, 1) := by decide +kernel
theorem dL_keeps_293 : decode cL_keeps 293 = .ok (.isub, 1) := by decide +kernel
theorem dL_keeps_294 : decode cL_keeps 294 = .ok (.if_icmp .ne 17, 3) := by decide +kernel
theorem dL_keeps_297 : decode cL_keeps 297 = .ok (.aload_n 0, 1) := by decide +kernel
theorem dL_keeps_298 : decode cL_keeps 298 = .ok (.iconst 3, 1) := by decide +kernel
theorem dL_keeps_299 : decode cL_keeps 299 = .ok (.invokestatic 112, 3) := by decide +kernel
theorem dL_keeps_302 : decode cL_keeps 302 = .ok (.bipush (-62), 2) := by decide +kernel
theorem dL_keeps_304 : decode cL_keeps 304 = .ok (.if_icmp .ne 7, 3) := by decide +kernel
theorem dL_keeps_307 : decode cL_keeps 307 = .ok (.iconst 1, 1) := by decide +kernel
theorem dL_keeps_308 : decode cL_keeps 308 = .ok (.goto 4, 3) := by decide +kernel
theorem dL_keeps_311 : decode cL_keeps 311 = .ok (.iconst 0, 1) := by decide +kernel
theorem dL_keeps_312 : decode cL_keeps 312 = .ok (.ireturn, 1) := by decide +kernel
theorem dL_keeps_681 : decode cL_keeps 681 = .ok (.iload 13, 2) := by decide +kernel
theorem dL_keeps_683 : decode cL_keeps 683 = .ok (.aload 12, 2) := by decide +kernel
theorem dL_keeps_685 : decode cL_keeps 685 = .ok (.iconst 0, 1) := by decide +kernel
theorem dL_keeps_686 : decode cL_keeps 686 = .ok (.iaload, 1) := by decide +kernel
theorem dL_keeps_687 : decode cL_keeps 687 = .ok (.if_icmp .ne 31, 3) := by decide +kernel
theorem dL_keeps_690 : decode cL_keeps 690 = .ok (.aload_n 0, 1) := by decide +kernel
theorem dL_keeps_691 : decode cL_keeps 691 = .ok (.iload 13, 2) := by decide +kernel
theorem dL_keeps_693 : decode cL_keeps 693 = .ok (.invokestatic 124, 3) := by decide +kernel
theorem dL_keeps_696 : decode cL_keeps 696 = .ok (.bipush (-61), 2) := by decide +kernel
theorem dL_keeps_698 : decode cL_keeps 698 = .ok (.if_icmp .ne 18, 3) := by decide +kernel
theorem dL_keeps_701 : decode cL_keeps 701 = .ok (.aload_n 0, 1) := by decide +kernel
theorem dL_keeps_702 : decode cL_keeps 702 = .ok (.iload 13, 2) := by decide +kernel
theorem dL_keeps_704 : decode cL_keeps 704 = .ok (.invokestatic 126, 3) := by decide +kernel
theorem dL_keeps_707 : decode cL_keeps 707 = .ok (.bipush (-61), 2) := by decide +kernel
theorem dL_keeps_709 : decode cL_keeps 709 = .ok (.if_icmp .ne 7, 3) := by decide +kernel
theorem dL_keeps_712 : decode cL_keeps 712 = .ok (.iconst 1, 1) := by decide +kernel
theorem dL_keeps_713 : decode cL_keeps 713 = .ok (.goto 4, 3) := by decide +kernel
theorem dL_keeps_716 : decode cL_keeps 716 = .ok (.iconst 0, 1) := by decide +kernel
theorem dL_keeps_717 : decode cL_keeps 717 = .ok (.ireturn, 1) := by decide +kernel
set_option maxRecDepth 20000 in
theorem ggL_law_X3_init : GoodIn wsL_law wsX3_init := goodIn_r _ [11, 12, 13, 14, 15, 16, 17, 18, 19, 20, 21, 22, 23, 24, 25, 26, 27, 28, 29, 30, 3, 31, 32, 33, 34, 35, 4, 36, 37, 38, 39, 40, 41, 42, 43, 44, 45, 46, 47, 48, 49, 50, 51, 374, 375, 376, 377, 378, 379, 380, 370, 371, 372, 373, 381, 382, 383, 384, 385, 386, 387] (by decide +kernel) (by decide +kernel)
set_option maxRecDepth 20000 in
theorem gL_law_X3_init : GoodIn wsL_law (wsX3_init) := ggL_law_X3_init
set_option maxRecDepth 20000 in
theorem ggL_law_L_cell : GoodIn wsL_law wsL_cell := goodIn_r _ [55, 56] (by decide +kernel) (by decide +kernel)
set_option maxRecDepth 20000 in
theorem gL_law_L_cell : GoodIn wsL_law (va_wsS RL 139 yL_cell wsL_cell) := goodIn_app (goodIn_of _ (by decide +kernel)) ggL_law_L_cell
set_option maxRecDepth 20000 in
theorem ggL_law_L_keeps : GoodIn wsL_law wsL_keeps := goodIn_ca (goodIn_ca (goodIn_ca (goodIn_kons (List.mem_of_getElem? (i := 59) rfl) (goodIn_r _ [8, 60, 61, 54, 62, 63, 64, 65, 66, 67, 68, 69, 70, 2, 71, 72, 73, 18, 74, 75, 76, 77, 78, 79, 80, 81, 17, 82, 38, 83, 84, 85, 86, 31, 32, 37, 36, 87, 88, 89, 90, 91, 92, 93, 94, 95, 96, 97, 98, 99, 100, 101, 102, 103, 104, 22, 105, 106, 107, 21, 108, 46, 109, 110, 111, 112, 42, 43, 113, 114, 115, 116, 117, 118, 119, 120, 27, 121, 122, 123, 124, 125, 126, 127, 128, 129, 130, 131, 132, 133, 134, 135, 136, 137, 138, 139, 140, 141, 142, 143, 144, 145, 146, 147, 148, 149, 150, 151, 152, 153, 154, 155, 44, 45, 47, 156, 157, 158, 159, 160, 161, 162, 26, 163, 164, 165, 166, 167, 168, 169, 170, 33, 35, 171, 172, 173, 174, 175, 176, 177, 178, 25, 179, 51, 180, 181, 182, 183, 184, 185, 186, 187, 188, 189, 190, 191, 192, 193, 194, 195, 196, 197, 198, 199, 200, 201, 202, 203, 204, 205, 206, 207, 208, 209, 210, 211, 212, 213, 214, 215, 216, 217, 218, 219, 220, 221, 222, 223, 224, 225, 226, 227, 228, 229, 230, 231, 232, 233, 234, 235, 236, 237, 238, 239, 240, 241, 242, 243, 244, 245, 246, 247, 248, 249, 250, 251, 252, 253, 254, 255, 256, 370, 371, 372, 373, 374, 375, 376, 377, 378, 379, 380, 381, 382, 383, 384, 385, 386, 387] (by decide +kernel) (by decide +kernel))) (goodIn_sub (fun _ h => List.mem_append_left _ (List.mem_append_left _ (List.mem_append_right _ h))) (by decide +kernel))) (goodIn_sub (fun _ h => List.mem_append_left _ (List.mem_append_right _ h)) (by decide +kernel))) (goodIn_sub (fun _ h => List.mem_append_right _ h) (by decide +kernel))
set_option maxRecDepth 20000 in
theorem gL_law_L_keeps : GoodIn wsL_law (va_wsS RL 143 yL_keeps wsL_keeps) := goodIn_app (goodIn_of _ (by decide +kernel)) ggL_law_L_keeps
set_option maxRecDepth 20000 in
theorem ggL_law_L_isRead : GoodIn wsL_law wsL_isRead := goodIn_ca (goodIn_kons (List.mem_of_getElem? (i := 259) rfl) (goodIn_r _ [260, 261, 262, 2, 263, 22, 121, 122, 123, 124, 125, 126, 105, 106, 107, 21, 108, 46, 127, 128, 129, 130, 43, 264, 265, 266, 267, 27, 163, 164, 165, 166, 44, 268, 269, 270, 271, 272, 273, 274, 275, 276, 277, 278, 279, 45, 280, 281, 282, 283, 26, 284, 285, 286, 25, 287, 51, 288, 289, 290, 291, 292, 293, 294, 295, 296, 297, 298, 299, 300, 301, 302, 303, 304, 305, 54, 306, 116, 370, 371, 372, 373, 381, 382, 383, 384, 385, 386, 387] (by decide +kernel) (by decide +kernel))) (goodIn_sub (fun _ h => List.mem_append_right _ h) (by decide +kernel))
set_option maxRecDepth 20000 in
theorem gL_law_L_isRead : GoodIn wsL_law (va_wsS RL 147 yL_isRead wsL_isRead) := goodIn_app (goodIn_of _ (by decide +kernel)) ggL_law_L_isRead
set_option maxRecDepth 20000 in
theorem ggL_law_L_isRacked : GoodIn wsL_law wsL_isRacked := goodIn_ca (goodIn_ca (goodIn_r _ [309, 183, 310, 311, 312, 313, 2, 314, 18, 191, 192, 193, 194, 125, 126, 79, 80, 81, 17, 82, 38, 195, 196, 197, 198, 32, 315, 316, 317, 318, 319, 320, 321, 322, 33, 323, 324, 325, 326, 253, 254, 255, 256, 36, 327, 328, 329, 330, 331, 332, 333, 334, 37, 335, 336, 54, 337, 66, 338, 339, 340, 341, 74, 75, 76, 77, 78, 342, 343, 344, 345, 143, 144, 145, 146, 31, 147, 346, 347, 348, 349, 22, 121, 122, 123, 124, 105, 106, 107, 21, 108, 46, 127, 128, 129, 130, 43, 350, 351, 352, 353, 354, 355, 356, 357, 131, 132, 133, 134, 42, 358, 359, 360, 361, 362, 363, 364, 365, 366, 367, 368, 369, 116, 370, 371, 372, 373, 374, 375, 376, 377, 378, 379, 380, 381, 382, 383, 384, 385, 386] (by decide +kernel) (by decide +kernel)) (goodIn_sub (fun _ h => List.mem_append_right _ h) (by decide +kernel))) (goodIn_sub (fun _ h => List.mem_append_left _ (List.mem_append_right _ h)) (by decide +kernel))
set_option maxRecDepth 20000 in
theorem gL_law_L_isRacked : GoodIn wsL_law (va_wsS RL 151 yL_isRacked wsL_isRacked) := goodIn_app (goodIn_of _ (by decide +kernel)) ggL_law_L_isRacked
set_option maxRecDepth 20000 in
theorem ggL_law_L_addLamp : GoodIn wsL_law wsL_addLamp := goodIn_ca (goodIn_ca (goodIn_r _ [65, 66, 67, 68, 69, 70, 2, 71, 72, 73, 18, 74, 75, 76, 77, 78, 79, 80, 81, 17, 82, 38, 83, 84, 85, 86, 31, 32, 37, 36, 87, 88, 89, 90, 91, 92, 370, 371, 372, 373, 374, 375, 376, 377, 378, 379, 380] (by decide +kernel) (by decide +kernel)) (goodIn_sub (fun _ h => List.mem_append_left _ (List.mem_append_left _ (List.mem_append_right _ h))) (by decide +kernel))) (goodIn_sub (fun _ h => List.mem_append_left _ (List.mem_append_right _ h)) (by decide +kernel))
set_option maxRecDepth 20000 in
theorem gL_law_L_addLamp : GoodIn wsL_law (va_wsS RL 110 yL_addLamp wsL_addLamp) := goodIn_app (goodIn_of _ (by decide +kernel)) ggL_law_L_addLamp
set_option maxRecDepth 20000 in
theorem ggL_law_L_addMiner : GoodIn wsL_law wsL_addMiner := goodIn_ca (goodIn_ca (goodIn_r _ [100, 66, 67, 101, 102, 103, 2, 104, 72, 73, 22, 74, 75, 76, 77, 78, 105, 106, 107, 21, 108, 46, 109, 110, 111, 112, 42, 43, 370, 371, 372, 373, 381, 382, 383, 384, 385, 386] (by decide +kernel) (by decide +kernel)) (goodIn_sub (fun _ h => List.mem_append_left _ (List.mem_append_left _ (List.mem_append_right _ h))) (by decide +kernel))) (goodIn_sub (fun _ h => List.mem_append_left _ (List.mem_append_right _ h)) (by decide +kernel))
set_option maxRecDepth 20000 in
theorem gL_law_L_addMiner : GoodIn wsL_law (va_wsS RL 112 yL_addMiner wsL_addMiner) := goodIn_app (goodIn_of _ (by decide +kernel)) ggL_law_L_addMiner
set_option maxRecDepth 20000 in
theorem ggL_law_X3_spares : GoodIn wsL_law wsX3_spares := goodIn_r _ [353, 22, 18, 105, 106, 107, 21, 108, 46, 127, 128, 129, 130, 43, 354, 355, 356, 17, 357, 31, 131, 132, 133, 134, 42, 370, 371, 372, 373, 381, 382, 383, 384, 385, 386, 374, 375, 376, 377, 378, 379, 380] (by decide +kernel) (by decide +kernel)
set_option maxRecDepth 20000 in
theorem gL_law_X3_spares : GoodIn wsL_law (wsV RL 96 RX3 yX3_spares wsX3_spares) := goodIn_app (goodIn_of _ (by decide +kernel)) ggL_law_X3_spares
set_option maxRecDepth 20000 in
theorem ggL_law_X3_chargeOf : GoodIn wsL_law wsX3_chargeOf := goodIn_ca (goodIn_r _ [326, 18, 191, 192, 193, 2, 194, 125, 126, 79, 80, 81, 17, 82, 38, 253, 254, 255, 256, 36, 370, 371, 372, 373, 374, 375, 376, 377, 378, 379, 380] (by decide +kernel) (by decide +kernel)) (goodIn_sub (fun _ h => List.mem_append_right _ h) (by decide +kernel))
set_option maxRecDepth 20000 in
theorem gL_law_X3_chargeOf : GoodIn wsL_law (wsV RL 85 RX3 yX3_chargeOf wsX3_chargeOf) := goodIn_app (goodIn_of _ (by decide +kernel)) ggL_law_X3_chargeOf
set_option maxRecDepth 20000 in
theorem ggL_law_X3_capacityOf : GoodIn wsL_law wsX3_capacityOf := goodIn_ca (goodIn_r _ [330, 18, 191, 192, 193, 2, 194, 125, 126, 79, 80, 81, 17, 82, 38, 331, 332, 333, 334, 37, 370, 371, 372, 373, 374, 375, 376, 377, 378, 379, 380] (by decide +kernel) (by decide +kernel)) (goodIn_sub (fun _ h => List.mem_append_right _ h) (by decide +kernel))
set_option maxRecDepth 20000 in
theorem gL_law_X3_capacityOf : GoodIn wsL_law (wsV RL 88 RX3 yX3_capacityOf wsX3_capacityOf) := goodIn_app (goodIn_of _ (by decide +kernel)) ggL_law_X3_capacityOf
set_option maxRecDepth 20000 in
theorem ggL_law_X3_turnsOf : GoodIn wsL_law wsX3_turnsOf := goodIn_ca (goodIn_r _ [318, 18, 191, 192, 193, 2, 194, 125, 126, 79, 80, 81, 17, 82, 38, 319, 320, 321, 322, 33, 370, 371, 372, 373, 374, 375, 376, 377, 378, 379, 380] (by decide +kernel) (by decide +kernel)) (goodIn_sub (fun _ h => List.mem_append_right _ h) (by decide +kernel))
set_option maxRecDepth 20000 in
theorem gL_law_X3_turnsOf : GoodIn wsL_law (wsV RL 82 RX3 yX3_turnsOf wsX3_turnsOf) := goodIn_app (goodIn_of _ (by decide +kernel)) ggL_law_X3_turnsOf
set_option maxRecDepth 20000 in
theorem ggL_law_L_test : GoodIn wsL_law wsL_test := goodIn_ca (goodIn_ca (goodIn_r _ [186, 116, 67, 187, 188, 189, 2, 190, 72, 73, 18, 191, 192, 193, 194, 125, 126, 79, 80, 81, 17, 82, 38, 195, 196, 197, 198, 32, 199, 200, 201, 202, 35, 37, 203, 31, 87, 88, 89, 90, 91, 92, 148, 149, 150, 151, 370, 371, 372, 373, 374, 375, 376, 377, 378, 379, 380] (by decide +kernel) (by decide +kernel)) (goodIn_sub (fun _ h => List.mem_append_left _ (List.mem_append_left _ (List.mem_append_right _ h))) (by decide +kernel))) (goodIn_sub (fun _ h => List.mem_append_right _ h) (by decide +kernel))
set_option maxRecDepth 20000 in
theorem gL_law_L_test : GoodIn wsL_law (va_wsS RL 124 yL_test wsL_test) := goodIn_app (goodIn_of _ (by decide +kernel)) ggL_law_L_test
set_option maxRecDepth 20000 in
theorem ggL_law_L_ready : GoodIn wsL_law wsL_ready := goodIn_ca (goodIn_r _ [337, 66, 338, 339, 340, 2, 341, 18, 74, 75, 76, 77, 78, 342, 343, 344, 17, 345, 38, 143, 144, 145, 146, 31, 32, 36, 147, 370, 371, 372, 373, 374, 375, 376, 377, 378, 379, 380] (by decide +kernel) (by decide +kernel)) (goodIn_sub (fun _ h => List.mem_append_left _ (List.mem_append_right _ h)) (by decide +kernel))
set_option maxRecDepth 20000 in
theorem gL_law_L_ready : GoodIn wsL_law (va_wsS RL 91 yL_ready wsL_ready) := goodIn_app (goodIn_of _ (by decide +kernel)) ggL_law_L_ready
set_option maxRecDepth 20000 in
theorem ggL_law_L_mend : GoodIn wsL_law wsL_mend := goodIn_ca (goodIn_ca (goodIn_r _ [206, 116, 67, 207, 208, 209, 2, 210, 72, 73, 18, 191, 192, 193, 194, 125, 126, 79, 80, 81, 17, 82, 38, 195, 196, 197, 198, 32, 211, 212, 213, 214, 35, 199, 200, 201, 202, 37, 203, 31, 87, 88, 89, 90, 91, 92, 148, 149, 150, 151, 370, 371, 372, 373, 374, 375, 376, 377, 378, 379, 380] (by decide +kernel) (by decide +kernel)) (goodIn_sub (fun _ h => List.mem_append_left _ (List.mem_append_left _ (List.mem_append_right _ h))) (by decide +kernel))) (goodIn_sub (fun _ h => List.mem_append_right _ h) (by decide +kernel))
set_option maxRecDepth 20000 in
theorem gL_law_L_mend : GoodIn wsL_law (va_wsS RL 126 yL_mend wsL_mend) := goodIn_app (goodIn_of _ (by decide +kernel)) ggL_law_L_mend
set_option maxRecDepth 20000 in
theorem ggL_law_L_placeOf : GoodIn wsL_law wsL_placeOf := goodIn_ca (goodIn_r _ [369, 116, 311, 312, 313, 2, 314, 18, 191, 192, 193, 194, 125, 126, 79, 80, 81, 17, 82, 38, 195, 196, 197, 198, 32, 370, 371, 372, 373, 374, 375, 376, 377, 378, 379, 380] (by decide +kernel) (by decide +kernel)) (goodIn_sub (fun _ h => List.mem_append_right _ h) (by decide +kernel))
set_option maxRecDepth 20000 in
theorem gL_law_L_placeOf : GoodIn wsL_law (va_wsS RL 104 yL_placeOf wsL_placeOf) := goodIn_app (goodIn_of _ (by decide +kernel)) ggL_law_L_placeOf
set_option maxRecDepth 20000 in
theorem ggL_law_X3_rackCharge : GoodIn wsL_law wsX3_rackCharge := goodIn_r _ [361, 18, 362, 363, 364, 17, 365, 38, 32, 36, 37, 366, 370, 371, 372, 373, 374, 375, 376, 377, 378, 379, 380] (by decide +kernel) (by decide +kernel)
set_option maxRecDepth 20000 in
theorem gL_law_X3_rackCharge : GoodIn wsL_law (wsV RL 99 RX3 yX3_rackCharge wsX3_rackCharge) := goodIn_app (goodIn_of _ (by decide +kernel)) ggL_law_X3_rackCharge
theorem dL_law_0 : decode cL_law 0 = .ok (.new 9, 3) := by decide +kernel
theorem dL_law_3 : decode cL_law 3 = .ok (.dup, 1) := by decide +kernel
theorem dL_law_4 : decode cL_law 4 = .ok (.invokespecial 138, 3) := by decide +kernel
theorem dL_law_7 : decode cL_law 7 = .ok (.astore_n 1, 1) := by decide +kernel
theorem dL_law_8 : decode cL_law 8 = .ok (.bipush 40, 2) := by decide +kernel
theorem dL_law_10 : decode cL_law 10 = .ok (.newarray .int, 2) := by decide +kernel
theorem dL_law_12 : decode cL_law 12 = .ok (.astore_n 2, 1) := by decide +kernel
theorem dL_law_13 : decode cL_law 13 = .ok (.bipush 40, 2) := by decide +kernel
theorem dL_law_15 : decode cL_law 15 = .ok (.newarray .double, 2) := by decide +kernel
theorem dL_law_17 : decode cL_law 17 = .ok (.astore_n 3, 1) := by decide +kernel
theorem dL_law_18 : decode cL_law 18 = .ok (.bipush 40, 2) := by decide +kernel
theorem dL_law_20 : decode cL_law 20 = .ok (.newarray .double, 2) := by decide +kernel
theorem dL_law_22 : decode cL_law 22 = .ok (.astore 4, 2) := by decide +kernel
theorem dL_law_24 : decode cL_law 24 = .ok (.bipush 30, 2) := by decide +kernel
theorem dL_law_26 : decode cL_law 26 = .ok (.newarray .int, 2) := by decide +kernel
theorem dL_law_28 : decode cL_law 28 = .ok (.astore 5, 2) := by decide +kernel
theorem dL_law_30 : decode cL_law 30 = .ok (.bipush 30, 2) := by decide +kernel
theorem dL_law_32 : decode cL_law 32 = .ok (.newarray .int, 2) := by decide +kernel
theorem dL_law_34 : decode cL_law 34 = .ok (.astore 6, 2) := by decide +kernel
theorem dL_law_36 : decode cL_law 36 = .ok (.bipush 30, 2) := by decide +kernel
theorem dL_law_38 : decode cL_law 38 = .ok (.newarray .int, 2) := by decide +kernel
theorem dL_law_40 : decode cL_law 40 = .ok (.astore 7, 2) := by decide +kernel
theorem dL_law_42 : decode cL_law 42 = .ok (.bipush 30, 2) := by decide +kernel
theorem dL_law_44 : decode cL_law 44 = .ok (.newarray .int, 2) := by decide +kernel
theorem dL_law_46 : decode cL_law 46 = .ok (.astore 8, 2) := by decide +kernel
theorem dL_law_48 : decode cL_law 48 = .ok (.bipush 30, 2) := by decide +kernel
theorem dL_law_50 : decode cL_law 50 = .ok (.newarray .int, 2) := by decide +kernel
theorem dL_law_52 : decode cL_law 52 = .ok (.astore 9, 2) := by decide +kernel
theorem dL_law_54 : decode cL_law 54 = .ok (.bipush 30, 2) := by decide +kernel
theorem dL_law_56 : decode cL_law 56 = .ok (.newarray .int, 2) := by decide +kernel
theorem dL_law_58 : decode cL_law 58 = .ok (.astore 10, 2) := by decide +kernel
theorem dL_law_60 : decode cL_law 60 = .ok (.iconst 4, 1) := by decide +kernel
theorem dL_law_61 : decode cL_law 61 = .ok (.newarray .int, 2) := by decide +kernel
theorem dL_law_63 : decode cL_law 63 = .ok (.astore 11, 2) := by decide +kernel
theorem dL_law_65 : decode cL_law 65 = .ok (.iconst 0, 1) := by decide +kernel
theorem dL_law_66 : decode cL_law 66 = .ok (.istore 12, 2) := by decide +kernel
theorem dL_law_68 : decode cL_law 68 = .ok (.iload 12, 2) := by decide +kernel
theorem dL_law_70 : decode cL_law 70 = .ok (.sipush 160, 3) := by decide +kernel
theorem dL_law_73 : decode cL_law 73 = .ok (.if_icmp .ge 119, 3) := by decide +kernel
theorem dL_law_76 : decode cL_law 76 = .ok (.aload_n 0, 1) := by decide +kernel
theorem dL_law_77 : decode cL_law 77 = .ok (.iconst 2, 1) := by decide +kernel
theorem dL_law_78 : decode cL_law 78 = .ok (.iload 12, 2) := by decide +kernel
theorem dL_law_80 : decode cL_law 80 = .ok (.imul, 1) := by decide +kernel
theorem dL_law_81 : decode cL_law 81 = .ok (.invokestatic 139, 3) := by decide +kernel
theorem dL_law_84 : decode cL_law 84 = .ok (.istore 13, 2) := by decide +kernel
theorem dL_law_86 : decode cL_law 86 = .ok (.aload_n 0, 1) := by decide +kernel
theorem dL_law_87 : decode cL_law 87 = .ok (.iconst 2, 1) := by decide +kernel
theorem dL_law_88 : decode cL_law 88 = .ok (.iload 12, 2) := by decide +kernel
theorem dL_law_90 : decode cL_law 90 = .ok (.imul, 1) := by decide +kernel
theorem dL_law_91 : decode cL_law 91 = .ok (.iconst 1, 1) := by decide +kernel
theorem dL_law_92 : decode cL_law 92 = .ok (.iadd, 1) := by decide +kernel
theorem dL_law_93 : decode cL_law 93 = .ok (.invokestatic 139, 3) := by decide +kernel
theorem dL_law_96 : decode cL_law 96 = .ok (.istore 14, 2) := by decide +kernel
theorem dL_law_98 : decode cL_law 98 = .ok (.aload_n 1, 1) := by decide +kernel
theorem dL_law_99 : decode cL_law 99 = .ok (.iload 12, 2) := by decide +kernel
theorem dL_law_101 : decode cL_law 101 = .ok (.iconst 5, 1) := by decide +kernel
theorem dL_law_102 : decode cL_law 102 = .ok (.if_icmp .ge 7, 3) := by decide +kernel
theorem dL_law_105 : decode cL_law 105 = .ok (.iconst 0, 1) := by decide +kernel
theorem dL_law_106 : decode cL_law 106 = .ok (.goto 16, 3) := by decide +kernel
theorem dL_law_109 : decode cL_law 109 = .ok (.iload 12, 2) := by decide +kernel
theorem dL_law_111 : decode cL_law 111 = .ok (.bipush 10, 2) := by decide +kernel
theorem dL_law_113 : decode cL_law 113 = .ok (.if_icmp .ge 7, 3) := by decide +kernel
theorem dL_law_116 : decode cL_law 116 = .ok (.iconst 4, 1) := by decide +kernel
theorem dL_law_117 : decode cL_law 117 = .ok (.goto 5, 3) := by decide +kernel
theorem dL_law_120 : decode cL_law 120 = .ok (.iload 13, 2) := by decide +kernel
theorem dL_law_122 : decode cL_law 122 = .ok (.iload 14, 2) := by decide +kernel
theorem dL_law_124 : decode cL_law 124 = .ok (.aload_n 2, 1) := by decide +kernel
theorem dL_law_125 : decode cL_law 125 = .ok (.aload_n 3, 1) := by decide +kernel
theorem dL_law_126 : decode cL_law 126 = .ok (.aload 4, 2) := by decide +kernel
theorem dL_law_128 : decode cL_law 128 = .ok (.aload 5, 2) := by decide +kernel
theorem dL_law_130 : decode cL_law 130 = .ok (.aload 6, 2) := by decide +kernel
theorem dL_law_132 : decode cL_law 132 = .ok (.aload 7, 2) := by decide +kernel
theorem dL_law_134 : decode cL_law 134 = .ok (.aload 8, 2) := by decide +kernel
theorem dL_law_136 : decode cL_law 136 = .ok (.aload 9, 2) := by decide +kernel
theorem dL_law_138 : decode cL_law 138 = .ok (.aload 10, 2) := by decide +kernel
theorem dL_law_140 : decode cL_law 140 = .ok (.aload 11, 2) := by decide +kernel
theorem dL_law_142 : decode cL_law 142 = .ok (.invokestatic 143, 3) := by decide +kernel
theorem dL_law_145 : decode cL_law 145 = .ok (.ifCond .eq 39, 3) := by decide +kernel
theorem dL_law_148 : decode cL_law 148 = .ok (.aload_n 1, 1) := by decide +kernel
theorem dL_law_149 : decode cL_law 149 = .ok (.aload 6, 2) := by decide +kernel
theorem dL_law_151 : decode cL_law 151 = .ok (.aload 7, 2) := by decide +kernel
theorem dL_law_153 : decode cL_law 153 = .ok (.aload 8, 2) := by decide +kernel
theorem dL_law_155 : decode cL_law 155 = .ok (.aload 9, 2) := by decide +kernel
theorem dL_law_157 : decode cL_law 157 = .ok (.aload 10, 2) := by decide +kernel
theorem dL_law_159 : decode cL_law 159 = .ok (.aload 11, 2) := by decide +kernel
theorem dL_law_161 : decode cL_law 161 = .ok (.invokestatic 147, 3) := by decide +kernel
theorem dL_law_164 : decode cL_law 164 = .ok (.ifCond .eq 20, 3) := by decide +kernel
theorem dL_law_167 : decode cL_law 167 = .ok (.aload_n 1, 1) := by decide +kernel
theorem dL_law_168 : decode cL_law 168 = .ok (.aload_n 2, 1) := by decide +kernel
theorem dL_law_169 : decode cL_law 169 = .ok (.aload_n 3, 1) := by decide +kernel
theorem dL_law_170 : decode cL_law 170 = .ok (.aload 4, 2) := by decide +kernel
theorem dL_law_172 : decode cL_law 172 = .ok (.aload 5, 2) := by decide +kernel
theorem dL_law_174 : decode cL_law 174 = .ok (.aload 6, 2) := by decide +kernel
theorem dL_law_176 : decode cL_law 176 = .ok (.aload 11, 2) := by decide +kernel
theorem dL_law_178 : decode cL_law 178 = .ok (.invokestatic 151, 3) := by decide +kernel
theorem dL_law_181 : decode cL_law 181 = .ok (.ifCond .ne 5, 3) := by decide +kernel
theorem dL_law_184 : decode cL_law 184 = .ok (.iconst 0, 1) := by decide +kernel
theorem dL_law_185 : decode cL_law 185 = .ok (.ireturn, 1) := by decide +kernel
theorem dL_law_186 : decode cL_law 186 = .ok (.iinc 12 1, 3) := by decide +kernel
theorem dL_law_189 : decode cL_law 189 = .ok (.goto (-121), 3) := by decide +kernel
