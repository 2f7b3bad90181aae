set_option maxRecDepth 20000 in
theorem ggL_addLamp_X3_addLamp : GoodIn wsL_addLamp wsX3_addLamp := goodIn_ca (goodIn_ca (goodIn_r _ [7, 8, 9, 10, 11, 12, 6, 13, 14, 15, 16, 17, 18, 19, 20, 21, 22, 23, 24, 25, 26, 27, 28, 29, 30, 31, 32, 33, 34, 35, 36, 37, 38, 39, 40, 41, 42, 43, 44, 45, 46] (by decide +kernel) (by decide +kernel)) (goodIn_sub (fun _ h => List.mem_cons_of_mem _ (List.mem_append_left _ (List.mem_append_right _ h))) (by decide +kernel))) (goodIn_sub (fun _ h => List.mem_cons_of_mem _ (List.mem_append_right _ h)) (by decide +kernel))
set_option maxRecDepth 20000 in
theorem gL_addLamp_X3_addLamp : GoodIn wsL_addLamp (wsV RL 7 RX3 yX3_addLamp wsX3_addLamp) := goodIn_app (goodIn_of _ (by decide +kernel)) ggL_addLamp_X3_addLamp
theorem dL_addLamp_0 : decode cL_addLamp 0 = .ok (.aload_n 2, 1) := by decide +kernel
theorem dL_addLamp_1 : decode cL_addLamp 1 = .ok (.iconst 0, 1) := by decide +kernel
theorem dL_addLamp_2 : decode cL_addLamp 2 = .ok (.aload_n 0, 1) := by decide +kernel
theorem dL_addLamp_3 : decode cL_addLamp 3 = .ok (.iload_n 1, 1) := by decide +kernel
theorem dL_addLamp_4 : decode cL_addLamp 4 = .ok (.invokevirtual 7, 3) := by decide +kernel
theorem dL_addLamp_7 : decode cL_addLamp 7 = .ok (.i2l, 1) := by decide +kernel
theorem dL_addLamp_8 : decode cL_addLamp 8 = .ok (.lastore, 1) := by decide +kernel
theorem dL_addLamp_9 : decode cL_addLamp 9 = .ok (.goto 9, 3) := by decide +kernel
theorem dL_addLamp_12 : decode cL_addLamp 12 = .ok (.astore_n 3, 1) := by decide +kernel
theorem dL_addLamp_13 : decode cL_addLamp 13 = .ok (.iconst 1, 1) := by decide +kernel
theorem dL_addLamp_14 : decode cL_addLamp 14 = .ok (.ireturn, 1) := by decide +kernel
theorem dL_addLamp_15 : decode cL_addLamp 15 = .ok (.astore_n 3, 1) := by decide +kernel
theorem dL_addLamp_16 : decode cL_addLamp 16 = .ok (.iconst 2, 1) := by decide +kernel
theorem dL_addLamp_17 : decode cL_addLamp 17 = .ok (.ireturn, 1) := by decide +kernel
theorem dL_addLamp_18 : decode cL_addLamp 18 = .ok (.iconst 0, 1) := by decide +kernel
theorem dL_addLamp_19 : decode cL_addLamp 19 = .ok (.ireturn, 1) := by decide +kernel
set_option maxRecDepth 20000 in
theorem ggL_addMiner_X3_addMiner : GoodIn wsL_addMiner wsX3_addMiner := goodIn_ca (goodIn_ca (goodIn_r _ [7, 8, 9, 10, 11, 12, 6, 13, 14, 15, 16, 17, 18, 19, 20, 21, 22, 23, 24, 25, 26, 27, 28, 29, 30, 31, 32, 33, 34, 35, 36, 37] (by decide +kernel) (by decide +kernel)) (goodIn_sub (fun _ h => List.mem_cons_of_mem _ (List.mem_append_left _ (List.mem_append_right _ h))) (by decide +kernel))) (goodIn_sub (fun _ h => List.mem_cons_of_mem _ (List.mem_append_right _ h)) (by decide +kernel))
set_option maxRecDepth 20000 in
theorem gL_addMiner_X3_addMiner : GoodIn wsL_addMiner (wsV RL 17 RX3 yX3_addMiner wsX3_addMiner) := goodIn_app (goodIn_of _ (by decide +kernel)) ggL_addMiner_X3_addMiner
theorem dL_addMiner_0 : decode cL_addMiner 0 = .ok (.aload_n 2, 1) := by decide +kernel
theorem dL_addMiner_1 : decode cL_addMiner 1 = .ok (.iconst 0, 1) := by decide +kernel
theorem dL_addMiner_2 : decode cL_addMiner 2 = .ok (.aload_n 0, 1) := by decide +kernel
theorem dL_addMiner_3 : decode cL_addMiner 3 = .ok (.iload_n 1, 1) := by decide +kernel
theorem dL_addMiner_4 : decode cL_addMiner 4 = .ok (.invokevirtual 17, 3) := by decide +kernel
theorem dL_addMiner_7 : decode cL_addMiner 7 = .ok (.i2l, 1) := by decide +kernel
theorem dL_addMiner_8 : decode cL_addMiner 8 = .ok (.lastore, 1) := by decide +kernel
theorem dL_addMiner_9 : decode cL_addMiner 9 = .ok (.goto 9, 3) := by decide +kernel
theorem dL_addMiner_12 : decode cL_addMiner 12 = .ok (.astore_n 3, 1) := by decide +kernel
theorem dL_addMiner_13 : decode cL_addMiner 13 = .ok (.iconst 1, 1) := by decide +kernel
theorem dL_addMiner_14 : decode cL_addMiner 14 = .ok (.ireturn, 1) := by decide +kernel
theorem dL_addMiner_15 : decode cL_addMiner 15 = .ok (.astore_n 3, 1) := by decide +kernel
theorem dL_addMiner_16 : decode cL_addMiner 16 = .ok (.iconst 2, 1) := by decide +kernel
theorem dL_addMiner_17 : decode cL_addMiner 17 = .ok (.ireturn, 1) := by decide +kernel
theorem dL_addMiner_18 : decode cL_addMiner 18 = .ok (.iconst 0, 1) := by decide +kernel
theorem dL_addMiner_19 : decode cL_addMiner 19 = .ok (.ireturn, 1) := by decide +kernel
set_option maxRecDepth 20000 in
theorem ggL_issue_X3_issue : GoodIn wsL_issue wsX3_issue := goodIn_ca (goodIn_ca (goodIn_r _ [7, 8, 9, 10, 11, 12, 13, 14, 15, 6, 16, 17, 18, 19, 20, 21, 22, 23, 24, 25, 26, 27, 28, 29, 30, 31, 32, 33, 34, 35, 36, 37, 38, 39, 40, 41, 42, 43, 44, 45, 46, 47, 48, 49, 50, 51, 52, 53, 54, 55, 56, 57, 58, 59, 60, 61, 62, 63, 64, 65, 66, 67, 68, 69, 70, 71, 72, 73, 74, 75, 76, 77, 78, 79, 80] (by decide +kernel) (by decide +kernel)) (goodIn_sub (fun _ h => List.mem_cons_of_mem _ (List.mem_append_left _ (List.mem_append_right _ h))) (by decide +kernel))) (goodIn_sub (fun _ h => List.mem_cons_of_mem _ (List.mem_append_right _ h)) (by decide +kernel))
set_option maxRecDepth 20000 in
theorem gL_issue_X3_issue : GoodIn wsL_issue (wsV RL 20 RX3 yX3_issue wsX3_issue) := goodIn_app (goodIn_of _ (by decide +kernel)) ggL_issue_X3_issue
theorem dL_issue_0 : decode cL_issue 0 = .ok (.aload_n 2, 1) := by decide +kernel
theorem dL_issue_1 : decode cL_issue 1 = .ok (.iconst 0, 1) := by decide +kernel
theorem dL_issue_2 : decode cL_issue 2 = .ok (.aload_n 0, 1) := by decide +kernel
theorem dL_issue_3 : decode cL_issue 3 = .ok (.iload_n 1, 1) := by decide +kernel
theorem dL_issue_4 : decode cL_issue 4 = .ok (.invokevirtual 20, 3) := by decide +kernel
theorem dL_issue_7 : decode cL_issue 7 = .ok (.i2l, 1) := by decide +kernel
theorem dL_issue_8 : decode cL_issue 8 = .ok (.lastore, 1) := by decide +kernel
theorem dL_issue_9 : decode cL_issue 9 = .ok (.goto 9, 3) := by decide +kernel
theorem dL_issue_12 : decode cL_issue 12 = .ok (.astore_n 3, 1) := by decide +kernel
theorem dL_issue_13 : decode cL_issue 13 = .ok (.iconst 1, 1) := by decide +kernel
theorem dL_issue_14 : decode cL_issue 14 = .ok (.ireturn, 1) := by decide +kernel
theorem dL_issue_15 : decode cL_issue 15 = .ok (.astore_n 3, 1) := by decide +kernel
theorem dL_issue_16 : decode cL_issue 16 = .ok (.iconst 2, 1) := by decide +kernel
theorem dL_issue_17 : decode cL_issue 17 = .ok (.ireturn, 1) := by decide +kernel
theorem dL_issue_18 : decode cL_issue 18 = .ok (.iconst 0, 1) := by decide +kernel
theorem dL_issue_19 : decode cL_issue 19 = .ok (.ireturn, 1) := by decide +kernel
set_option maxRecDepth 20000 in
theorem ggL_back_X3_back : GoodIn wsL_back wsX3_back := goodIn_ca (goodIn_ca (goodIn_r _ [7, 8, 9, 10, 11, 12, 13, 14, 15, 16, 6, 17, 18, 19, 20, 21, 22, 23, 24, 25, 26, 27, 28, 29, 30, 31, 32, 33, 34, 35, 36, 37, 38, 39, 40, 41, 42, 43, 44, 45, 46, 47, 48, 49, 50, 51, 52, 53, 54, 55, 56, 57, 58, 59, 60, 61, 62, 63, 64, 65, 66, 67, 68, 69, 70, 71, 72, 73, 74] (by decide +kernel) (by decide +kernel)) (goodIn_sub (fun _ h => List.mem_cons_of_mem _ (List.mem_append_left _ (List.mem_append_right _ h))) (by decide +kernel))) (goodIn_sub (fun _ h => List.mem_cons_of_mem _ (List.mem_append_right _ h)) (by decide +kernel))
set_option maxRecDepth 20000 in
theorem gL_back_X3_back : GoodIn wsL_back (wsV RL 25 RX3 yX3_back wsX3_back) := goodIn_app (goodIn_of _ (by decide +kernel)) ggL_back_X3_back
theorem dL_back_0 : decode cL_back 0 = .ok (.aload_n 2, 1) := by decide +kernel
theorem dL_back_1 : decode cL_back 1 = .ok (.iconst 0, 1) := by decide +kernel
theorem dL_back_2 : decode cL_back 2 = .ok (.aload_n 0, 1) := by decide +kernel
theorem dL_back_3 : decode cL_back 3 = .ok (.iload_n 1, 1) := by decide +kernel
theorem dL_back_4 : decode cL_back 4 = .ok (.invokevirtual 25, 3) := by decide +kernel
theorem dL_back_7 : decode cL_back 7 = .ok (.i2l, 1) := by decide +kernel
theorem dL_back_8 : decode cL_back 8 = .ok (.lastore, 1) := by decide +kernel
theorem dL_back_9 : decode cL_back 9 = .ok (.goto 9, 3) := by decide +kernel
theorem dL_back_12 : decode cL_back 12 = .ok (.astore_n 3, 1) := by decide +kernel
theorem dL_back_13 : decode cL_back 13 = .ok (.iconst 1, 1) := by decide +kernel
theorem dL_back_14 : decode cL_back 14 = .ok (.ireturn, 1) := by decide +kernel
theorem dL_back_15 : decode cL_back 15 = .ok (.astore_n 3, 1) := by decide +kernel
theorem dL_back_16 : decode cL_back 16 = .ok (.iconst 2, 1) := by decide +kernel
theorem dL_back_17 : decode cL_back 17 = .ok (.ireturn, 1) := by decide +kernel
theorem dL_back_18 : decode cL_back 18 = .ok (.iconst 0, 1) := by decide +kernel
theorem dL_back_19 : decode cL_back 19 = .ok (.ireturn, 1) := by decide +kernel
set_option maxRecDepth 20000 in
theorem ggL_test_X3_test : GoodIn wsL_test wsX3_test := goodIn_ca (goodIn_ca (goodIn_r _ [7, 8, 9, 10, 11, 12, 13, 6, 14, 15, 16, 17, 18, 19, 20, 21, 22, 23, 24, 25, 26, 27, 28, 29, 30, 31, 32, 33, 34, 35, 36, 37, 38, 39, 40, 41, 42, 43, 44, 45, 46, 47, 48, 49, 50, 51, 52, 53, 54, 55, 56] (by decide +kernel) (by decide +kernel)) (goodIn_sub (fun _ h => List.mem_cons_of_mem _ (List.mem_append_left _ (List.mem_append_right _ h))) (by decide +kernel))) (goodIn_sub (fun _ h => List.mem_cons_of_mem _ (List.mem_append_right _ h)) (by decide +kernel))
set_option maxRecDepth 20000 in
theorem gL_test_X3_test : GoodIn wsL_test (wsV RL 28 RX3 yX3_test wsX3_test) := goodIn_app (goodIn_of _ (by decide +kernel)) ggL_test_X3_test
theorem dL_test_0 : decode cL_test 0 = .ok (.aload_n 2, 1) := by decide +kernel
theorem dL_test_1 : decode cL_test 1 = .ok (.iconst 0, 1) := by decide +kernel
theorem dL_test_2 : decode cL_test 2 = .ok (.aload_n 0, 1) := by decide +kernel
theorem dL_test_3 : decode cL_test 3 = .ok (.iload_n 1, 1) := by decide +kernel
theorem dL_test_4 : decode cL_test 4 = .ok (.invokevirtual 28, 3) := by decide +kernel
theorem dL_test_7 : decode cL_test 7 = .ok (.i2l, 1) := by decide +kernel
theorem dL_test_8 : decode cL_test 8 = .ok (.lastore, 1) := by decide +kernel
theorem dL_test_9 : decode cL_test 9 = .ok (.goto 9, 3) := by decide +kernel
theorem dL_test_12 : decode cL_test 12 = .ok (.astore_n 3, 1) := by decide +kernel
theorem dL_test_13 : decode cL_test 13 = .ok (.iconst 1, 1) := by decide +kernel
theorem dL_test_14 : decode cL_test 14 = .ok (.ireturn, 1) := by decide +kernel
theorem dL_test_15 : decode cL_test 15 = .ok (.astore_n 3, 1) := by decide +kernel
theorem dL_test_16 : decode cL_test 16 = .ok (.iconst 2, 1) := by decide +kernel
theorem dL_test_17 : decode cL_test 17 = .ok (.ireturn, 1) := by decide +kernel
theorem dL_test_18 : decode cL_test 18 = .ok (.iconst 0, 1) := by decide +kernel
theorem dL_test_19 : decode cL_test 19 = .ok (.ireturn, 1) := by decide +kernel
set_option maxRecDepth 20000 in
theorem ggL_mend_X3_mend : GoodIn wsL_mend wsX3_mend := goodIn_ca (goodIn_ca (goodIn_r _ [7, 8, 9, 10, 11, 12, 13, 6, 14, 15, 16, 17, 18, 19, 20, 21, 22, 23, 24, 25, 26, 27, 28, 29, 30, 31, 32, 33, 34, 35, 36, 37, 38, 39, 40, 41, 42, 43, 44, 45, 46, 47, 48, 49, 50, 51, 52, 53, 54, 55, 56, 57, 58, 59, 60] (by decide +kernel) (by decide +kernel)) (goodIn_sub (fun _ h => List.mem_cons_of_mem _ (List.mem_append_left _ (List.mem_append_right _ h))) (by decide +kernel))) (goodIn_sub (fun _ h => List.mem_cons_of_mem _ (List.mem_append_right _ h)) (by decide +kernel))
set_option maxRecDepth 20000 in
theorem gL_mend_X3_mend : GoodIn wsL_mend (wsV RL 31 RX3 yX3_mend wsX3_mend) := goodIn_app (goodIn_of _ (by decide +kernel)) ggL_mend_X3_mend
theorem dL_mend_0 : decode cL_mend 0 = .ok (.aload_n 2, 1) := by decide +kernel
theorem dL_mend_1 : decode cL_mend 1 = .ok (.iconst 0, 1) := by decide +kernel
theorem dL_mend_2 : decode cL_mend 2 = .ok (.aload_n 0, 1) := by decide +kernel
theorem dL_mend_3 : decode cL_mend 3 = .ok (.iload_n 1, 1) := by decide +kernel
theorem dL_mend_4 : decode cL_mend 4 = .ok (.invokevirtual 31, 3) := by decide +kernel
theorem dL_mend_7 : decode cL_mend 7 = .ok (.ifCond .eq 7, 3) := by decide +kernel
theorem dL_mend_10 : decode cL_mend 10 = .ok (.lconst 1, 1) := by decide +kernel
theorem dL_mend_11 : decode cL_mend 11 = .ok (.goto 4, 3) := by decide +kernel
theorem dL_mend_14 : decode cL_mend 14 = .ok (.lconst 0, 1) := by decide +kernel
theorem dL_mend_15 : decode cL_mend 15 = .ok (.lastore, 1) := by decide +kernel
theorem dL_mend_16 : decode cL_mend 16 = .ok (.goto 9, 3) := by decide +kernel
theorem dL_mend_19 : decode cL_mend 19 = .ok (.astore_n 3, 1) := by decide +kernel
theorem dL_mend_20 : decode cL_mend 20 = .ok (.iconst 1, 1) := by decide +kernel
theorem dL_mend_21 : decode cL_mend 21 = .ok (.ireturn, 1) := by decide +kernel
theorem dL_mend_22 : decode cL_mend 22 = .ok (.astore_n 3, 1) := by decide +kernel
theorem dL_mend_23 : decode cL_mend 23 = .ok (.iconst 2, 1) := by decide +kernel
theorem dL_mend_24 : decode cL_mend 24 = .ok (.ireturn, 1) := by decide +kernel
theorem dL_mend_25 : decode cL_mend 25 = .ok (.iconst 0, 1) := by decide +kernel
theorem dL_mend_26 : decode cL_mend 26 = .ok (.ireturn, 1) := by decide +kernel
set_option maxRecDepth 20000 in
theorem ggL_hours_X3_hours : GoodIn wsL_hours wsX3_hours := goodIn_ca (goodIn_r _ [6, 7, 8, 9, 10, 11, 5, 12, 13, 14, 15, 16, 17, 18, 19, 20, 21, 22, 23, 24, 25, 26, 27, 28, 29, 30, 31, 32, 33, 34, 35, 36, 37, 38, 39, 40, 41, 42, 43, 44, 45, 46, 47, 48, 49, 50, 51, 52, 53, 54, 55, 56, 57, 58, 59, 60, 61, 62, 63, 64, 65, 66, 67, 68, 69, 70, 71, 72, 73, 74, 75, 76, 77, 78, 79, 80] (by decide +kernel) (by decide +kernel)) (goodIn_sub (fun _ h => List.mem_cons_of_mem _ (List.mem_append_right _ h)) (by decide +kernel))
set_option maxRecDepth 20000 in
theorem gL_hours_X3_hours : GoodIn wsL_hours (wsV RL 35 RX3 yX3_hours wsX3_hours) := goodIn_app (goodIn_of _ (by decide +kernel)) ggL_hours_X3_hours
theorem dL_hours_0 : decode cL_hours 0 = .ok (.aload_n 2, 1) := by decide +kernel
theorem dL_hours_1 : decode cL_hours 1 = .ok (.iconst 0, 1) := by decide +kernel
theorem dL_hours_2 : decode cL_hours 2 = .ok (.aload_n 0, 1) := by decide +kernel
theorem dL_hours_3 : decode cL_hours 3 = .ok (.iload_n 1, 1) := by decide +kernel
theorem dL_hours_4 : decode cL_hours 4 = .ok (.invokevirtual 35, 3) := by decide +kernel
theorem dL_hours_7 : decode cL_hours 7 = .ok (.i2l, 1) := by decide +kernel
theorem dL_hours_8 : decode cL_hours 8 = .ok (.lastore, 1) := by decide +kernel
theorem dL_hours_9 : decode cL_hours 9 = .ok (.goto 6, 3) := by decide +kernel
theorem dL_hours_12 : decode cL_hours 12 = .ok (.astore_n 3, 1) := by decide +kernel
theorem dL_hours_13 : decode cL_hours 13 = .ok (.iconst 1, 1) := by decide +kernel
theorem dL_hours_14 : decode cL_hours 14 = .ok (.ireturn, 1) := by decide +kernel
theorem dL_hours_15 : decode cL_hours 15 = .ok (.iconst 0, 1) := by decide +kernel
theorem dL_hours_16 : decode cL_hours 16 = .ok (.ireturn, 1) := by decide +kernel
set_option maxRecDepth 20000 in
theorem ggL_lampOf_X3_lampOf : GoodIn wsL_lampOf wsX3_lampOf := goodIn_ca (goodIn_r _ [6, 7, 8, 9, 10, 5, 11, 12, 13, 14, 15, 16, 17, 18, 19, 20, 21, 22, 23, 24, 25, 26, 27, 28, 29, 30, 31, 32, 33, 34] (by decide +kernel) (by decide +kernel)) (goodIn_sub (fun _ h => List.mem_cons_of_mem _ (List.mem_append_right _ h)) (by decide +kernel))
set_option maxRecDepth 20000 in
theorem gL_lampOf_X3_lampOf : GoodIn wsL_lampOf (wsV RL 38 RX3 yX3_lampOf wsX3_lampOf) := goodIn_app (goodIn_of _ (by decide +kernel)) ggL_lampOf_X3_lampOf
theorem dL_lampOf_0 : decode cL_lampOf 0 = .ok (.aload_n 2, 1) := by decide +kernel
theorem dL_lampOf_1 : decode cL_lampOf 1 = .ok (.iconst 0, 1) := by decide +kernel
theorem dL_lampOf_2 : decode cL_lampOf 2 = .ok (.aload_n 0, 1) := by decide +kernel
theorem dL_lampOf_3 : decode cL_lampOf 3 = .ok (.iload_n 1, 1) := by decide +kernel
theorem dL_lampOf_4 : decode cL_lampOf 4 = .ok (.invokevirtual 38, 3) := by decide +kernel
theorem dL_lampOf_7 : decode cL_lampOf 7 = .ok (.i2l, 1) := by decide +kernel
theorem dL_lampOf_8 : decode cL_lampOf 8 = .ok (.lastore, 1) := by decide +kernel
theorem dL_lampOf_9 : decode cL_lampOf 9 = .ok (.goto 6, 3) := by decide +kernel
theorem dL_lampOf_12 : decode cL_lampOf 12 = .ok (.astore_n 3, 1) := by decide +kernel
theorem dL_lampOf_13 : decode cL_lampOf 13 = .ok (.iconst 1, 1) := by decide +kernel
theorem dL_lampOf_14 : decode cL_lampOf 14 = .ok (.ireturn, 1) := by decide +kernel
theorem dL_lampOf_15 : decode cL_lampOf 15 = .ok (.iconst 0, 1) := by decide +kernel
theorem dL_lampOf_16 : decode cL_lampOf 16 = .ok (.ireturn, 1) := by decide +kernel
set_option maxRecDepth 20000 in
theorem ggL_hoursBelow_X3_hoursBelow : GoodIn wsL_hoursBelow wsX3_hoursBelow := goodIn_ca (goodIn_r _ [6, 7, 8, 9, 10, 11, 5, 12, 13, 14, 15, 16, 17, 18, 19, 20, 21, 22, 23, 24, 25, 26, 27, 28, 29, 30, 31, 32, 33, 34, 35, 36, 37, 38, 39, 40] (by decide +kernel) (by decide +kernel)) (goodIn_sub (fun _ h => List.mem_cons_of_mem _ (List.mem_append_right _ h)) (by decide +kernel))
set_option maxRecDepth 20000 in
theorem gL_hoursBelow_X3_hoursBelow : GoodIn wsL_hoursBelow (wsV RL 41 RX3 yX3_hoursBelow wsX3_hoursBelow) := goodIn_app (goodIn_of _ (by decide +kernel)) ggL_hoursBelow_X3_hoursBelow
theorem dL_hoursBelow_0 : decode cL_hoursBelow 0 = .ok (.aload_n 2, 1) := by decide +kernel
theorem dL_hoursBelow_1 : decode cL_hoursBelow 1 = .ok (.iconst 0, 1) := by decide +kernel
theorem dL_hoursBelow_2 : decode cL_hoursBelow 2 = .ok (.aload_n 0, 1) := by decide +kernel
theorem dL_hoursBelow_3 : decode cL_hoursBelow 3 = .ok (.iload_n 1, 1) := by decide +kernel
theorem dL_hoursBelow_4 : decode cL_hoursBelow 4 = .ok (.invokevirtual 41, 3) := by decide +kernel
theorem dL_hoursBelow_7 : decode cL_hoursBelow 7 = .ok (.i2l, 1) := by decide +kernel
theorem dL_hoursBelow_8 : decode cL_hoursBelow 8 = .ok (.lastore, 1) := by decide +kernel
theorem dL_hoursBelow_9 : decode cL_hoursBelow 9 = .ok (.goto 6, 3) := by decide +kernel
theorem dL_hoursBelow_12 : decode cL_hoursBelow 12 = .ok (.astore_n 3, 1) := by decide +kernel
theorem dL_hoursBelow_13 : decode cL_hoursBelow 13 = .ok (.iconst 1, 1) := by decide +kernel
theorem dL_hoursBelow_14 : decode cL_hoursBelow 14 = .ok (.ireturn, 1) := by decide +kernel
theorem dL_hoursBelow_15 : decode cL_hoursBelow 15 = .ok (.iconst 0, 1) := by decide +kernel
theorem dL_hoursBelow_16 : decode cL_hoursBelow 16 = .ok (.ireturn, 1) := by decide +kernel
set_option maxRecDepth 20000 in
theorem ggL_placeOf_X3_placeOf : GoodIn wsL_placeOf wsX3_placeOf := goodIn_ca (goodIn_r _ [6, 7, 8, 9, 10, 5, 11, 12, 13, 14, 15, 16, 17, 18, 19, 20, 21, 22, 23, 24, 25, 26, 27, 28, 29, 30, 31, 32, 33, 34, 35] (by decide +kernel) (by decide +kernel)) (goodIn_sub (fun _ h => List.mem_cons_of_mem _ (List.mem_append_right _ h)) (by decide +kernel))
set_option maxRecDepth 20000 in
theorem gL_placeOf_X3_placeOf : GoodIn wsL_placeOf (wsV RL 44 RX3 yX3_placeOf wsX3_placeOf) := goodIn_app (goodIn_of _ (by decide +kernel)) ggL_placeOf_X3_placeOf
theorem dL_placeOf_0 : decode cL_placeOf 0 = .ok (.aload_n 2, 1) := by decide +kernel
theorem dL_placeOf_1 : decode cL_placeOf 1 = .ok (.iconst 0, 1) := by decide +kernel
theorem dL_placeOf_2 : decode cL_placeOf 2 = .ok (.aload_n 0, 1) := by decide +kernel
theorem dL_placeOf_3 : decode cL_placeOf 3 = .ok (.iload_n 1, 1) := by decide +kernel
theorem dL_placeOf_4 : decode cL_placeOf 4 = .ok (.invokevirtual 44, 3) := by decide +kernel
theorem dL_placeOf_7 : decode cL_placeOf 7 = .ok (.i2l, 1) := by decide +kernel
theorem dL_placeOf_8 : decode cL_placeOf 8 = .ok (.lastore, 1) := by decide +kernel
theorem dL_placeOf_9 : decode cL_placeOf 9 = .ok (.goto 6, 3) := by decide +kernel
theorem dL_placeOf_12 : decode cL_placeOf 12 = .ok (.astore_n 3, 1) := by decide +kernel
theorem dL_placeOf_13 : decode cL_placeOf 13 = .ok (.iconst 1, 1) := by decide +kernel
theorem dL_placeOf_14 : decode cL_placeOf 14 = .ok (.ireturn, 1) := by decide +kernel
theorem dL_placeOf_15 : decode cL_placeOf 15 = .ok (.iconst 0, 1) := by decide +kernel
theorem dL_placeOf_16 : decode cL_placeOf 16 = .ok (.ireturn, 1) := by decide +kernel
set_option maxRecDepth 20000 in
theorem ggL_chargeOf_X3_chargeOf : GoodIn wsL_chargeOf wsX3_chargeOf := goodIn_ca (goodIn_r _ [6, 7, 8, 9, 10, 5, 11, 12, 13, 14, 15, 16, 17, 18, 19, 20, 21, 22, 23, 24, 25, 26, 27, 28, 29, 30, 31, 32, 33, 34, 35] (by decide +kernel) (by decide +kernel)) (goodIn_sub (fun _ h => List.mem_cons_of_mem _ (List.mem_append_right _ h)) (by decide +kernel))
set_option maxRecDepth 20000 in
theorem gL_chargeOf_X3_chargeOf : GoodIn wsL_chargeOf (wsV RL 47 RX3 yX3_chargeOf wsX3_chargeOf) := goodIn_app (goodIn_of _ (by decide +kernel)) ggL_chargeOf_X3_chargeOf
theorem dL_chargeOf_0 : decode cL_chargeOf 0 = .ok (.aload_n 2, 1) := by decide +kernel
theorem dL_chargeOf_1 : decode cL_chargeOf 1 = .ok (.iconst 0, 1) := by decide +kernel
theorem dL_chargeOf_2 : decode cL_chargeOf 2 = .ok (.aload_n 0, 1) := by decide +kernel
theorem dL_chargeOf_3 : decode cL_chargeOf 3 = .ok (.iload_n 1, 1) := by decide +kernel
theorem dL_chargeOf_4 : decode cL_chargeOf 4 = .ok (.invokevirtual 47, 3) := by decide +kernel
theorem dL_chargeOf_7 : decode cL_chargeOf 7 = .ok (.dastore, 1) := by decide +kernel
theorem dL_chargeOf_8 : decode cL_chargeOf 8 = .ok (.goto 6, 3) := by decide +kernel
theorem dL_chargeOf_11 : decode cL_chargeOf 11 = .ok (.astore_n 3, 1) := by decide +kernel
theorem dL_chargeOf_12 : decode cL_chargeOf 12 = .ok (.iconst 1, 1) := by decide +kernel
theorem dL_chargeOf_13 : decode cL_chargeOf 13 = .ok (.ireturn, 1) := by decide +kernel
theorem dL_chargeOf_14 : decode cL_chargeOf 14 = .ok (.iconst 0, 1) := by decide +kernel
theorem dL_chargeOf_15 : decode cL_chargeOf 15 = .ok (.ireturn, 1) := by decide +kernel
set_option maxRecDepth 20000 in
theorem ggL_capacityOf_X3_capacityOf : GoodIn wsL_capacityOf wsX3_capacityOf := goodIn_ca (goodIn_r _ [6, 7, 8, 9, 10, 5, 11, 12, 13, 14, 15, 16, 17, 18, 19, 20, 21, 22, 23, 24, 25, 26, 27, 28, 29, 30, 31, 32, 33, 34, 35] (by decide +kernel) (by decide +kernel)) (goodIn_sub (fun _ h => List.mem_cons_of_mem _ (List.mem_append_right _ h)) (by decide +kernel))
set_option maxRecDepth 20000 in
theorem gL_capacityOf_X3_capacityOf : GoodIn wsL_capacityOf (wsV RL 51 RX3 yX3_capacityOf wsX3_capacityOf) := goodIn_app (goodIn_of _ (by decide +kernel)) ggL_capacityOf_X3_capacityOf
theorem dL_capacityOf_0 : decode cL_capacityOf 0 = .ok (.aload_n 2, 1) := by decide +kernel
theorem dL_capacityOf_1 : decode cL_capacityOf 1 = .ok (.iconst 0, 1) := by decide +kernel
theorem dL_capacityOf_2 : decode cL_capacityOf 2 = .ok (.aload_n 0, 1) := by decide +kernel
theorem dL_capacityOf_3 : decode cL_capacityOf 3 = .ok (.iload_n 1, 1) := by decide +kernel
theorem dL_capacityOf_4 : decode cL_capacityOf 4 = .ok (.invokevirtual 51, 3) := by decide +kernel
theorem dL_capacityOf_7 : decode cL_capacityOf 7 = .ok (.dastore, 1) := by decide +kernel
theorem dL_capacityOf_8 : decode cL_capacityOf 8 = .ok (.goto 6, 3) := by decide +kernel
theorem dL_capacityOf_11 : decode cL_capacityOf 11 = .ok (.astore_n 3, 1) := by decide +kernel
theorem dL_capacityOf_12 : decode cL_capacityOf 12 = .ok (.iconst 1, 1) := by decide +kernel
theorem dL_capacityOf_13 : decode cL_capacityOf 13 = .ok (.ireturn, 1) := by decide +kernel
theorem dL_capacityOf_14 : decode cL_capacityOf 14 = .ok (.iconst 0, 1) := by decide +kernel
theorem dL_capacityOf_15 : decode cL_capacityOf 15 = .ok (.ireturn, 1) := by decide +kernel
set_option maxRecDepth 20000 in
theorem ggL_turnsOf_X3_turnsOf : GoodIn wsL_turnsOf wsX3_turnsOf := goodIn_ca (goodIn_r _ [6, 7, 8, 9, 10, 5, 11, 12, 13, 14, 15, 16, 17, 18, 19, 20, 21, 22, 23, 24, 25, 26, 27, 28, 29, 30, 31, 32, 33, 34, 35] (by decide +kernel) (by decide +kernel)) (goodIn_sub (fun _ h => List.mem_cons_of_mem _ (List.mem_append_right _ h)) (by decide +kernel))
set_option maxRecDepth 20000 in
theorem gL_turnsOf_X3_turnsOf : GoodIn wsL_turnsOf (wsV RL 54 RX3 yX3_turnsOf wsX3_turnsOf) := goodIn_app (goodIn_of _ (by decide +kernel)) ggL_turnsOf_X3_turnsOf
theorem dL_turnsOf_0 : decode cL_turnsOf 0 = .ok (.aload_n 2, 1) := by decide +kernel
theorem dL_turnsOf_1 : decode cL_turnsOf 1 = .ok (.iconst 0, 1) := by decide +kernel
theorem dL_turnsOf_2 : decode cL_turnsOf 2 = .ok (.aload_n 0, 1) := by decide +kernel
theorem dL_turnsOf_3 : decode cL_turnsOf 3 = .ok (.iload_n 1, 1) := by decide +kernel
theorem dL_turnsOf_4 : decode cL_turnsOf 4 = .ok (.invokevirtual 54, 3) := by decide +kernel
theorem dL_turnsOf_7 : decode cL_turnsOf 7 = .ok (.i2l, 1) := by decide +kernel
theorem dL_turnsOf_8 : decode cL_turnsOf 8 = .ok (.lastore, 1) := by decide +kernel
theorem dL_turnsOf_9 : decode cL_turnsOf 9 = .ok (.goto 6, 3) := by decide +kernel
theorem dL_turnsOf_12 : decode cL_turnsOf 12 = .ok (.astore_n 3, 1) := by decide +kernel
theorem dL_turnsOf_13 : decode cL_turnsOf 13 = .ok (.iconst 1, 1) := by decide +kernel
theorem dL_turnsOf_14 : decode cL_turnsOf 14 = .ok (.ireturn, 1) := by decide +kernel
theorem dL_turnsOf_15 : decode cL_turnsOf 15 = .ok (.iconst 0, 1) := by decide +kernel
theorem dL_turnsOf_16 : decode cL_turnsOf 16 = .ok (.ireturn, 1) := by decide +kernel
set_option maxRecDepth 20000 in
theorem ggL_ready_X3_ready : GoodIn wsL_ready wsX3_ready := goodIn_ca (goodIn_r _ [6, 7, 8, 9, 5, 10, 11, 12, 13, 14, 15, 16, 17, 18, 19, 20, 21, 22, 23, 24, 25, 26, 27, 28, 29, 30, 31, 32, 33, 34, 35, 36, 37] (by decide +kernel) (by decide +kernel)) (goodIn_sub (fun _ h => List.mem_cons_of_mem _ (List.mem_append_right _ h)) (by decide +kernel))
set_option maxRecDepth 20000 in
theorem gL_ready_X3_ready : GoodIn wsL_ready (wsV RL 57 RX3 yX3_ready wsX3_ready) := goodIn_app (goodIn_of _ (by decide +kernel)) ggL_ready_X3_ready
theorem dL_ready_0 : decode cL_ready 0 = .ok (.aload_n 2, 1) := by decide +kernel
theorem dL_ready_1 : decode cL_ready 1 = .ok (.iconst 0, 1) := by decide +kernel
theorem dL_ready_2 : decode cL_ready 2 = .ok (.aload_n 0, 1) := by decide +kernel
theorem dL_ready_3 : decode cL_ready 3 = .ok (.iload_n 1, 1) := by decide +kernel
theorem dL_ready_4 : decode cL_ready 4 = .ok (.invokevirtual 57, 3) := by decide +kernel
theorem dL_ready_7 : decode cL_ready 7 = .ok (.i2l, 1) := by decide +kernel
theorem dL_ready_8 : decode cL_ready 8 = .ok (.lastore, 1) := by decide +kernel
theorem dL_ready_9 : decode cL_ready 9 = .ok (.goto 6, 3) := by decide +kernel
theorem dL_ready_12 : decode cL_ready 12 = .ok (.astore_n 3, 1) := by decide +kernel
theorem dL_ready_13 : decode cL_ready 13 = .ok (.iconst 1, 1) := by decide +kernel
theorem dL_ready_14 : decode cL_ready 14 = .ok (.ireturn, 1) := by decide +kernel
theorem dL_ready_15 : decode cL_ready 15 = .ok (.iconst 0, 1) := by decide +kernel
theorem dL_ready_16 : decode cL_ready 16 = .ok (.ireturn, 1) := by decide +kernel
set_option maxRecDepth 20000 in
theorem ggL_lightLeft_X3_lightLeft : GoodIn wsL_lightLeft wsX3_lightLeft := goodIn_ca (goodIn_r _ [6, 7, 8, 9, 10, 11, 5, 12, 13, 14, 15, 16, 17, 18, 19, 20, 21, 22, 23, 24, 25, 26, 27, 28, 29, 30, 31, 32, 33, 34, 35, 36, 37, 38, 39, 40, 41, 42, 43, 44, 45, 46, 47, 48] (by decide +kernel) (by decide +kernel)) (goodIn_sub (fun _ h => List.mem_cons_of_mem _ (List.mem_append_right _ h)) (by decide +kernel))
set_option maxRecDepth 20000 in
theorem gL_lightLeft_X3_lightLeft : GoodIn wsL_lightLeft (wsV RL 60 RX3 yX3_lightLeft wsX3_lightLeft) := goodIn_app (goodIn_of _ (by decide +kernel)) ggL_lightLeft_X3_lightLeft
theorem dL_lightLeft_0 : decode cL_lightLeft 0 = .ok (.aload_n 2, 1) := by decide +kernel
theorem dL_lightLeft_1 : decode cL_lightLeft 1 = .ok (.iconst 0, 1) := by decide +kernel
theorem dL_lightLeft_2 : decode cL_lightLeft 2 = .ok (.aload_n 0, 1) := by decide +kernel
theorem dL_lightLeft_3 : decode cL_lightLeft 3 = .ok (.iload_n 1, 1) := by decide +kernel
theorem dL_lightLeft_4 : decode cL_lightLeft 4 = .ok (.invokevirtual 60, 3) := by decide +kernel
theorem dL_lightLeft_7 : decode cL_lightLeft 7 = .ok (.i2l, 1) := by decide +kernel
theorem dL_lightLeft_8 : decode cL_lightLeft 8 = .ok (.lastore, 1) := by decide +kernel
theorem dL_lightLeft_9 : decode cL_lightLeft 9 = .ok (.goto 6, 3) := by decide +kernel
theorem dL_lightLeft_12 : decode cL_lightLeft 12 = .ok (.astore_n 3, 1) := by decide +kernel
theorem dL_lightLeft_13 : decode cL_lightLeft 13 = .ok (.iconst 1, 1) := by decide +kernel
theorem dL_lightLeft_14 : decode cL_lightLeft 14 = .ok (.ireturn, 1) := by decide +kernel
theorem dL_lightLeft_15 : decode cL_lightLeft 15 = .ok (.iconst 0, 1) := by decide +kernel
theorem dL_lightLeft_16 : decode cL_lightLeft 16 = .ok (.ireturn, 1) := by decide +kernel
set_option maxRecDepth 20000 in
theorem ggL_law_X3_init : GoodIn wsL_law wsX3_init := goodIn_r _ [10, 11, 12, 13, 14, 15, 16, 17, 18, 19, 20, 21, 22, 23, 24, 25, 26, 27, 28, 29, 30, 31, 32, 33, 34, 35, 7, 36, 37, 38, 39, 40, 41, 42, 43, 44, 45, 46, 47, 48, 49, 50, 51, 527, 528, 529, 530, 531, 532, 533, 506, 507, 508, 509, 534, 535, 536, 537, 538, 539, 540] (by decide +kernel) (by decide +kernel)
set_option maxRecDepth 20000 in
theorem gL_law_X3_init : GoodIn wsL_law (wsX3_init) := ggL_law_X3_init
set_option maxRecDepth 20000 in
theorem ggL_law_X4_init : GoodIn wsL_law wsX4_init := goodIn_r _ [54, 55, 12, 13, 30, 56, 57, 58, 34, 59, 7, 60, 61, 62, 63, 64, 65, 66, 510, 511, 512, 513, 514, 515, 516, 517, 518, 519, 520, 521, 522, 523, 524, 525, 526] (by decide +kernel) (by decide +kernel)
set_option maxRecDepth 20000 in
theorem gL_law_X4_init : GoodIn wsL_law (wsX4_init) := ggL_law_X4_init
set_option maxRecDepth 20000 in
theorem ggL_law_L_addLamp : GoodIn wsL_law wsL_addLamp := goodIn_ca (goodIn_ca (goodIn_r _ [70, 71, 72, 73, 74, 75, 2, 76, 77, 78, 17, 79, 80, 81, 82, 83, 84, 85, 86, 16, 87, 38, 88, 89, 90, 91, 31, 32, 37, 36, 92, 93, 94, 95, 96, 97, 506, 507, 508, 509, 527, 528, 529, 530, 531, 532, 533] (by decide +kernel) (by decide +kernel)) (goodIn_sub (fun _ h => List.mem_append_left _ (List.mem_append_left _ (List.mem_append_right _ h))) (by decide +kernel))) (goodIn_sub (fun _ h => List.mem_append_left _ (List.mem_append_right _ h)) (by decide +kernel))
set_option maxRecDepth 20000 in
theorem gL_law_L_addLamp : GoodIn wsL_law (va_wsS RL 67 yL_addLamp wsL_addLamp) := goodIn_app (goodIn_of _ (by decide +kernel)) ggL_law_L_addLamp
set_option maxRecDepth 20000 in
theorem ggL_law_X4_addLamp : GoodIn wsL_law wsX4_addLamp := goodIn_r _ [101, 102, 103, 56, 57, 60, 61, 104, 105, 5, 106, 107, 108, 109, 110, 111, 112, 510, 511, 512, 513, 514, 515, 516, 517, 518, 519, 520, 521, 522, 523, 524, 525, 526] (by decide +kernel) (by decide +kernel)
set_option maxRecDepth 20000 in
theorem gL_law_X4_addLamp : GoodIn wsL_law (wsV RL 72 RX4 yX4_addLamp wsX4_addLamp) := goodIn_app (goodIn_of _ (by decide +kernel)) ggL_law_X4_addLamp
set_option maxRecDepth 20000 in
theorem ggL_law_X4_thrown : GoodIn wsL_law wsX4_thrown := goodIn_r _ [116, 103, 510, 511, 512, 513, 514, 515, 516, 517, 518, 519, 520, 521, 522, 523, 524, 525, 526] (by decide +kernel) (by decide +kernel)
set_option maxRecDepth 20000 in
theorem gL_law_X4_thrown : GoodIn wsL_law (wsV RL 73 RX4 yX4_thrown wsX4_thrown) := goodIn_app (goodIn_of _ (by decide +kernel)) ggL_law_X4_thrown
set_option maxRecDepth 20000 in
theorem ggL_law_L_addMiner : GoodIn wsL_law wsL_addMiner := goodIn_ca (goodIn_ca (goodIn_r _ [119, 71, 72, 120, 121, 122, 2, 123, 77, 78, 21, 79, 80, 81, 82, 83, 124, 125, 126, 20, 127, 46, 128, 129, 130, 131, 42, 43, 506, 507, 508, 509, 534, 535, 536, 537, 538, 539] (by decide +kernel) (by decide +kernel)) (goodIn_sub (fun _ h => List.mem_append_left _ (List.mem_append_left _ (List.mem_append_right _ h))) (by decide +kernel))) (goodIn_sub (fun _ h => List.mem_append_left _ (List.mem_append_right _ h)) (by decide +kernel))
set_option maxRecDepth 20000 in
theorem gL_law_L_addMiner : GoodIn wsL_law (va_wsS RL 77 yL_addMiner wsL_addMiner) := goodIn_app (goodIn_of _ (by decide +kernel)) ggL_law_L_addMiner
set_option maxRecDepth 20000 in
theorem ggL_law_X4_addMiner : GoodIn wsL_law wsX4_addMiner := goodIn_r _ [135, 136, 103, 62, 63, 104, 105, 5, 106, 510, 511, 512, 513, 514, 515, 516, 517, 518, 519, 520, 521, 522, 523, 524, 525, 526] (by decide +kernel) (by decide +kernel)
set_option maxRecDepth 20000 in
theorem gL_law_X4_addMiner : GoodIn wsL_law (wsV RL 79 RX4 yX4_addMiner wsX4_addMiner) := goodIn_app (goodIn_of _ (by decide +kernel)) ggL_law_X4_addMiner
set_option maxRecDepth 20000 in
theorem ggL_law_L_issue : GoodIn wsL_law wsL_issue := goodIn_ca (goodIn_ca (goodIn_r _ [139, 140, 72, 141, 142, 143, 2, 144, 77, 78, 21, 17, 26, 145, 146, 147, 148, 149, 150, 124, 125, 126, 20, 127, 46, 151, 152, 153, 154, 43, 155, 156, 157, 158, 42, 159, 160, 161, 16, 162, 163, 164, 165, 166, 38, 36, 167, 168, 169, 170, 31, 32, 171, 172, 173, 174, 175, 176, 177, 178, 179, 44, 45, 47, 506, 507, 508, 509, 534, 535, 536, 537, 538, 539, 527, 528, 529, 530, 531, 532, 533] (by decide +kernel) (by decide +kernel)) (goodIn_sub (fun _ h => List.mem_append_left _ (List.mem_append_left _ (List.mem_append_right _ h))) (by decide +kernel))) (goodIn_sub (fun _ h => List.mem_append_right _ h) (by decide +kernel))
set_option maxRecDepth 20000 in
theorem gL_law_L_issue : GoodIn wsL_law (va_wsS RL 80 yL_issue wsL_issue) := goodIn_app (goodIn_of _ (by decide +kernel)) ggL_law_L_issue
set_option maxRecDepth 20000 in
theorem ggL_law_X4_issue : GoodIn wsL_law wsX4_issue := goodIn_r _ [183, 63, 62, 103, 57, 64, 184, 65, 185, 186, 187, 188, 5, 189, 136, 104, 105, 106, 190, 191, 192, 193, 102, 56, 60, 194, 195, 196, 197, 198, 510, 511, 512, 513, 514, 515, 516, 517, 518, 519, 520, 521, 522, 523, 524, 525, 526] (by decide +kernel) (by decide +kernel)
set_option maxRecDepth 20000 in
theorem gL_law_X4_issue : GoodIn wsL_law (wsV RL 82 RX4 yX4_issue wsX4_issue) := goodIn_app (goodIn_of _ (by decide +kernel)) ggL_law_X4_issue
set_option maxRecDepth 20000 in
theorem ggL_law_L_back : GoodIn wsL_law wsL_back := goodIn_ca (goodIn_ca (goodIn_r _ [201, 140, 72, 202, 203, 204, 2, 205, 77, 78, 21, 26, 17, 25, 145, 146, 147, 148, 149, 150, 124, 125, 126, 20, 127, 46, 151, 152, 153, 154, 43, 206, 207, 208, 209, 44, 210, 211, 212, 16, 213, 32, 33, 35, 37, 214, 36, 215, 216, 217, 218, 219, 220, 221, 24, 222, 51, 506, 507, 508, 509, 534, 535, 536, 537, 538, 539, 527, 528, 529, 530, 531, 532, 533, 540] (by decide +kernel) (by decide +kernel)) (goodIn_sub (fun _ h => List.mem_append_left _ (List.mem_append_left _ (List.mem_append_right _ h))) (by decide +kernel))) (goodIn_sub (fun _ h => List.mem_append_right _ h) (by decide +kernel))
set_option maxRecDepth 20000 in
theorem gL_law_L_back : GoodIn wsL_law (va_wsS RL 83 yL_back wsL_back) := goodIn_app (goodIn_of _ (by decide +kernel)) ggL_law_L_back
set_option maxRecDepth 20000 in
theorem ggL_law_X4_back : GoodIn wsL_law wsX4_back := goodIn_r _ [226, 63, 103, 57, 58, 61, 227, 60, 59, 184, 64, 186, 187, 188, 5, 189, 136, 104, 105, 106, 228, 229, 230, 231, 185, 65, 232, 66, 510, 511, 512, 513, 514, 515, 516, 517, 518, 519, 520, 521, 522, 523, 524, 525, 526] (by decide +kernel) (by decide +kernel)
set_option maxRecDepth 20000 in
theorem gL_law_X4_back : GoodIn wsL_law (wsV RL 85 RX4 yX4_back wsX4_back) := goodIn_app (goodIn_of _ (by decide +kernel)) ggL_law_X4_back
set_option maxRecDepth 20000 in
theorem ggL_law_L_test : GoodIn wsL_law wsL_test := goodIn_ca (goodIn_ca (goodIn_r _ [235, 140, 72, 236, 237, 238, 2, 239, 77, 78, 17, 240, 241, 242, 243, 149, 150, 84, 85, 86, 16, 87, 38, 244, 245, 246, 247, 32, 248, 249, 250, 251, 35, 37, 252, 31, 92, 93, 94, 95, 96, 97, 172, 173, 174, 175, 506, 507, 508, 509, 527, 528, 529, 530, 531, 532, 533] (by decide +kernel) (by decide +kernel)) (goodIn_sub (fun _ h => List.mem_append_left _ (List.mem_append_left _ (List.mem_append_right _ h))) (by decide +kernel))) (goodIn_sub (fun _ h => List.mem_append_right _ h) (by decide +kernel))
set_option maxRecDepth 20000 in
theorem gL_law_L_test : GoodIn wsL_law (va_wsS RL 86 yL_test wsL_test) := goodIn_app (goodIn_of _ (by decide +kernel)) ggL_law_L_test
set_option maxRecDepth 20000 in
theorem ggL_law_X4_test : GoodIn wsL_law wsX4_test := goodIn_r _ [256, 57, 103, 59, 257, 258, 259, 5, 260, 102, 104, 105, 106, 261, 262, 263, 264, 61, 265, 56, 107, 108, 109, 110, 111, 112, 510, 511, 512, 513, 514, 515, 516, 517, 518, 519, 520, 521, 522, 523, 524, 525, 526] (by decide +kernel) (by decide +kernel)
set_option maxRecDepth 20000 in
theorem gL_law_X4_test : GoodIn wsL_law (wsV RL 88 RX4 yX4_test wsX4_test) := goodIn_app (goodIn_of _ (by decide +kernel)) ggL_law_X4_test
set_option maxRecDepth 20000 in
theorem ggL_law_L_mend : GoodIn wsL_law wsL_mend := goodIn_ca (goodIn_ca (goodIn_r _ [268, 140, 72, 269, 270, 271, 2, 272, 77, 78, 17, 240, 241, 242, 243, 149, 150, 84, 85, 86, 16, 87, 38, 244, 245, 246, 247, 32, 273, 274, 275, 276, 35, 248, 249, 250, 251, 37, 252, 31, 92, 93, 94, 95, 96, 97, 172, 173, 174, 175, 506, 507, 508, 509, 527, 528, 529, 530, 531, 532, 533] (by decide +kernel) (by decide +kernel)) (goodIn_sub (fun _ h => List.mem_append_left _ (List.mem_append_left _ (List.mem_append_right _ h))) (by decide +kernel))) (goodIn_sub (fun _ h => List.mem_append_right _ h) (by decide +kernel))
set_option maxRecDepth 20000 in
theorem gL_law_L_mend : GoodIn wsL_law (va_wsS RL 89 yL_mend wsL_mend) := goodIn_app (goodIn_of _ (by decide +kernel)) ggL_law_L_mend
set_option maxRecDepth 20000 in
theorem ggL_law_X4_mend : GoodIn wsL_law wsX4_mend := goodIn_r _ [280, 57, 103, 59, 257, 258, 259, 5, 260, 102, 104, 105, 106, 261, 262, 263, 264, 61, 265, 56, 107, 108, 109, 110, 111, 112, 510, 511, 512, 513, 514, 515, 516, 517, 518, 519, 520, 521, 522, 523, 524, 525, 526] (by decide +kernel) (by decide +kernel)
set_option maxRecDepth 20000 in
theorem gL_law_X4_mend : GoodIn wsL_law (wsV RL 91 RX4 yX4_mend wsX4_mend) := goodIn_app (goodIn_of _ (by decide +kernel)) ggL_law_X4_mend
set_option maxRecDepth 20000 in
theorem ggL_law_L_hours : GoodIn wsL_law wsL_hours := goodIn_ca (goodIn_r _ [283, 71, 284, 285, 286, 2, 287, 82, 83, 288, 289, 290, 291, 26, 17, 21, 292, 293, 294, 16, 295, 38, 32, 35, 296, 36, 297, 298, 299, 300, 37, 301, 124, 125, 126, 20, 127, 46, 151, 152, 153, 154, 43, 302, 303, 304, 305, 25, 206, 207, 208, 209, 44, 306, 307, 308, 24, 309, 51, 310, 311, 312, 313, 506, 507, 508, 509, 527, 528, 529, 530, 531, 532, 533, 534, 535, 536, 537, 538, 539, 540] (by decide +kernel) (by decide +kernel)) (goodIn_sub (fun _ h => List.mem_append_left _ (List.mem_append_right _ h)) (by decide +kernel))
set_option maxRecDepth 20000 in
theorem gL_law_L_hours : GoodIn wsL_law (va_wsS RL 92 yL_hours wsL_hours) := goodIn_app (goodIn_of _ (by decide +kernel)) ggL_law_L_hours
set_option maxRecDepth 20000 in
theorem ggL_law_X4_hours : GoodIn wsL_law wsX4_hours := goodIn_r _ [317, 103, 104, 105, 5, 106, 318, 319, 320, 321, 102, 57, 60, 59, 322, 61, 323, 184, 136, 63, 64, 324, 325, 326, 327, 66, 232, 328, 329, 330, 331, 510, 511, 512, 513, 514, 515, 516, 517, 518, 519, 520, 521, 522, 523, 524, 525, 526] (by decide +kernel) (by decide +kernel)
set_option maxRecDepth 20000 in
theorem gL_law_X4_hours : GoodIn wsL_law (wsV RL 94 RX4 yX4_hours wsX4_hours) := goodIn_app (goodIn_of _ (by decide +kernel)) ggL_law_X4_hours
set_option maxRecDepth 20000 in
theorem ggL_law_X3_below : GoodIn wsL_law wsX3_below := goodIn_r _ [335, 21, 336, 337, 338, 20, 339, 46, 43, 506, 507, 508, 509, 534, 535, 536, 537, 538, 539] (by decide +kernel) (by decide +kernel)
set_option maxRecDepth 20000 in
theorem gL_law_X3_below : GoodIn wsL_law (wsV RL 95 RX3 yX3_below wsX3_below) := goodIn_app (goodIn_of _ (by decide +kernel)) ggL_law_X3_below
set_option maxRecDepth 20000 in
theorem ggL_law_X4_below : GoodIn wsL_law wsX4_below := goodIn_r _ [343, 103, 185, 510, 511, 512, 513, 514, 515, 516, 517, 518, 519, 520, 521, 522, 523, 524, 525, 526] (by decide +kernel) (by decide +kernel)
set_option maxRecDepth 20000 in
theorem gL_law_X4_below : GoodIn wsL_law (wsV RL 98 RX4 yX4_below wsX4_below) := goodIn_app (goodIn_of _ (by decide +kernel)) ggL_law_X4_below
set_option maxRecDepth 20000 in
theorem ggL_law_X3_board : GoodIn wsL_law wsX3_board := goodIn_r _ [347, 21, 348, 349, 350, 20, 351, 46, 43, 352, 353, 354, 355, 45, 506, 507, 508, 509, 534, 535, 536, 537, 538, 539] (by decide +kernel) (by decide +kernel)
set_option maxRecDepth 20000 in
theorem gL_law_X3_board : GoodIn wsL_law (wsV RL 99 RX3 yX3_board wsX3_board) := goodIn_app (goodIn_of _ (by decide +kernel)) ggL_law_X3_board
set_option maxRecDepth 20000 in
theorem ggL_law_X4_board : GoodIn wsL_law wsX4_board := goodIn_r _ [359, 103, 185, 65, 104, 105, 5, 106, 510, 511, 512, 513, 514, 515, 516, 517, 518, 519, 520, 521, 522, 523, 524, 525, 526] (by decide +kernel) (by decide +kernel)
set_option maxRecDepth 20000 in
theorem gL_law_X4_board : GoodIn wsL_law (wsV RL 102 RX4 yX4_board wsX4_board) := goodIn_app (goodIn_of _ (by decide +kernel)) ggL_law_X4_board
set_option maxRecDepth 20000 in
theorem ggL_law_L_lampOf : GoodIn wsL_law wsL_lampOf := goodIn_ca (goodIn_r _ [362, 140, 363, 364, 365, 2, 366, 21, 145, 146, 147, 148, 149, 150, 124, 125, 126, 20, 127, 46, 151, 152, 153, 154, 43, 506, 507, 508, 509, 534, 535, 536, 537, 538, 539] (by decide +kernel) (by decide +kernel)) (goodIn_sub (fun _ h => List.mem_append_right _ h) (by decide +kernel))
set_option maxRecDepth 20000 in
theorem gL_law_L_lampOf : GoodIn wsL_law (va_wsS RL 103 yL_lampOf wsL_lampOf) := goodIn_app (goodIn_of _ (by decide +kernel)) ggL_law_L_lampOf
set_option maxRecDepth 20000 in
theorem ggL_law_X4_lampOf : GoodIn wsL_law wsX4_lampOf := goodIn_r _ [370, 103, 63, 186, 187, 188, 5, 189, 136, 104, 105, 106, 510, 511, 512, 513, 514, 515, 516, 517, 518, 519, 520, 521, 522, 523, 524, 525, 526] (by decide +kernel) (by decide +kernel)
set_option maxRecDepth 20000 in
theorem gL_law_X4_lampOf : GoodIn wsL_law (wsV RL 105 RX4 yX4_lampOf wsX4_lampOf) := goodIn_app (goodIn_of _ (by decide +kernel)) ggL_law_X4_lampOf
set_option maxRecDepth 20000 in
theorem ggL_law_L_hoursBelow : GoodIn wsL_law wsL_hoursBelow := goodIn_ca (goodIn_r _ [373, 140, 374, 375, 376, 2, 377, 21, 26, 145, 146, 147, 148, 149, 150, 124, 125, 126, 20, 127, 46, 151, 152, 153, 154, 43, 206, 207, 208, 209, 44, 506, 507, 508, 509, 534, 535, 536, 537, 538, 539] (by decide +kernel) (by decide +kernel)) (goodIn_sub (fun _ h => List.mem_append_right _ h) (by decide +kernel))
set_option maxRecDepth 20000 in
theorem gL_law_L_hoursBelow : GoodIn wsL_law (va_wsS RL 106 yL_hoursBelow wsL_hoursBelow) := goodIn_app (goodIn_of _ (by decide +kernel)) ggL_law_L_hoursBelow
set_option maxRecDepth 20000 in
theorem ggL_law_X4_hoursBelow : GoodIn wsL_law wsX4_hoursBelow := goodIn_r _ [381, 103, 63, 184, 64, 186, 187, 188, 5, 189, 136, 104, 105, 106, 510, 511, 512, 513, 514, 515, 516, 517, 518, 519, 520, 521, 522, 523, 524, 525, 526] (by decide +kernel) (by decide +kernel)
set_option maxRecDepth 20000 in
theorem gL_law_X4_hoursBelow : GoodIn wsL_law (wsV RL 108 RX4 yX4_hoursBelow wsX4_hoursBelow) := goodIn_app (goodIn_of _ (by decide +kernel)) ggL_law_X4_hoursBelow
set_option maxRecDepth 20000 in
theorem ggL_law_L_placeOf : GoodIn wsL_law wsL_placeOf := goodIn_ca (goodIn_r _ [384, 140, 385, 386, 387, 2, 388, 17, 240, 241, 242, 243, 149, 150, 84, 85, 86, 16, 87, 38, 244, 245, 246, 247, 32, 506, 507, 508, 509, 527, 528, 529, 530, 531, 532, 533] (by decide +kernel) (by decide +kernel)) (goodIn_sub (fun _ h => List.mem_append_right _ h) (by decide +kernel))
set_option maxRecDepth 20000 in
theorem gL_law_L_placeOf : GoodIn wsL_law (va_wsS RL 109 yL_placeOf wsL_placeOf) := goodIn_app (goodIn_of _ (by decide +kernel)) ggL_law_L_placeOf
set_option maxRecDepth 20000 in
theorem ggL_law_X4_placeOf : GoodIn wsL_law wsX4_placeOf := goodIn_r _ [392, 103, 57, 257, 258, 259, 5, 260, 102, 104, 105, 106, 510, 511, 512, 513, 514, 515, 516, 517, 518, 519, 520, 521, 522, 523, 524, 525, 526] (by decide +kernel) (by decide +kernel)
set_option maxRecDepth 20000 in
theorem gL_law_X4_placeOf : GoodIn wsL_law (wsV RL 111 RX4 yX4_placeOf wsX4_placeOf) := goodIn_app (goodIn_of _ (by decide +kernel)) ggL_law_X4_placeOf
set_option maxRecDepth 20000 in
theorem ggL_law_L_chargeOf : GoodIn wsL_law wsL_chargeOf := goodIn_ca (goodIn_r _ [395, 140, 396, 397, 398, 2, 399, 17, 240, 241, 242, 243, 149, 150, 84, 85, 86, 16, 87, 38, 310, 311, 312, 313, 36, 506, 507, 508, 509, 527, 528, 529, 530, 531, 532, 533] (by decide +kernel) (by decide +kernel)) (goodIn_sub (fun _ h => List.mem_append_right _ h) (by decide +kernel))
set_option maxRecDepth 20000 in
theorem gL_law_L_chargeOf : GoodIn wsL_law (va_wsS RL 112 yL_chargeOf wsL_chargeOf) := goodIn_app (goodIn_of _ (by decide +kernel)) ggL_law_L_chargeOf
set_option maxRecDepth 20000 in
theorem ggL_law_X4_chargeOf : GoodIn wsL_law wsX4_chargeOf := goodIn_r _ [403, 103, 60, 257, 258, 259, 5, 260, 102, 104, 105, 106, 510, 511, 512, 513, 514, 515, 516, 517, 518, 519, 520, 521, 522, 523, 524, 525, 526] (by decide +kernel) (by decide +kernel)
set_option maxRecDepth 20000 in
theorem gL_law_X4_chargeOf : GoodIn wsL_law (wsV RL 115 RX4 yX4_chargeOf wsX4_chargeOf) := goodIn_app (goodIn_of _ (by decide +kernel)) ggL_law_X4_chargeOf
set_option maxRecDepth 20000 in
theorem ggL_law_L_capacityOf : GoodIn wsL_law wsL_capacityOf := goodIn_ca (goodIn_r _ [406, 140, 407, 408, 409, 2, 410, 17, 240, 241, 242, 243, 149, 150, 84, 85, 86, 16, 87, 38, 411, 412, 413, 414, 37, 506, 507, 508, 509, 527, 528, 529, 530, 531, 532, 533] (by decide +kernel) (by decide +kernel)) (goodIn_sub (fun _ h => List.mem_append_right _ h) (by decide +kernel))
set_option maxRecDepth 20000 in
theorem gL_law_L_capacityOf : GoodIn wsL_law (va_wsS RL 116 yL_capacityOf wsL_capacityOf) := goodIn_app (goodIn_of _ (by decide +kernel)) ggL_law_L_capacityOf
set_option maxRecDepth 20000 in
theorem ggL_law_X4_capacityOf : GoodIn wsL_law wsX4_capacityOf := goodIn_r _ [418, 103, 61, 257, 258, 259, 5, 260, 102, 104, 105, 106, 510, 511, 512, 513, 514, 515, 516, 517, 518, 519, 520, 521, 522, 523, 524, 525, 526] (by decide +kernel) (by decide +kernel)
set_option maxRecDepth 20000 in
theorem gL_law_X4_capacityOf : GoodIn wsL_law (wsV RL 118 RX4 yX4_capacityOf wsX4_capacityOf) := goodIn_app (goodIn_of _ (by decide +kernel)) ggL_law_X4_capacityOf
set_option maxRecDepth 20000 in
theorem ggL_law_L_turnsOf : GoodIn wsL_law wsL_turnsOf := goodIn_ca (goodIn_r _ [421, 140, 422, 423, 424, 2, 425, 17, 240, 241, 242, 243, 149, 150, 84, 85, 86, 16, 87, 38, 426, 427, 428, 429, 33, 506, 507, 508, 509, 527, 528, 529, 530, 531, 532, 533] (by decide +kernel) (by decide +kernel)) (goodIn_sub (fun _ h => List.mem_append_right _ h) (by decide +kernel))
set_option maxRecDepth 20000 in
theorem gL_law_L_turnsOf : GoodIn wsL_law (va_wsS RL 119 yL_turnsOf wsL_turnsOf) := goodIn_app (goodIn_of _ (by decide +kernel)) ggL_law_L_turnsOf
set_option maxRecDepth 20000 in
theorem ggL_law_X4_turnsOf : GoodIn wsL_law wsX4_turnsOf := goodIn_r _ [433, 103, 58, 257, 258, 259, 5, 260, 102, 104, 105, 106, 510, 511, 512, 513, 514, 515, 516, 517, 518, 519, 520, 521, 522, 523, 524, 525, 526] (by decide +kernel) (by decide +kernel)
set_option maxRecDepth 20000 in
theorem gL_law_X4_turnsOf : GoodIn wsL_law (wsV RL 121 RX4 yX4_turnsOf wsX4_turnsOf) := goodIn_app (goodIn_of _ (by decide +kernel)) ggL_law_X4_turnsOf
set_option maxRecDepth 20000 in
theorem ggL_law_L_ready : GoodIn wsL_law wsL_ready := goodIn_ca (goodIn_r _ [436, 71, 437, 438, 439, 2, 440, 17, 79, 80, 81, 82, 83, 441, 442, 443, 16, 444, 38, 167, 168, 169, 170, 31, 32, 36, 171, 506, 507, 508, 509, 527, 528, 529, 530, 531, 532, 533] (by decide +kernel) (by decide +kernel)) (goodIn_sub (fun _ h => List.mem_append_left _ (List.mem_append_right _ h)) (by decide +kernel))
set_option maxRecDepth 20000 in
theorem gL_law_L_ready : GoodIn wsL_law (va_wsS RL 122 yL_ready wsL_ready) := goodIn_app (goodIn_of _ (by decide +kernel)) ggL_law_L_ready
set_option maxRecDepth 20000 in
theorem ggL_law_X4_ready : GoodIn wsL_law wsX4_ready := goodIn_r _ [448, 103, 102, 56, 104, 105, 5, 106, 194, 195, 196, 197, 57, 60, 198, 510, 511, 512, 513, 514, 515, 516, 517, 518, 519, 520, 521, 522, 523, 524, 525, 526] (by decide +kernel) (by decide +kernel)
set_option maxRecDepth 20000 in
theorem gL_law_X4_ready : GoodIn wsL_law (wsV RL 124 RX4 yX4_ready wsX4_ready) := goodIn_app (goodIn_of _ (by decide +kernel)) ggL_law_X4_ready
set_option maxRecDepth 20000 in
theorem ggL_law_X3_spares : GoodIn wsL_law wsX3_spares := goodIn_r _ [452, 21, 17, 124, 125, 126, 20, 127, 46, 151, 152, 153, 154, 43, 453, 454, 455, 16, 456, 31, 155, 156, 157, 158, 42, 506, 507, 508, 509, 534, 535, 536, 537, 538, 539, 527, 528, 529, 530, 531, 532, 533] (by decide +kernel) (by decide +kernel)
set_option maxRecDepth 20000 in
theorem gL_law_X3_spares : GoodIn wsL_law (wsV RL 125 RX3 yX3_spares wsX3_spares) := goodIn_app (goodIn_of _ (by decide +kernel)) ggL_law_X3_spares
set_option maxRecDepth 20000 in
theorem ggL_law_X4_spares : GoodIn wsL_law wsX4_spares := goodIn_r _ [460, 103, 185, 56, 63, 65, 62, 510, 511, 512, 513, 514, 515, 516, 517, 518, 519, 520, 521, 522, 523, 524, 525, 526] (by decide +kernel) (by decide +kernel)
set_option maxRecDepth 20000 in
theorem gL_law_X4_spares : GoodIn wsL_law (wsV RL 128 RX4 yX4_spares wsX4_spares) := goodIn_app (goodIn_of _ (by decide +kernel)) ggL_law_X4_spares
set_option maxRecDepth 20000 in
theorem ggL_law_X3_alarm : GoodIn wsL_law wsX3_alarm := goodIn_r _ [464, 25, 465, 466, 467, 24, 468, 51, 469, 470, 471, 472, 473, 474, 475, 476, 506, 507, 508, 509, 540] (by decide +kernel) (by decide +kernel)
set_option maxRecDepth 20000 in
theorem gL_law_X3_alarm : GoodIn wsL_law (wsV RL 129 RX3 yX3_alarm wsX3_alarm) := goodIn_app (goodIn_of _ (by decide +kernel)) ggL_law_X3_alarm
set_option maxRecDepth 20000 in
theorem ggL_law_X4_alarm : GoodIn wsL_law wsX4_alarm := goodIn_r _ [480, 103, 232, 66, 104, 105, 5, 106, 510, 511, 512, 513, 514, 515, 516, 517, 518, 519, 520, 521, 522, 523, 524, 525, 526] (by decide +kernel) (by decide +kernel)
set_option maxRecDepth 20000 in
theorem gL_law_X4_alarm : GoodIn wsL_law (wsV RL 132 RX4 yX4_alarm wsX4_alarm) := goodIn_app (goodIn_of _ (by decide +kernel)) ggL_law_X4_alarm
set_option maxRecDepth 20000 in
theorem ggL_law_L_lightLeft : GoodIn wsL_law wsL_lightLeft := goodIn_ca (goodIn_r _ [483, 140, 484, 485, 486, 2, 487, 21, 17, 145, 146, 147, 148, 149, 150, 124, 125, 126, 20, 127, 46, 151, 152, 153, 154, 43, 310, 311, 312, 16, 313, 36, 506, 507, 508, 509, 534, 535, 536, 537, 538, 539, 527, 528, 529, 530, 531, 532, 533] (by decide +kernel) (by decide +kernel)) (goodIn_sub (fun _ h => List.mem_append_right _ h) (by decide +kernel))
set_option maxRecDepth 20000 in
theorem gL_law_L_lightLeft : GoodIn wsL_law (va_wsS RL 133 yL_lightLeft wsL_lightLeft) := goodIn_app (goodIn_of _ (by decide +kernel)) ggL_law_L_lightLeft
set_option maxRecDepth 20000 in
theorem ggL_law_X4_lightLeft : GoodIn wsL_law wsX4_lightLeft := goodIn_r _ [491, 103, 63, 60, 186, 187, 188, 5, 189, 136, 104, 105, 106, 510, 511, 512, 513, 514, 515, 516, 517, 518, 519, 520, 521, 522, 523, 524, 525, 526] (by decide +kernel) (by decide +kernel)
set_option maxRecDepth 20000 in
theorem gL_law_X4_lightLeft : GoodIn wsL_law (wsV RL 135 RX4 yX4_lightLeft wsX4_lightLeft) := goodIn_app (goodIn_of _ (by decide +kernel)) ggL_law_X4_lightLeft
set_option maxRecDepth 20000 in
theorem ggL_law_X3_rackCharge : GoodIn wsL_law wsX3_rackCharge := goodIn_r _ [495, 17, 496, 497, 498, 16, 499, 38, 32, 36, 37, 500, 506, 507, 508, 509, 527, 528, 529, 530, 531, 532, 533] (by decide +kernel) (by decide +kernel)
set_option maxRecDepth 20000 in
theorem gL_law_X3_rackCharge : GoodIn wsL_law (wsV RL 136 RX3 yX3_rackCharge wsX3_rackCharge) := goodIn_app (goodIn_of _ (by decide +kernel)) ggL_law_X3_rackCharge
set_option maxRecDepth 20000 in
theorem ggL_law_X4_rackCharge : GoodIn wsL_law wsX4_rackCharge := goodIn_r _ [504, 103, 102, 57, 60, 61, 505, 510, 511, 512, 513, 514, 515, 516, 517, 518, 519, 520, 521, 522, 523, 524, 525, 526] (by decide +kernel) (by decide +kernel)
set_option maxRecDepth 20000 in
theorem gL_law_X4_rackCharge : GoodIn wsL_law (wsV RL 139 RX4 yX4_rackCharge wsX4_rackCharge) := goodIn_app (goodIn_of _ (by decide +kernel)) ggL_law_X4_rackCharge
theorem dL_law_0 : decode cL_law 0 = .ok (.new 8, 3) := by decide +kernel
theorem dL_law_3 : decode cL_law 3 = .ok (.dup, 1) := by decide +kernel
theorem dL_law_4 : decode cL_law 4 = .ok (.invokespecial 63, 3) := by decide +kernel
theorem dL_law_7 : decode cL_law 7 = .ok (.astore_n 1, 1) := by decide +kernel
theorem dL_law_8 : decode cL_law 8 = .ok (.new 64, 3) := by decide +kernel
theorem dL_law_11 : decode cL_law 11 = .ok (.dup, 1) := by decide +kernel
theorem dL_law_12 : decode cL_law 12 = .ok (.invokespecial 66, 3) := by decide +kernel
theorem dL_law_15 : decode cL_law 15 = .ok (.astore_n 2, 1) := by decide +kernel
theorem dL_law_16 : decode cL_law 16 = .ok (.iconst 1, 1) := by decide +kernel
theorem dL_law_17 : decode cL_law 17 = .ok (.newarray .long, 2) := by decide +kernel
theorem dL_law_19 : decode cL_law 19 = .ok (.astore_n 3, 1) := by decide +kernel
theorem dL_law_20 : decode cL_law 20 = .ok (.iconst 1, 1) := by decide +kernel
theorem dL_law_21 : decode cL_law 21 = .ok (.newarray .double, 2) := by decide +kernel
theorem dL_law_23 : decode cL_law 23 = .ok (.astore 4, 2) := by decide +kernel
theorem dL_law_25 : decode cL_law 25 = .ok (.iconst 0, 1) := by decide +kernel
theorem dL_law_26 : decode cL_law 26 = .ok (.istore 5, 2) := by decide +kernel
theorem dL_law_28 : decode cL_law 28 = .ok (.iload 5, 2) := by decide +kernel
theorem dL_law_30 : decode cL_law 30 = .ok (.aload_n 0, 1) := by decide +kernel
theorem dL_law_31 : decode cL_law 31 = .ok (.arraylength, 1) := by decide +kernel
theorem dL_law_32 : decode cL_law 32 = .ok (.iconst 2, 1) := by decide +kernel
theorem dL_law_33 : decode cL_law 33 = .ok (.isub, 1) := by decide +kernel
theorem dL_law_34 : decode cL_law 34 = .ok (.if_icmp .gt 1090, 3) := by decide +kernel
theorem dL_law_37 : decode cL_law 37 = .ok (.aload_n 0, 1) := by decide +kernel
theorem dL_law_38 : decode cL_law 38 = .ok (.iload 5, 2) := by decide +kernel
theorem dL_law_40 : decode cL_law 40 = .ok (.iaload, 1) := by decide +kernel
theorem dL_law_41 : decode cL_law 41 = .ok (.bipush 31, 2) := by decide +kernel
theorem dL_law_43 : decode cL_law 43 = .ok (.iand, 1) := by decide +kernel
theorem dL_law_44 : decode cL_law 44 = .ok (.tableswitch 1074 0 19 #[96, 152, 208, 264, 320, 376, 439, 495, 508, 533, 589, 645, 701, 778, 855, 911, 967, 980, 1005, 1061], 96) := by decide +kernel
theorem dL_law_140 : decode cL_law 140 = .ok (.aload_n 1, 1) := by decide +kernel
theorem dL_law_141 : decode cL_law 141 = .ok (.aload_n 0, 1) := by decide +kernel
theorem dL_law_142 : decode cL_law 142 = .ok (.iload 5, 2) := by decide +kernel
theorem dL_law_144 : decode cL_law 144 = .ok (.iconst 1, 1) := by decide +kernel
theorem dL_law_145 : decode cL_law 145 = .ok (.iadd, 1) := by decide +kernel
theorem dL_law_146 : decode cL_law 146 = .ok (.iaload, 1) := by decide +kernel
theorem dL_law_147 : decode cL_law 147 = .ok (.aload_n 3, 1) := by decide +kernel
theorem dL_law_148 : decode cL_law 148 = .ok (.invokestatic 67, 3) := by decide +kernel
theorem dL_law_151 : decode cL_law 151 = .ok (.istore 6, 2) := by decide +kernel
theorem dL_law_153 : decode cL_law 153 = .ok (.aload_n 2, 1) := by decide +kernel
theorem dL_law_154 : decode cL_law 154 = .ok (.aload_n 0, 1) := by decide +kernel
theorem dL_law_155 : decode cL_law 155 = .ok (.iload 5, 2) := by decide +kernel
theorem dL_law_157 : decode cL_law 157 = .ok (.iconst 1, 1) := by decide +kernel
theorem dL_law_158 : decode cL_law 158 = .ok (.iadd, 1) := by decide +kernel
theorem dL_law_159 : decode cL_law 159 = .ok (.iaload, 1) := by decide +kernel
theorem dL_law_160 : decode cL_law 160 = .ok (.invokevirtual 72, 3) := by decide +kernel
theorem dL_law_163 : decode cL_law 163 = .ok (.istore 7, 2) := by decide +kernel
theorem dL_law_165 : decode cL_law 165 = .ok (.aload_n 2, 1) := by decide +kernel
theorem dL_law_166 : decode cL_law 166 = .ok (.invokevirtual 73, 3) := by decide +kernel
theorem dL_law_169 : decode cL_law 169 = .ok (.iload 6, 2) := by decide +kernel
theorem dL_law_171 : decode cL_law 171 = .ok (.if_icmp .eq 5, 3) := by decide +kernel
theorem dL_law_174 : decode cL_law 174 = .ok (.iconst 0, 1) := by decide +kernel
theorem dL_law_175 : decode cL_law 175 = .ok (.ireturn, 1) := by decide +kernel
theorem dL_law_176 : decode cL_law 176 = .ok (.iload 6, 2) := by decide +kernel
theorem dL_law_178 : decode cL_law 178 = .ok (.ifCond .ne 15, 3) := by decide +kernel
theorem dL_law_181 : decode cL_law 181 = .ok (.aload_n 3, 1) := by decide +kernel
theorem dL_law_182 : decode cL_law 182 = .ok (.iconst 0, 1) := by decide +kernel
theorem dL_law_183 : decode cL_law 183 = .ok (.laload, 1) := by decide +kernel
theorem dL_law_184 : decode cL_law 184 = .ok (.iload 7, 2) := by decide +kernel
theorem dL_law_186 : decode cL_law 186 = .ok (.i2l, 1) := by decide +kernel
theorem dL_law_187 : decode cL_law 187 = .ok (.lcmp, 1) := by decide +kernel
theorem dL_law_188 : decode cL_law 188 = .ok (.ifCond .eq 5, 3) := by decide +kernel
theorem dL_law_191 : decode cL_law 191 = .ok (.iconst 0, 1) := by decide +kernel
theorem dL_law_192 : decode cL_law 192 = .ok (.ireturn, 1) := by decide +kernel
theorem dL_law_193 : decode cL_law 193 = .ok (.goto 925, 3) := by decide +kernel
theorem dL_law_196 : decode cL_law 196 = .ok (.aload_n 1, 1) := by decide +kernel
theorem dL_law_197 : decode cL_law 197 = .ok (.aload_n 0, 1) := by decide +kernel
theorem dL_law_198 : decode cL_law 198 = .ok (.iload 5, 2) := by decide +kernel
theorem dL_law_200 : decode cL_law 200 = .ok (.iconst 1, 1) := by decide +kernel
theorem dL_law_201 : decode cL_law 201 = .ok (.iadd, 1) := by decide +kernel
theorem dL_law_202 : decode cL_law 202 = .ok (.iaload, 1) := by decide +kernel
theorem dL_law_203 : decode cL_law 203 = .ok (.aload_n 3, 1) := by decide +kernel
theorem dL_law_204 : decode cL_law 204 = .ok (.invokestatic 77, 3) := by decide +kernel
theorem dL_law_207 : decode cL_law 207 = .ok (.istore 6, 2) := by decide +kernel
theorem dL_law_209 : decode cL_law 209 = .ok (.aload_n 2, 1) := by decide +kernel
theorem dL_law_210 : decode cL_law 210 = .ok (.aload_n 0, 1) := by decide +kernel
theorem dL_law_211 : decode cL_law 211 = .ok (.iload 5, 2) := by decide +kernel
theorem dL_law_213 : decode cL_law 213 = .ok (.iconst 1, 1) := by decide +kernel
theorem dL_law_214 : decode cL_law 214 = .ok (.iadd, 1) := by decide +kernel
theorem dL_law_215 : decode cL_law 215 = .ok (.iaload, 1) := by decide +kernel
theorem dL_law_216 : decode cL_law 216 = .ok (.invokevirtual 79, 3) := by decide +kernel
theorem dL_law_219 : decode cL_law 219 = .ok (.istore 7, 2) := by decide +kernel
theorem dL_law_221 : decode cL_law 221 = .ok (.aload_n 2, 1) := by decide +kernel
theorem dL_law_222 : decode cL_law 222 = .ok (.invokevirtual 73, 3) := by decide +kernel
theorem dL_law_225 : decode cL_law 225 = .ok (.iload 6, 2) := by decide +kernel
theorem dL_law_227 : decode cL_law 227 = .ok (.if_icmp .eq 5, 3) := by decide +kernel
theorem dL_law_230 : decode cL_law 230 = .ok (.iconst 0, 1) := by decide +kernel
theorem dL_law_231 : decode cL_law 231 = .ok (.ireturn, 1) := by decide +kernel
theorem dL_law_232 : decode cL_law 232 = .ok (.iload 6, 2) := by decide +kernel
theorem dL_law_234 : decode cL_law 234 = .ok (.ifCond .ne 15, 3) := by decide +kernel
theorem dL_law_237 : decode cL_law 237 = .ok (.aload_n 3, 1) := by decide +kernel
theorem dL_law_238 : decode cL_law 238 = .ok (.iconst 0, 1) := by decide +kernel
theorem dL_law_239 : decode cL_law 239 = .ok (.laload, 1) := by decide +kernel
theorem dL_law_240 : decode cL_law 240 = .ok (.iload 7, 2) := by decide +kernel
theorem dL_law_242 : decode cL_law 242 = .ok (.i2l, 1) := by decide +kernel
theorem dL_law_243 : decode cL_law 243 = .ok (.lcmp, 1) := by decide +kernel
theorem dL_law_244 : decode cL_law 244 = .ok (.ifCond .eq 5, 3) := by decide +kernel
theorem dL_law_247 : decode cL_law 247 = .ok (.iconst 0, 1) := by decide +kernel
theorem dL_law_248 : decode cL_law 248 = .ok (.ireturn, 1) := by decide +kernel
theorem dL_law_249 : decode cL_law 249 = .ok (.goto 869, 3) := by decide +kernel
theorem dL_law_252 : decode cL_law 252 = .ok (.aload_n 1, 1) := by decide +kernel
theorem dL_law_253 : decode cL_law 253 = .ok (.aload_n 0, 1) := by decide +kernel
theorem dL_law_254 : decode cL_law 254 = .ok (.iload 5, 2) := by decide +kernel
theorem dL_law_256 : decode cL_law 256 = .ok (.iconst 1, 1) := by decide +kernel
theorem dL_law_257 : decode cL_law 257 = .ok (.iadd, 1) := by decide +kernel
theorem dL_law_258 : decode cL_law 258 = .ok (.iaload, 1) := by decide +kernel
theorem dL_law_259 : decode cL_law 259 = .ok (.aload_n 3, 1) := by decide +kernel
theorem dL_law_260 : decode cL_law 260 = .ok (.invokestatic 80, 3) := by decide +kernel
theorem dL_law_263 : decode cL_law 263 = .ok (.istore 6, 2) := by decide +kernel
theorem dL_law_265 : decode cL_law 265 = .ok (.aload_n 2, 1) := by decide +kernel
theorem dL_law_266 : decode cL_law 266 = .ok (.aload_n 0, 1) := by decide +kernel
theorem dL_law_267 : decode cL_law 267 = .ok (.iload 5, 2) := by decide +kernel
theorem dL_law_269 : decode cL_law 269 = .ok (.iconst 1, 1) := by decide +kernel
theorem dL_law_270 : decode cL_law 270 = .ok (.iadd, 1) := by decide +kernel
theorem dL_law_271 : decode cL_law 271 = .ok (.iaload, 1) := by decide +kernel
theorem dL_law_272 : decode cL_law 272 = .ok (.invokevirtual 82, 3) := by decide +kernel
theorem dL_law_275 : decode cL_law 275 = .ok (.istore 7, 2) := by decide +kernel
theorem dL_law_277 : decode cL_law 277 = .ok (.aload_n 2, 1) := by decide +kernel
theorem dL_law_278 : decode cL_law 278 = .ok (.invokevirtual 73, 3) := by decide +kernel
theorem dL_law_281 : decode cL_law 281 = .ok (.iload 6, 2) := by decide +kernel
theorem dL_law_283 : decode cL_law 283 = .ok (.if_icmp .eq 5, 3) := by decide +kernel
theorem dL_law_286 : decode cL_law 286 = .ok (.iconst 0, 1) := by decide +kernel
theorem dL_law_287 : decode cL_law 287 = .ok (.ireturn, 1) := by decide +kernel
theorem dL_law_288 : decode cL_law 288 = .ok (.iload 6, 2) := by decide +kernel
theorem dL_law_290 : decode cL_law 290 = .ok (.ifCond .ne 15, 3) := by decide +kernel
theorem dL_law_293 : decode cL_law 293 = .ok (.aload_n 3, 1) := by decide +kernel
theorem dL_law_294 : decode cL_law 294 = .ok (.iconst 0, 1) := by decide +kernel
theorem dL_law_295 : decode cL_law 295 = .ok (.laload, 1) := by decide +kernel
theorem dL_law_296 : decode cL_law 296 = .ok (.iload 7, 2) := by decide +kernel
theorem dL_law_298 : decode cL_law 298 = .ok (.i2l, 1) := by decide +kernel
theorem dL_law_299 : decode cL_law 299 = .ok (.lcmp, 1) := by decide +kernel
theorem dL_law_300 : decode cL_law 300 = .ok (.ifCond .eq 5, 3) := by decide +kernel
theorem dL_law_303 : decode cL_law 303 = .ok (.iconst 0, 1) := by decide +kernel
theorem dL_law_304 : decode cL_law 304 = .ok (.ireturn, 1) := by decide +kernel
theorem dL_law_305 : decode cL_law 305 = .ok (.goto 813, 3) := by decide +kernel
theorem dL_law_308 : decode cL_law 308 = .ok (.aload_n 1, 1) := by decide +kernel
theorem dL_law_309 : decode cL_law 309 = .ok (.aload_n 0, 1) := by decide +kernel
theorem dL_law_310 : decode cL_law 310 = .ok (.iload 5, 2) := by decide +kernel
theorem dL_law_312 : decode cL_law 312 = .ok (.iconst 1, 1) := by decide +kernel
theorem dL_law_313 : decode cL_law 313 = .ok (.iadd, 1) := by decide +kernel
theorem dL_law_314 : decode cL_law 314 = .ok (.iaload, 1) := by decide +kernel
theorem dL_law_315 : decode cL_law 315 = .ok (.aload_n 3, 1) := by decide +kernel
theorem dL_law_316 : decode cL_law 316 = .ok (.invokestatic 83, 3) := by decide +kernel
theorem dL_law_319 : decode cL_law 319 = .ok (.istore 6, 2) := by decide +kernel
theorem dL_law_321 : decode cL_law 321 = .ok (.aload_n 2, 1) := by decide +kernel
theorem dL_law_322 : decode cL_law 322 = .ok (.aload_n 0, 1) := by decide +kernel
theorem dL_law_323 : decode cL_law 323 = .ok (.iload 5, 2) := by decide +kernel
theorem dL_law_325 : decode cL_law 325 = .ok (.iconst 1, 1) := by decide +kernel
theorem dL_law_326 : decode cL_law 326 = .ok (.iadd, 1) := by decide +kernel
theorem dL_law_327 : decode cL_law 327 = .ok (.iaload, 1) := by decide +kernel
theorem dL_law_328 : decode cL_law 328 = .ok (.invokevirtual 85, 3) := by decide +kernel
theorem dL_law_331 : decode cL_law 331 = .ok (.istore 7, 2) := by decide +kernel
theorem dL_law_333 : decode cL_law 333 = .ok (.aload_n 2, 1) := by decide +kernel
theorem dL_law_334 : decode cL_law 334 = .ok (.invokevirtual 73, 3) := by decide +kernel
theorem dL_law_337 : decode cL_law 337 = .ok (.iload 6, 2) := by decide +kernel
theorem dL_law_339 : decode cL_law 339 = .ok (.if_icmp .eq 5, 3) := by decide +kernel
theorem dL_law_342 : decode cL_law 342 = .ok (.iconst 0, 1) := by decide +kernel
theorem dL_law_343 : decode cL_law 343 = .ok (.ireturn, 1) := by decide +kernel
theorem dL_law_344 : decode cL_law 344 = .ok (.iload 6, 2) := by decide +kernel
theorem dL_law_346 : decode cL_law 346 = .ok (.ifCond .ne 15, 3) := by decide +kernel
theorem dL_law_349 : decode cL_law 349 = .ok (.aload_n 3, 1) := by decide +kernel
theorem dL_law_350 : decode cL_law 350 = .ok (.iconst 0, 1) := by decide +kernel
theorem dL_law_351 : decode cL_law 351 = .ok (.laload, 1) := by decide +kernel
theorem dL_law_352 : decode cL_law 352 = .ok (.iload 7, 2) := by decide +kernel
theorem dL_law_354 : decode cL_law 354 = .ok (.i2l, 1) := by decide +kernel
theorem dL_law_355 : decode cL_law 355 = .ok (.lcmp, 1) := by decide +kernel
theorem dL_law_356 : decode cL_law 356 = .ok (.ifCond .eq 5, 3) := by decide +kernel
theorem dL_law_359 : decode cL_law 359 = .ok (.iconst 0, 1) := by decide +kernel
theorem dL_law_360 : decode cL_law 360 = .ok (.ireturn, 1) := by decide +kernel
theorem dL_law_361 : decode cL_law 361 = .ok (.goto 757, 3) := by decide +kernel
theorem dL_law_364 : decode cL_law 364 = .ok (.aload_n 1, 1) := by decide +kernel
theorem dL_law_365 : decode cL_law 365 = .ok (.aload_n 0, 1) := by decide +kernel
theorem dL_law_366 : decode cL_law 366 = .ok (.iload 5, 2) := by decide +kernel
theorem dL_law_368 : decode cL_law 368 = .ok (.iconst 1, 1) := by decide +kernel
theorem dL_law_369 : decode cL_law 369 = .ok (.iadd, 1) := by decide +kernel
theorem dL_law_370 : decode cL_law 370 = .ok (.iaload, 1) := by decide +kernel
theorem dL_law_371 : decode cL_law 371 = .ok (.aload_n 3, 1) := by decide +kernel
theorem dL_law_372 : decode cL_law 372 = .ok (.invokestatic 86, 3) := by decide +kernel
theorem dL_law_375 : decode cL_law 375 = .ok (.istore 6, 2) := by decide +kernel
theorem dL_law_377 : decode cL_law 377 = .ok (.aload_n 2, 1) := by decide +kernel
theorem dL_law_378 : decode cL_law 378 = .ok (.aload_n 0, 1) := by decide +kernel
theorem dL_law_379 : decode cL_law 379 = .ok (.iload 5, 2) := by decide +kernel
theorem dL_law_381 : decode cL_law 381 = .ok (.iconst 1, 1) := by decide +kernel
theorem dL_law_382 : decode cL_law 382 = .ok (.iadd, 1) := by decide +kernel
theorem dL_law_383 : decode cL_law 383 = .ok (.iaload, 1) := by decide +kernel
theorem dL_law_384 : decode cL_law 384 = .ok (.invokevirtual 88, 3) := by decide +kernel
theorem dL_law_387 : decode cL_law 387 = .ok (.istore 7, 2) := by decide +kernel
theorem dL_law_389 : decode cL_law 389 = .ok (.aload_n 2, 1) := by decide +kernel
theorem dL_law_390 : decode cL_law 390 = .ok (.invokevirtual 73, 3) := by decide +kernel
theorem dL_law_393 : decode cL_law 393 = .ok (.iload 6, 2) := by decide +kernel
theorem dL_law_395 : decode cL_law 395 = .ok (.if_icmp .eq 5, 3) := by decide +kernel
theorem dL_law_398 : decode cL_law 398 = .ok (.iconst 0, 1) := by decide +kernel
theorem dL_law_399 : decode cL_law 399 = .ok (.ireturn, 1) := by decide +kernel
theorem dL_law_400 : decode cL_law 400 = .ok (.iload 6, 2) := by decide +kernel
theorem dL_law_402 : decode cL_law 402 = .ok (.ifCond .ne 15, 3) := by decide +kernel
theorem dL_law_405 : decode cL_law 405 = .ok (.aload_n 3, 1) := by decide +kernel
theorem dL_law_406 : decode cL_law 406 = .ok (.iconst 0, 1) := by decide +kernel
theorem dL_law_407 : decode cL_law 407 = .ok (.laload, 1) := by decide +kernel
theorem dL_law_408 : decode cL_law 408 = .ok (.iload 7, 2) := by decide +kernel
theorem dL_law_410 : decode cL_law 410 = .ok (.i2l, 1) := by decide +kernel
theorem dL_law_411 : decode cL_law 411 = .ok (.lcmp, 1) := by decide +kernel
theorem dL_law_412 : decode cL_law 412 = .ok (.ifCond .eq 5, 3) := by decide +kernel
theorem dL_law_415 : decode cL_law 415 = .ok (.iconst 0, 1) := by decide +kernel
theorem dL_law_416 : decode cL_law 416 = .ok (.ireturn, 1) := by decide +kernel
theorem dL_law_417 : decode cL_law 417 = .ok (.goto 701, 3) := by decide +kernel
theorem dL_law_420 : decode cL_law 420 = .ok (.aload_n 1, 1) := by decide +kernel
theorem dL_law_421 : decode cL_law 421 = .ok (.aload_n 0, 1) := by decide +kernel
theorem dL_law_422 : decode cL_law 422 = .ok (.iload 5, 2) := by decide +kernel
theorem dL_law_424 : decode cL_law 424 = .ok (.iconst 1, 1) := by decide +kernel
theorem dL_law_425 : decode cL_law 425 = .ok (.iadd, 1) := by decide +kernel
theorem dL_law_426 : decode cL_law 426 = .ok (.iaload, 1) := by decide +kernel
theorem dL_law_427 : decode cL_law 427 = .ok (.aload_n 3, 1) := by decide +kernel
theorem dL_law_428 : decode cL_law 428 = .ok (.invokestatic 89, 3) := by decide +kernel
theorem dL_law_431 : decode cL_law 431 = .ok (.istore 6, 2) := by decide +kernel
theorem dL_law_433 : decode cL_law 433 = .ok (.aload_n 2, 1) := by decide +kernel
theorem dL_law_434 : decode cL_law 434 = .ok (.aload_n 0, 1) := by decide +kernel
theorem dL_law_435 : decode cL_law 435 = .ok (.iload 5, 2) := by decide +kernel
theorem dL_law_437 : decode cL_law 437 = .ok (.iconst 1, 1) := by decide +kernel
theorem dL_law_438 : decode cL_law 438 = .ok (.iadd, 1) := by decide +kernel
theorem dL_law_439 : decode cL_law 439 = .ok (.iaload, 1) := by decide +kernel
theorem dL_law_440 : decode cL_law 440 = .ok (.invokevirtual 91, 3) := by decide +kernel
theorem dL_law_443 : decode cL_law 443 = .ok (.istore 7, 2) := by decide +kernel
theorem dL_law_445 : decode cL_law 445 = .ok (.aload_n 2, 1) := by decide +kernel
theorem dL_law_446 : decode cL_law 446 = .ok (.invokevirtual 73, 3) := by decide +kernel
theorem dL_law_449 : decode cL_law 449 = .ok (.iload 6, 2) := by decide +kernel
theorem dL_law_451 : decode cL_law 451 = .ok (.if_icmp .eq 5, 3) := by decide +kernel
theorem dL_law_454 : decode cL_law 454 = .ok (.iconst 0, 1) := by decide +kernel
theorem dL_law_455 : decode cL_law 455 = .ok (.ireturn, 1) := by decide +kernel
theorem dL_law_456 : decode cL_law 456 = .ok (.iload 6, 2) := by decide +kernel
theorem dL_law_458 : decode cL_law 458 = .ok (.ifCond .ne 22, 3) := by decide +kernel
theorem dL_law_461 : decode cL_law 461 = .ok (.aload_n 3, 1) := by decide +kernel
theorem dL_law_462 : decode cL_law 462 = .ok (.iconst 0, 1) := by decide +kernel
theorem dL_law_463 : decode cL_law 463 = .ok (.laload, 1) := by decide +kernel
theorem dL_law_464 : decode cL_law 464 = .ok (.iload 7, 2) := by decide +kernel
theorem dL_law_466 : decode cL_law 466 = .ok (.ifCond .eq 7, 3) := by decide +kernel
theorem dL_law_469 : decode cL_law 469 = .ok (.lconst 1, 1) := by decide +kernel
theorem dL_law_470 : decode cL_law 470 = .ok (.goto 4, 3) := by decide +kernel
theorem dL_law_473 : decode cL_law 473 = .ok (.lconst 0, 1) := by decide +kernel
theorem dL_law_474 : decode cL_law 474 = .ok (.lcmp, 1) := by decide +kernel
theorem dL_law_475 : decode cL_law 475 = .ok (.ifCond .eq 5, 3) := by decide +kernel
theorem dL_law_478 : decode cL_law 478 = .ok (.iconst 0, 1) := by decide +kernel
theorem dL_law_479 : decode cL_law 479 = .ok (.ireturn, 1) := by decide +kernel
theorem dL_law_480 : decode cL_law 480 = .ok (.goto 638, 3) := by decide +kernel
theorem dL_law_483 : decode cL_law 483 = .ok (.aload_n 1, 1) := by decide +kernel
theorem dL_law_484 : decode cL_law 484 = .ok (.aload_n 0, 1) := by decide +kernel
theorem dL_law_485 : decode cL_law 485 = .ok (.iload 5, 2) := by decide +kernel
theorem dL_law_487 : decode cL_law 487 = .ok (.iconst 1, 1) := by decide +kernel
theorem dL_law_488 : decode cL_law 488 = .ok (.iadd, 1) := by decide +kernel
theorem dL_law_489 : decode cL_law 489 = .ok (.iaload, 1) := by decide +kernel
theorem dL_law_490 : decode cL_law 490 = .ok (.aload_n 3, 1) := by decide +kernel
theorem dL_law_491 : decode cL_law 491 = .ok (.invokestatic 92, 3) := by decide +kernel
theorem dL_law_494 : decode cL_law 494 = .ok (.istore 6, 2) := by decide +kernel
theorem dL_law_496 : decode cL_law 496 = .ok (.aload_n 2, 1) := by decide +kernel
theorem dL_law_497 : decode cL_law 497 = .ok (.aload_n 0, 1) := by decide +kernel
theorem dL_law_498 : decode cL_law 498 = .ok (.iload 5, 2) := by decide +kernel
theorem dL_law_500 : decode cL_law 500 = .ok (.iconst 1, 1) := by decide +kernel
theorem dL_law_501 : decode cL_law 501 = .ok (.iadd, 1) := by decide +kernel
theorem dL_law_502 : decode cL_law 502 = .ok (.iaload, 1) := by decide +kernel
theorem dL_law_503 : decode cL_law 503 = .ok (.invokevirtual 94, 3) := by decide +kernel
theorem dL_law_506 : decode cL_law 506 = .ok (.istore 7, 2) := by decide +kernel
theorem dL_law_508 : decode cL_law 508 = .ok (.aload_n 2, 1) := by decide +kernel
theorem dL_law_509 : decode cL_law 509 = .ok (.invokevirtual 73, 3) := by decide +kernel
theorem dL_law_512 : decode cL_law 512 = .ok (.iload 6, 2) := by decide +kernel
theorem dL_law_514 : decode cL_law 514 = .ok (.if_icmp .eq 5, 3) := by decide +kernel
theorem dL_law_517 : decode cL_law 517 = .ok (.iconst 0, 1) := by decide +kernel
theorem dL_law_518 : decode cL_law 518 = .ok (.ireturn, 1) := by decide +kernel
theorem dL_law_519 : decode cL_law 519 = .ok (.iload 6, 2) := by decide +kernel
theorem dL_law_521 : decode cL_law 521 = .ok (.ifCond .ne 15, 3) := by decide +kernel
theorem dL_law_524 : decode cL_law 524 = .ok (.aload_n 3, 1) := by decide +kernel
theorem dL_law_525 : decode cL_law 525 = .ok (.iconst 0, 1) := by decide +kernel
theorem dL_law_526 : decode cL_law 526 = .ok (.laload, 1) := by decide +kernel
theorem dL_law_527 : decode cL_law 527 = .ok (.iload 7, 2) := by decide +kernel
theorem dL_law_529 : decode cL_law 529 = .ok (.i2l, 1) := by decide +kernel
theorem dL_law_530 : decode cL_law 530 = .ok (.lcmp, 1) := by decide +kernel
theorem dL_law_531 : decode cL_law 531 = .ok (.ifCond .eq 5, 3) := by decide +kernel
theorem dL_law_534 : decode cL_law 534 = .ok (.iconst 0, 1) := by decide +kernel
theorem dL_law_535 : decode cL_law 535 = .ok (.ireturn, 1) := by decide +kernel
theorem dL_law_536 : decode cL_law 536 = .ok (.goto 582, 3) := by decide +kernel
theorem dL_law_539 : decode cL_law 539 = .ok (.aload_n 1, 1) := by decide +kernel
theorem dL_law_540 : decode cL_law 540 = .ok (.invokevirtual 95, 3) := by decide +kernel
theorem dL_law_543 : decode cL_law 543 = .ok (.aload_n 2, 1) := by decide +kernel
theorem dL_law_544 : decode cL_law 544 = .ok (.invokevirtual 98, 3) := by decide +kernel
theorem dL_law_547 : decode cL_law 547 = .ok (.if_icmp .eq 571, 3) := by decide +kernel
theorem dL_law_550 : decode cL_law 550 = .ok (.iconst 0, 1) := by decide +kernel
theorem dL_law_551 : decode cL_law 551 = .ok (.ireturn, 1) := by decide +kernel
theorem dL_law_552 : decode cL_law 552 = .ok (.aload_n 1, 1) := by decide +kernel
theorem dL_law_553 : decode cL_law 553 = .ok (.aload_n 0, 1) := by decide +kernel
theorem dL_law_554 : decode cL_law 554 = .ok (.iload 5, 2) := by decide +kernel
theorem dL_law_556 : decode cL_law 556 = .ok (.iconst 1, 1) := by decide +kernel
theorem dL_law_557 : decode cL_law 557 = .ok (.iadd, 1) := by decide +kernel
theorem dL_law_558 : decode cL_law 558 = .ok (.iaload, 1) := by decide +kernel
theorem dL_law_559 : decode cL_law 559 = .ok (.invokevirtual 99, 3) := by decide +kernel
theorem dL_law_562 : decode cL_law 562 = .ok (.aload_n 2, 1) := by decide +kernel
theorem dL_law_563 : decode cL_law 563 = .ok (.aload_n 0, 1) := by decide +kernel
theorem dL_law_564 : decode cL_law 564 = .ok (.iload 5, 2) := by decide +kernel
theorem dL_law_566 : decode cL_law 566 = .ok (.iconst 1, 1) := by decide +kernel
theorem dL_law_567 : decode cL_law 567 = .ok (.iadd, 1) := by decide +kernel
theorem dL_law_568 : decode cL_law 568 = .ok (.iaload, 1) := by decide +kernel
theorem dL_law_569 : decode cL_law 569 = .ok (.invokevirtual 102, 3) := by decide +kernel
theorem dL_law_572 : decode cL_law 572 = .ok (.if_icmp .eq 546, 3) := by decide +kernel
theorem dL_law_575 : decode cL_law 575 = .ok (.iconst 0, 1) := by decide +kernel
theorem dL_law_576 : decode cL_law 576 = .ok (.ireturn, 1) := by decide +kernel
theorem dL_law_577 : decode cL_law 577 = .ok (.aload_n 1, 1) := by decide +kernel
theorem dL_law_578 : decode cL_law 578 = .ok (.aload_n 0, 1) := by decide +kernel
theorem dL_law_579 : decode cL_law 579 = .ok (.iload 5, 2) := by decide +kernel
theorem dL_law_581 : decode cL_law 581 = .ok (.iconst 1, 1) := by decide +kernel
theorem dL_law_582 : decode cL_law 582 = .ok (.iadd, 1) := by decide +kernel
theorem dL_law_583 : decode cL_law 583 = .ok (.iaload, 1) := by decide +kernel
theorem dL_law_584 : decode cL_law 584 = .ok (.aload_n 3, 1) := by decide +kernel
theorem dL_law_585 : decode cL_law 585 = .ok (.invokestatic 103, 3) := by decide +kernel
theorem dL_law_588 : decode cL_law 588 = .ok (.istore 6, 2) := by decide +kernel
theorem dL_law_590 : decode cL_law 590 = .ok (.aload_n 2, 1) := by decide +kernel
theorem dL_law_591 : decode cL_law 591 = .ok (.aload_n 0, 1) := by decide +kernel
theorem dL_law_592 : decode cL_law 592 = .ok (.iload 5, 2) := by decide +kernel
theorem dL_law_594 : decode cL_law 594 = .ok (.iconst 1, 1) := by decide +kernel
theorem dL_law_595 : decode cL_law 595 = .ok (.iadd, 1) := by decide +kernel
theorem dL_law_596 : decode cL_law 596 = .ok (.iaload, 1) := by decide +kernel
theorem dL_law_597 : decode cL_law 597 = .ok (.invokevirtual 105, 3) := by decide +kernel
theorem dL_law_600 : decode cL_law 600 = .ok (.istore 7, 2) := by decide +kernel
theorem dL_law_602 : decode cL_law 602 = .ok (.aload_n 2, 1) := by decide +kernel
theorem dL_law_603 : decode cL_law 603 = .ok (.invokevirtual 73, 3) := by decide +kernel
theorem dL_law_606 : decode cL_law 606 = .ok (.iload 6, 2) := by decide +kernel
theorem dL_law_608 : decode cL_law 608 = .ok (.if_icmp .eq 5, 3) := by decide +kernel
theorem dL_law_611 : decode cL_law 611 = .ok (.iconst 0, 1) := by decide +kernel
theorem dL_law_612 : decode cL_law 612 = .ok (.ireturn, 1) := by decide +kernel
theorem dL_law_613 : decode cL_law 613 = .ok (.iload 6, 2) := by decide +kernel
theorem dL_law_615 : decode cL_law 615 = .ok (.ifCond .ne 15, 3) := by decide +kernel
theorem dL_law_618 : decode cL_law 618 = .ok (.aload_n 3, 1) := by decide +kernel
theorem dL_law_619 : decode cL_law 619 = .ok (.iconst 0, 1) := by decide +kernel
theorem dL_law_620 : decode cL_law 620 = .ok (.laload, 1) := by decide +kernel
theorem dL_law_621 : decode cL_law 621 = .ok (.iload 7, 2) := by decide +kernel
theorem dL_law_623 : decode cL_law 623 = .ok (.i2l, 1) := by decide +kernel
theorem dL_law_624 : decode cL_law 624 = .ok (.lcmp, 1) := by decide +kernel
theorem dL_law_625 : decode cL_law 625 = .ok (.ifCond .eq 5, 3) := by decide +kernel
theorem dL_law_628 : decode cL_law 628 = .ok (.iconst 0, 1) := by decide +kernel
theorem dL_law_629 : decode cL_law 629 = .ok (.ireturn, 1) := by decide +kernel
theorem dL_law_630 : decode cL_law 630 = .ok (.goto 488, 3) := by decide +kernel
theorem dL_law_633 : decode cL_law 633 = .ok (.aload_n 1, 1) := by decide +kernel
theorem dL_law_634 : decode cL_law 634 = .ok (.aload_n 0, 1) := by decide +kernel
theorem dL_law_635 : decode cL_law 635 = .ok (.iload 5, 2) := by decide +kernel
theorem dL_law_637 : decode cL_law 637 = .ok (.iconst 1, 1) := by decide +kernel
theorem dL_law_638 : decode cL_law 638 = .ok (.iadd, 1) := by decide +kernel
theorem dL_law_639 : decode cL_law 639 = .ok (.iaload, 1) := by decide +kernel
theorem dL_law_640 : decode cL_law 640 = .ok (.aload_n 3, 1) := by decide +kernel
theorem dL_law_641 : decode cL_law 641 = .ok (.invokestatic 106, 3) := by decide +kernel
theorem dL_law_644 : decode cL_law 644 = .ok (.istore 6, 2) := by decide +kernel
theorem dL_law_646 : decode cL_law 646 = .ok (.aload_n 2, 1) := by decide +kernel
theorem dL_law_647 : decode cL_law 647 = .ok (.aload_n 0, 1) := by decide +kernel
theorem dL_law_648 : decode cL_law 648 = .ok (.iload 5, 2) := by decide +kernel
theorem dL_law_650 : decode cL_law 650 = .ok (.iconst 1, 1) := by decide +kernel
theorem dL_law_651 : decode cL_law 651 = .ok (.iadd, 1) := by decide +kernel
theorem dL_law_652 : decode cL_law 652 = .ok (.iaload, 1) := by decide +kernel
theorem dL_law_653 : decode cL_law 653 = .ok (.invokevirtual 108, 3) := by decide +kernel
theorem dL_law_656 : decode cL_law 656 = .ok (.istore 7, 2) := by decide +kernel
theorem dL_law_658 : decode cL_law 658 = .ok (.aload_n 2, 1) := by decide +kernel
theorem dL_law_659 : decode cL_law 659 = .ok (.invokevirtual 73, 3) := by decide +kernel
theorem dL_law_662 : decode cL_law 662 = .ok (.iload 6, 2) := by decide +kernel
theorem dL_law_664 : decode cL_law 664 = .ok (.if_icmp .eq 5, 3) := by decide +kernel
theorem dL_law_667 : decode cL_law 667 = .ok (.iconst 0, 1) := by decide +kernel
theorem dL_law_668 : decode cL_law 668 = .ok (.ireturn, 1) := by decide +kernel
theorem dL_law_669 : decode cL_law 669 = .ok (.iload 6, 2) := by decide +kernel
theorem dL_law_671 : decode cL_law 671 = .ok (.ifCond .ne 15, 3) := by decide +kernel
theorem dL_law_674 : decode cL_law 674 = .ok (.aload_n 3, 1) := by decide +kernel
theorem dL_law_675 : decode cL_law 675 = .ok (.iconst 0, 1) := by decide +kernel
theorem dL_law_676 : decode cL_law 676 = .ok (.laload, 1) := by decide +kernel
theorem dL_law_677 : decode cL_law 677 = .ok (.iload 7, 2) := by decide +kernel
theorem dL_law_679 : decode cL_law 679 = .ok (.i2l, 1) := by decide +kernel
theorem dL_law_680 : decode cL_law 680 = .ok (.lcmp, 1) := by decide +kernel
theorem dL_law_681 : decode cL_law 681 = .ok (.ifCond .eq 5, 3) := by decide +kernel
theorem dL_law_684 : decode cL_law 684 = .ok (.iconst 0, 1) := by decide +kernel
theorem dL_law_685 : decode cL_law 685 = .ok (.ireturn, 1) := by decide +kernel
theorem dL_law_686 : decode cL_law 686 = .ok (.goto 432, 3) := by decide +kernel
theorem dL_law_689 : decode cL_law 689 = .ok (.aload_n 1, 1) := by decide +kernel
theorem dL_law_690 : decode cL_law 690 = .ok (.aload_n 0, 1) := by decide +kernel
theorem dL_law_691 : decode cL_law 691 = .ok (.iload 5, 2) := by decide +kernel
theorem dL_law_693 : decode cL_law 693 = .ok (.iconst 1, 1) := by decide +kernel
theorem dL_law_694 : decode cL_law 694 = .ok (.iadd, 1) := by decide +kernel
theorem dL_law_695 : decode cL_law 695 = .ok (.iaload, 1) := by decide +kernel
theorem dL_law_696 : decode cL_law 696 = .ok (.aload_n 3, 1) := by decide +kernel
theorem dL_law_697 : decode cL_law 697 = .ok (.invokestatic 109, 3) := by decide +kernel
theorem dL_law_700 : decode cL_law 700 = .ok (.istore 6, 2) := by decide +kernel
theorem dL_law_702 : decode cL_law 702 = .ok (.aload_n 2, 1) := by decide +kernel
theorem dL_law_703 : decode cL_law 703 = .ok (.aload_n 0, 1) := by decide +kernel
theorem dL_law_704 : decode cL_law 704 = .ok (.iload 5, 2) := by decide +kernel
theorem dL_law_706 : decode cL_law 706 = .ok (.iconst 1, 1) := by decide +kernel
theorem dL_law_707 : decode cL_law 707 = .ok (.iadd, 1) := by decide +kernel
theorem dL_law_708 : decode cL_law 708 = .ok (.iaload, 1) := by decide +kernel
theorem dL_law_709 : decode cL_law 709 = .ok (.invokevirtual 111, 3) := by decide +kernel
theorem dL_law_712 : decode cL_law 712 = .ok (.istore 7, 2) := by decide +kernel
theorem dL_law_714 : decode cL_law 714 = .ok (.aload_n 2, 1) := by decide +kernel
theorem dL_law_715 : decode cL_law 715 = .ok (.invokevirtual 73, 3) := by decide +kernel
theorem dL_law_718 : decode cL_law 718 = .ok (.iload 6, 2) := by decide +kernel
theorem dL_law_720 : decode cL_law 720 = .ok (.if_icmp .eq 5, 3) := by decide +kernel
theorem dL_law_723 : decode cL_law 723 = .ok (.iconst 0, 1) := by decide +kernel
theorem dL_law_724 : decode cL_law 724 = .ok (.ireturn, 1) := by decide +kernel
theorem dL_law_725 : decode cL_law 725 = .ok (.iload 6, 2) := by decide +kernel
theorem dL_law_727 : decode cL_law 727 = .ok (.ifCond .ne 15, 3) := by decide +kernel
theorem dL_law_730 : decode cL_law 730 = .ok (.aload_n 3, 1) := by decide +kernel
theorem dL_law_731 : decode cL_law 731 = .ok (.iconst 0, 1) := by decide +kernel
theorem dL_law_732 : decode cL_law 732 = .ok (.laload, 1) := by decide +kernel
theorem dL_law_733 : decode cL_law 733 = .ok (.iload 7, 2) := by decide +kernel
theorem dL_law_735 : decode cL_law 735 = .ok (.i2l, 1) := by decide +kernel
theorem dL_law_736 : decode cL_law 736 = .ok (.lcmp, 1) := by decide +kernel
theorem dL_law_737 : decode cL_law 737 = .ok (.ifCond .eq 5, 3) := by decide +kernel
theorem dL_law_740 : decode cL_law 740 = .ok (.iconst 0, 1) := by decide +kernel
theorem dL_law_741 : decode cL_law 741 = .ok (.ireturn, 1) := by decide +kernel
theorem dL_law_742 : decode cL_law 742 = .ok (.goto 376, 3) := by decide +kernel
theorem dL_law_745 : decode cL_law 745 = .ok (.aload_n 1, 1) := by decide +kernel
theorem dL_law_746 : decode cL_law 746 = .ok (.aload_n 0, 1) := by decide +kernel
theorem dL_law_747 : decode cL_law 747 = .ok (.iload 5, 2) := by decide +kernel
theorem dL_law_749 : decode cL_law 749 = .ok (.iconst 1, 1) := by decide +kernel
theorem dL_law_750 : decode cL_law 750 = .ok (.iadd, 1) := by decide +kernel
theorem dL_law_751 : decode cL_law 751 = .ok (.iaload, 1) := by decide +kernel
theorem dL_law_752 : decode cL_law 752 = .ok (.aload 4, 2) := by decide +kernel
theorem dL_law_754 : decode cL_law 754 = .ok (.invokestatic 112, 3) := by decide +kernel
theorem dL_law_757 : decode cL_law 757 = .ok (.istore 6, 2) := by decide +kernel
theorem dL_law_759 : decode cL_law 759 = .ok (.aload_n 2, 1) := by decide +kernel
theorem dL_law_760 : decode cL_law 760 = .ok (.aload_n 0, 1) := by decide +kernel
theorem dL_law_761 : decode cL_law 761 = .ok (.iload 5, 2) := by decide +kernel
theorem dL_law_763 : decode cL_law 763 = .ok (.iconst 1, 1) := by decide +kernel
theorem dL_law_764 : decode cL_law 764 = .ok (.iadd, 1) := by decide +kernel
theorem dL_law_765 : decode cL_law 765 = .ok (.iaload, 1) := by decide +kernel
theorem dL_law_766 : decode cL_law 766 = .ok (.invokevirtual 115, 3) := by decide +kernel
theorem dL_law_769 : decode cL_law 769 = .ok (.dstore 7, 2) := by decide +kernel
theorem dL_law_771 : decode cL_law 771 = .ok (.aload_n 2, 1) := by decide +kernel
theorem dL_law_772 : decode cL_law 772 = .ok (.invokevirtual 73, 3) := by decide +kernel
theorem dL_law_775 : decode cL_law 775 = .ok (.iload 6, 2) := by decide +kernel
theorem dL_law_777 : decode cL_law 777 = .ok (.if_icmp .eq 5, 3) := by decide +kernel
theorem dL_law_780 : decode cL_law 780 = .ok (.iconst 0, 1) := by decide +kernel
theorem dL_law_781 : decode cL_law 781 = .ok (.ireturn, 1) := by decide +kernel
theorem dL_law_782 : decode cL_law 782 = .ok (.iload 6, 2) := by decide +kernel
theorem dL_law_784 : decode cL_law 784 = .ok (.ifCond .ne 35, 3) := by decide +kernel
theorem dL_law_787 : decode cL_law 787 = .ok (.aload 4, 2) := by decide +kernel
theorem dL_law_789 : decode cL_law 789 = .ok (.iconst 0, 1) := by decide +kernel
theorem dL_law_790 : decode cL_law 790 = .ok (.daload, 1) := by decide +kernel
theorem dL_law_791 : decode cL_law 791 = .ok (.dload 7, 2) := by decide +kernel
theorem dL_law_793 : decode cL_law 793 = .ok (.dcmp .l, 1) := by decide +kernel
theorem dL_law_794 : decode cL_law 794 = .ok (.ifCond .eq 25, 3) := by decide +kernel
theorem dL_law_797 : decode cL_law 797 = .ok (.aload 4, 2) := by decide +kernel
theorem dL_law_799 : decode cL_law 799 = .ok (.iconst 0, 1) := by decide +kernel
theorem dL_law_800 : decode cL_law 800 = .ok (.daload, 1) := by decide +kernel
theorem dL_law_801 : decode cL_law 801 = .ok (.aload 4, 2) := by decide +kernel
theorem dL_law_803 : decode cL_law 803 = .ok (.iconst 0, 1) := by decide +kernel
theorem dL_law_804 : decode cL_law 804 = .ok (.daload, 1) := by decide +kernel
theorem dL_law_805 : decode cL_law 805 = .ok (.dcmp .l, 1) := by decide +kernel
theorem dL_law_806 : decode cL_law 806 = .ok (.ifCond .eq 11, 3) := by decide +kernel
theorem dL_law_809 : decode cL_law 809 = .ok (.dload 7, 2) := by decide +kernel
theorem dL_law_811 : decode cL_law 811 = .ok (.dload 7, 2) := by decide +kernel
theorem dL_law_813 : decode cL_law 813 = .ok (.dcmp .l, 1) := by decide +kernel
theorem dL_law_814 : decode cL_law 814 = .ok (.ifCond .ne 5, 3) := by decide +kernel
theorem dL_law_817 : decode cL_law 817 = .ok (.iconst 0, 1) := by decide +kernel
theorem dL_law_818 : decode cL_law 818 = .ok (.ireturn, 1) := by decide +kernel
theorem dL_law_819 : decode cL_law 819 = .ok (.goto 299, 3) := by decide +kernel
theorem dL_law_822 : decode cL_law 822 = .ok (.aload_n 1, 1) := by decide +kernel
theorem dL_law_823 : decode cL_law 823 = .ok (.aload_n 0, 1) := by decide +kernel
theorem dL_law_824 : decode cL_law 824 = .ok (.iload 5, 2) := by decide +kernel
theorem dL_law_826 : decode cL_law 826 = .ok (.iconst 1, 1) := by decide +kernel
theorem dL_law_827 : decode cL_law 827 = .ok (.iadd, 1) := by decide +kernel
theorem dL_law_828 : decode cL_law 828 = .ok (.iaload, 1) := by decide +kernel
theorem dL_law_829 : decode cL_law 829 = .ok (.aload 4, 2) := by decide +kernel
theorem dL_law_831 : decode cL_law 831 = .ok (.invokestatic 116, 3) := by decide +kernel
theorem dL_law_834 : decode cL_law 834 = .ok (.istore 6, 2) := by decide +kernel
theorem dL_law_836 : decode cL_law 836 = .ok (.aload_n 2, 1) := by decide +kernel
theorem dL_law_837 : decode cL_law 837 = .ok (.aload_n 0, 1) := by decide +kernel
theorem dL_law_838 : decode cL_law 838 = .ok (.iload 5, 2) := by decide +kernel
theorem dL_law_840 : decode cL_law 840 = .ok (.iconst 1, 1) := by decide +kernel
theorem dL_law_841 : decode cL_law 841 = .ok (.iadd, 1) := by decide +kernel
theorem dL_law_842 : decode cL_law 842 = .ok (.iaload, 1) := by decide +kernel
theorem dL_law_843 : decode cL_law 843 = .ok (.invokevirtual 118, 3) := by decide +kernel
theorem dL_law_846 : decode cL_law 846 = .ok (.dstore 7, 2) := by decide +kernel
theorem dL_law_848 : decode cL_law 848 = .ok (.aload_n 2, 1) := by decide +kernel
theorem dL_law_849 : decode cL_law 849 = .ok (.invokevirtual 73, 3) := by decide +kernel
theorem dL_law_852 : decode cL_law 852 = .ok (.iload 6, 2) := by decide +kernel
theorem dL_law_854 : decode cL_law 854 = .ok (.if_icmp .eq 5, 3) := by decide +kernel
theorem dL_law_857 : decode cL_law 857 = .ok (.iconst 0, 1) := by decide +kernel
theorem dL_law_858 : decode cL_law 858 = .ok (.ireturn, 1) := by decide +kernel
theorem dL_law_859 : decode cL_law 859 = .ok (.iload 6, 2) := by decide +kernel
theorem dL_law_861 : decode cL_law 861 = .ok (.ifCond .ne 35, 3) := by decide +kernel
theorem dL_law_864 : decode cL_law 864 = .ok (.aload 4, 2) := by decide +kernel
theorem dL_law_866 : decode cL_law 866 = .ok (.iconst 0, 1) := by decide +kernel
theorem dL_law_867 : decode cL_law 867 = .ok (.daload, 1) := by decide +kernel
theorem dL_law_868 : decode cL_law 868 = .ok (.dload 7, 2) := by decide +kernel
theorem dL_law_870 : decode cL_law 870 = .ok (.dcmp .l, 1) := by decide +kernel
theorem dL_law_871 : decode cL_law 871 = .ok (.ifCond .eq 25, 3) := by decide +kernel
theorem dL_law_874 : decode cL_law 874 = .ok (.aload 4, 2) := by decide +kernel
theorem dL_law_876 : decode cL_law 876 = .ok (.iconst 0, 1) := by decide +kernel
theorem dL_law_877 : decode cL_law 877 = .ok (.daload, 1) := by decide +kernel
theorem dL_law_878 : decode cL_law 878 = .ok (.aload 4, 2) := by decide +kernel
theorem dL_law_880 : decode cL_law 880 = .ok (.iconst 0, 1) := by decide +kernel
theorem dL_law_881 : decode cL_law 881 = .ok (.daload, 1) := by decide +kernel
theorem dL_law_882 : decode cL_law 882 = .ok (.dcmp .l, 1) := by decide +kernel
theorem dL_law_883 : decode cL_law 883 = .ok (.ifCond .eq 11, 3) := by decide +kernel
theorem dL_law_886 : decode cL_law 886 = .ok (.dload 7, 2) := by decide +kernel
theorem dL_law_888 : decode cL_law 888 = .ok (.dload 7, 2) := by decide +kernel
theorem dL_law_890 : decode cL_law 890 = .ok (.dcmp .l, 1) := by decide +kernel
theorem dL_law_891 : decode cL_law 891 = .ok (.ifCond .ne 5, 3) := by decide +kernel
theorem dL_law_894 : decode cL_law 894 = .ok (.iconst 0, 1) := by decide +kernel
theorem dL_law_895 : decode cL_law 895 = .ok (.ireturn, 1) := by decide +kernel
theorem dL_law_896 : decode cL_law 896 = .ok (.goto 222, 3) := by decide +kernel
theorem dL_law_899 : decode cL_law 899 = .ok (.aload_n 1, 1) := by decide +kernel
theorem dL_law_900 : decode cL_law 900 = .ok (.aload_n 0, 1) := by decide +kernel
theorem dL_law_901 : decode cL_law 901 = .ok (.iload 5, 2) := by decide +kernel
theorem dL_law_903 : decode cL_law 903 = .ok (.iconst 1, 1) := by decide +kernel
theorem dL_law_904 : decode cL_law 904 = .ok (.iadd, 1) := by decide +kernel
theorem dL_law_905 : decode cL_law 905 = .ok (.iaload, 1) := by decide +kernel
theorem dL_law_906 : decode cL_law 906 = .ok (.aload_n 3, 1) := by decide +kernel
theorem dL_law_907 : decode cL_law 907 = .ok (.invokestatic 119, 3) := by decide +kernel
theorem dL_law_910 : decode cL_law 910 = .ok (.istore 6, 2) := by decide +kernel
theorem dL_law_912 : decode cL_law 912 = .ok (.aload_n 2, 1) := by decide +kernel
theorem dL_law_913 : decode cL_law 913 = .ok (.aload_n 0, 1) := by decide +kernel
theorem dL_law_914 : decode cL_law 914 = .ok (.iload 5, 2) := by decide +kernel
theorem dL_law_916 : decode cL_law 916 = .ok (.iconst 1, 1) := by decide +kernel
theorem dL_law_917 : decode cL_law 917 = .ok (.iadd, 1) := by decide +kernel
theorem dL_law_918 : decode cL_law 918 = .ok (.iaload, 1) := by decide +kernel
theorem dL_law_919 : decode cL_law 919 = .ok (.invokevirtual 121, 3) := by decide +kernel
theorem dL_law_922 : decode cL_law 922 = .ok (.istore 7, 2) := by decide +kernel
theorem dL_law_924 : decode cL_law 924 = .ok (.aload_n 2, 1) := by decide +kernel
theorem dL_law_925 : decode cL_law 925 = .ok (.invokevirtual 73, 3) := by decide +kernel
theorem dL_law_928 : decode cL_law 928 = .ok (.iload 6, 2) := by decide +kernel
theorem dL_law_930 : decode cL_law 930 = .ok (.if_icmp .eq 5, 3) := by decide +kernel
theorem dL_law_933 : decode cL_law 933 = .ok (.iconst 0, 1) := by decide +kernel
theorem dL_law_934 : decode cL_law 934 = .ok (.ireturn, 1) := by decide +kernel
theorem dL_law_935 : decode cL_law 935 = .ok (.iload 6, 2) := by decide +kernel
theorem dL_law_937 : decode cL_law 937 = .ok (.ifCond .ne 15, 3) := by decide +kernel
theorem dL_law_940 : decode cL_law 940 = .ok (.aload_n 3, 1) := by decide +kernel
theorem dL_law_941 : decode cL_law 941 = .ok (.iconst 0, 1) := by decide +kernel
theorem dL_law_942 : decode cL_law 942 = .ok (.laload, 1) := by decide +kernel
theorem dL_law_943 : decode cL_law 943 = .ok (.iload 7, 2) := by decide +kernel
theorem dL_law_945 : decode cL_law 945 = .ok (.i2l, 1) := by decide +kernel
theorem dL_law_946 : decode cL_law 946 = .ok (.lcmp, 1) := by decide +kernel
theorem dL_law_947 : decode cL_law 947 = .ok (.ifCond .eq 5, 3) := by decide +kernel
theorem dL_law_950 : decode cL_law 950 = .ok (.iconst 0, 1) := by decide +kernel
theorem dL_law_951 : decode cL_law 951 = .ok (.ireturn, 1) := by decide +kernel
theorem dL_law_952 : decode cL_law 952 = .ok (.goto 166, 3) := by decide +kernel
theorem dL_law_955 : decode cL_law 955 = .ok (.aload_n 1, 1) := by decide +kernel
theorem dL_law_956 : decode cL_law 956 = .ok (.aload_n 0, 1) := by decide +kernel
theorem dL_law_957 : decode cL_law 957 = .ok (.iload 5, 2) := by decide +kernel
theorem dL_law_959 : decode cL_law 959 = .ok (.iconst 1, 1) := by decide +kernel
theorem dL_law_960 : decode cL_law 960 = .ok (.iadd, 1) := by decide +kernel
theorem dL_law_961 : decode cL_law 961 = .ok (.iaload, 1) := by decide +kernel
theorem dL_law_962 : decode cL_law 962 = .ok (.aload_n 3, 1) := by decide +kernel
theorem dL_law_963 : decode cL_law 963 = .ok (.invokestatic 122, 3) := by decide +kernel
theorem dL_law_966 : decode cL_law 966 = .ok (.istore 6, 2) := by decide +kernel
theorem dL_law_968 : decode cL_law 968 = .ok (.aload_n 2, 1) := by decide +kernel
theorem dL_law_969 : decode cL_law 969 = .ok (.aload_n 0, 1) := by decide +kernel
theorem dL_law_970 : decode cL_law 970 = .ok (.iload 5, 2) := by decide +kernel
theorem dL_law_972 : decode cL_law 972 = .ok (.iconst 1, 1) := by decide +kernel
theorem dL_law_973 : decode cL_law 973 = .ok (.iadd, 1) := by decide +kernel
theorem dL_law_974 : decode cL_law 974 = .ok (.iaload, 1) := by decide +kernel
theorem dL_law_975 : decode cL_law 975 = .ok (.invokevirtual 124, 3) := by decide +kernel
theorem dL_law_978 : decode cL_law 978 = .ok (.istore 7, 2) := by decide +kernel
theorem dL_law_980 : decode cL_law 980 = .ok (.aload_n 2, 1) := by decide +kernel
theorem dL_law_981 : decode cL_law 981 = .ok (.invokevirtual 73, 3) := by decide +kernel
theorem dL_law_984 : decode cL_law 984 = .ok (.iload 6, 2) := by decide +kernel
theorem dL_law_986 : decode cL_law 986 = .ok (.if_icmp .eq 5, 3) := by decide +kernel
theorem dL_law_989 : decode cL_law 989 = .ok (.iconst 0, 1) := by decide +kernel
theorem dL_law_990 : decode cL_law 990 = .ok (.ireturn, 1) := by decide +kernel
theorem dL_law_991 : decode cL_law 991 = .ok (.iload 6, 2) := by decide +kernel
theorem dL_law_993 : decode cL_law 993 = .ok (.ifCond .ne 15, 3) := by decide +kernel
theorem dL_law_996 : decode cL_law 996 = .ok (.aload_n 3, 1) := by decide +kernel
theorem dL_law_997 : decode cL_law 997 = .ok (.iconst 0, 1) := by decide +kernel
theorem dL_law_998 : decode cL_law 998 = .ok (.laload, 1) := by decide +kernel
theorem dL_law_999 : decode cL_law 999 = .ok (.iload 7, 2) := by decide +kernel
theorem dL_law_1001 : decode cL_law 1001 = .ok (.i2l, 1) := by decide +kernel
theorem dL_law_1002 : decode cL_law 1002 = .ok (.lcmp, 1) := by decide +kernel
theorem dL_law_1003 : decode cL_law 1003 = .ok (.ifCond .eq 5, 3) := by decide +kernel
theorem dL_law_1006 : decode cL_law 1006 = .ok (.iconst 0, 1) := by decide +kernel
theorem dL_law_1007 : decode cL_law 1007 = .ok (.ireturn, 1) := by decide +kernel
theorem dL_law_1008 : decode cL_law 1008 = .ok (.goto 110, 3) := by decide +kernel
theorem dL_law_1011 : decode cL_law 1011 = .ok (.aload_n 1, 1) := by decide +kernel
theorem dL_law_1012 : decode cL_law 1012 = .ok (.invokevirtual 125, 3) := by decide +kernel
theorem dL_law_1015 : decode cL_law 1015 = .ok (.aload_n 2, 1) := by decide +kernel
theorem dL_law_1016 : decode cL_law 1016 = .ok (.invokevirtual 128, 3) := by decide +kernel
theorem dL_law_1019 : decode cL_law 1019 = .ok (.if_icmp .eq 99, 3) := by decide +kernel
theorem dL_law_1022 : decode cL_law 1022 = .ok (.iconst 0, 1) := by decide +kernel
theorem dL_law_1023 : decode cL_law 1023 = .ok (.ireturn, 1) := by decide +kernel
theorem dL_law_1024 : decode cL_law 1024 = .ok (.aload_n 1, 1) := by decide +kernel
theorem dL_law_1025 : decode cL_law 1025 = .ok (.aload_n 0, 1) := by decide +kernel
theorem dL_law_1026 : decode cL_law 1026 = .ok (.iload 5, 2) := by decide +kernel
theorem dL_law_1028 : decode cL_law 1028 = .ok (.iconst 1, 1) := by decide +kernel
theorem dL_law_1029 : decode cL_law 1029 = .ok (.iadd, 1) := by decide +kernel
theorem dL_law_1030 : decode cL_law 1030 = .ok (.iaload, 1) := by decide +kernel
theorem dL_law_1031 : decode cL_law 1031 = .ok (.invokevirtual 129, 3) := by decide +kernel
theorem dL_law_1034 : decode cL_law 1034 = .ok (.aload_n 2, 1) := by decide +kernel
theorem dL_law_1035 : decode cL_law 1035 = .ok (.aload_n 0, 1) := by decide +kernel
theorem dL_law_1036 : decode cL_law 1036 = .ok (.iload 5, 2) := by decide +kernel
theorem dL_law_1038 : decode cL_law 1038 = .ok (.iconst 1, 1) := by decide +kernel
theorem dL_law_1039 : decode cL_law 1039 = .ok (.iadd, 1) := by decide +kernel
theorem dL_law_1040 : decode cL_law 1040 = .ok (.iaload, 1) := by decide +kernel
theorem dL_law_1041 : decode cL_law 1041 = .ok (.invokevirtual 132, 3) := by decide +kernel
theorem dL_law_1044 : decode cL_law 1044 = .ok (.if_icmp .eq 74, 3) := by decide +kernel
theorem dL_law_1047 : decode cL_law 1047 = .ok (.iconst 0, 1) := by decide +kernel
theorem dL_law_1048 : decode cL_law 1048 = .ok (.ireturn, 1) := by decide +kernel
theorem dL_law_1049 : decode cL_law 1049 = .ok (.aload_n 1, 1) := by decide +kernel
theorem dL_law_1050 : decode cL_law 1050 = .ok (.aload_n 0, 1) := by decide +kernel
theorem dL_law_1051 : decode cL_law 1051 = .ok (.iload 5, 2) := by decide +kernel
theorem dL_law_1053 : decode cL_law 1053 = .ok (.iconst 1, 1) := by decide +kernel
theorem dL_law_1054 : decode cL_law 1054 = .ok (.iadd, 1) := by decide +kernel
theorem dL_law_1055 : decode cL_law 1055 = .ok (.iaload, 1) := by decide +kernel
theorem dL_law_1056 : decode cL_law 1056 = .ok (.aload_n 3, 1) := by decide +kernel
theorem dL_law_1057 : decode cL_law 1057 = .ok (.invokestatic 133, 3) := by decide +kernel
theorem dL_law_1060 : decode cL_law 1060 = .ok (.istore 6, 2) := by decide +kernel
theorem dL_law_1062 : decode cL_law 1062 = .ok (.aload_n 2, 1) := by decide +kernel
theorem dL_law_1063 : decode cL_law 1063 = .ok (.aload_n 0, 1) := by decide +kernel
theorem dL_law_1064 : decode cL_law 1064 = .ok (.iload 5, 2) := by decide +kernel
theorem dL_law_1066 : decode cL_law 1066 = .ok (.iconst 1, 1) := by decide +kernel
theorem dL_law_1067 : decode cL_law 1067 = .ok (.iadd, 1) := by decide +kernel
theorem dL_law_1068 : decode cL_law 1068 = .ok (.iaload, 1) := by decide +kernel
theorem dL_law_1069 : decode cL_law 1069 = .ok (.invokevirtual 135, 3) := by decide +kernel
theorem dL_law_1072 : decode cL_law 1072 = .ok (.istore 7, 2) := by decide +kernel
theorem dL_law_1074 : decode cL_law 1074 = .ok (.aload_n 2, 1) := by decide +kernel
theorem dL_law_1075 : decode cL_law 1075 = .ok (.invokevirtual 73, 3) := by decide +kernel
theorem dL_law_1078 : decode cL_law 1078 = .ok (.iload 6, 2) := by decide +kernel
theorem dL_law_1080 : decode cL_law 1080 = .ok (.if_icmp .eq 5, 3) := by decide +kernel
theorem dL_law_1083 : decode cL_law 1083 = .ok (.iconst 0, 1) := by decide +kernel
theorem dL_law_1084 : decode cL_law 1084 = .ok (.ireturn, 1) := by decide +kernel
theorem dL_law_1085 : decode cL_law 1085 = .ok (.iload 6, 2) := by decide +kernel
theorem dL_law_1087 : decode cL_law 1087 = .ok (.ifCond .ne 15, 3) := by decide +kernel
theorem dL_law_1090 : decode cL_law 1090 = .ok (.aload_n 3, 1) := by decide +kernel
theorem dL_law_1091 : decode cL_law 1091 = .ok (.iconst 0, 1) := by decide +kernel
theorem dL_law_1092 : decode cL_law 1092 = .ok (.laload, 1) := by decide +kernel
theorem dL_law_1093 : decode cL_law 1093 = .ok (.iload 7, 2) := by decide +kernel
theorem dL_law_1095 : decode cL_law 1095 = .ok (.i2l, 1) := by decide +kernel
theorem dL_law_1096 : decode cL_law 1096 = .ok (.lcmp, 1) := by decide +kernel
theorem dL_law_1097 : decode cL_law 1097 = .ok (.ifCond .eq 5, 3) := by decide +kernel
theorem dL_law_1100 : decode cL_law 1100 = .ok (.iconst 0, 1) := by decide +kernel
theorem dL_law_1101 : decode cL_law 1101 = .ok (.ireturn, 1) := by decide +kernel
theorem dL_law_1102 : decode cL_law 1102 = .ok (.goto 16, 3) := by decide +kernel
theorem dL_law_1105 : decode cL_law 1105 = .ok (.aload_n 1, 1) := by decide +kernel
theorem dL_law_1106 : decode cL_law 1106 = .ok (.invokevirtual 136, 3) := by decide +kernel
theorem dL_law_1109 : decode cL_law 1109 = .ok (.aload_n 2, 1) := by decide +kernel
theorem dL_law_1110 : decode cL_law 1110 = .ok (.invokevirtual 139, 3) := by decide +kernel
theorem dL_law_1113 : decode cL_law 1113 = .ok (.if_icmp .eq 5, 3) := by decide +kernel
theorem dL_law_1116 : decode cL_law 1116 = .ok (.iconst 0, 1) := by decide +kernel
theorem dL_law_1117 : decode cL_law 1117 = .ok (.ireturn, 1) := by decide +kernel
theorem dL_law_1118 : decode cL_law 1118 = .ok (.iinc 5 2, 3) := by decide +kernel
theorem dL_law_1121 : decode cL_law 1121 = .ok (.goto (-1093), 3) := by decide +kernel
theorem dL_law_1124 : decode cL_law 1124 = .ok (.iconst 1, 1) := by decide +kernel
theorem dL_law_1125 : decode cL_law 1125 = .ok (.ireturn, 1) := by decide +kernel
abbrev vwCl : List vw_C := [(RX0, TX0, 1), (RX1, TX1, 7), (RX2, TX2, 6), (RX3, TX3, 4), (RX4, TX4, 17)]
