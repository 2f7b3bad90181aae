set_option maxRecDepth 20000 in
theorem ggX3_init_X1_init : GoodIn wsX3_init wsX1_init := goodIn_r _ [18, 19, 2, 3, 20, 21, 22, 23, 24, 25, 26, 27, 28, 29, 43, 44, 45, 46, 47, 48, 49] (by decide +kernel) (by decide +kernel)
set_option maxRecDepth 20000 in
theorem gX3_init_X1_init_n9 : GoodIn wsX3_init (wsX1_init) := ggX3_init_X1_init
set_option maxRecDepth 20000 in
theorem ggX3_init_X2_init : GoodIn wsX3_init wsX2_init := goodIn_r _ [31, 32, 2, 3, 20, 33, 34, 35, 36, 37, 38, 54, 55, 56, 57, 58, 59] (by decide +kernel) (by decide +kernel)
set_option maxRecDepth 20000 in
theorem gX3_init_X2_init_n18 : GoodIn wsX3_init (wsX2_init) := ggX3_init_X2_init
set_option maxRecDepth 20000 in
theorem ggX3_init_X0_init : GoodIn wsX3_init wsX0_init := goodIn_r _ [40, 41, 2, 3, 20, 42, 60] (by decide +kernel) (by decide +kernel)
set_option maxRecDepth 20000 in
theorem gX3_init_X0_init_n25 : GoodIn wsX3_init (wsX0_init) := ggX3_init_X0_init
theorem dX3_init_0 : decode cX3_init 0 = .ok (.aload_n 0, 1) := by decide +kernel
theorem dX3_init_1 : decode cX3_init 1 = .ok (.invokespecial 1, 3) := by decide +kernel
theorem dX3_init_4 : decode cX3_init 4 = .ok (.aload_n 0, 1) := by decide +kernel
theorem dX3_init_5 : decode cX3_init 5 = .ok (.new 7, 3) := by decide +kernel
theorem dX3_init_8 : decode cX3_init 8 = .ok (.dup, 1) := by decide +kernel
theorem dX3_init_9 : decode cX3_init 9 = .ok (.invokespecial 9, 3) := by decide +kernel
theorem dX3_init_12 : decode cX3_init 12 = .ok (.putfield 10, 3) := by decide +kernel
theorem dX3_init_15 : decode cX3_init 15 = .ok (.aload_n 0, 1) := by decide +kernel
theorem dX3_init_16 : decode cX3_init 16 = .ok (.new 16, 3) := by decide +kernel
theorem dX3_init_19 : decode cX3_init 19 = .ok (.dup, 1) := by decide +kernel
theorem dX3_init_20 : decode cX3_init 20 = .ok (.invokespecial 18, 3) := by decide +kernel
theorem dX3_init_23 : decode cX3_init 23 = .ok (.putfield 19, 3) := by decide +kernel
theorem dX3_init_26 : decode cX3_init 26 = .ok (.aload_n 0, 1) := by decide +kernel
theorem dX3_init_27 : decode cX3_init 27 = .ok (.new 23, 3) := by decide +kernel
theorem dX3_init_30 : decode cX3_init 30 = .ok (.dup, 1) := by decide +kernel
theorem dX3_init_31 : decode cX3_init 31 = .ok (.invokespecial 25, 3) := by decide +kernel
theorem dX3_init_34 : decode cX3_init 34 = .ok (.putfield 26, 3) := by decide +kernel
theorem dX3_init_37 : decode cX3_init 37 = .ok (.aload_n 0, 1) := by decide +kernel
theorem dX3_init_38 : decode cX3_init 38 = .ok (.iconst 0, 1) := by decide +kernel
theorem dX3_init_39 : decode cX3_init 39 = .ok (.putfield 30, 3) := by decide +kernel
theorem dX3_init_42 : decode cX3_init 42 = .ok (.return_, 1) := by decide +kernel
set_option maxRecDepth 20000 in
theorem ggX3_addLamp_X3_checkKind : GoodIn wsX3_addLamp wsX3_checkKind := goodIn_ca (goodIn_r _ [7, 8, 9] (by decide +kernel) (by decide +kernel)) (goodIn_sub (fun _ h => List.mem_cons_of_mem _ (List.mem_append_right _ h)) (by decide +kernel))
set_option maxRecDepth 20000 in
theorem gX3_addLamp_X3_checkKind : GoodIn wsX3_addLamp (va_wsS RX3 34 yX3_checkKind wsX3_checkKind) := goodIn_app (goodIn_of _ (by decide +kernel)) ggX3_addLamp_X3_checkKind
set_option maxRecDepth 20000 in
theorem ggX3_addLamp_X1_size : GoodIn wsX3_addLamp wsX1_size := goodIn_r _ [14, 15, 34, 35, 36, 37, 38, 39, 40] (by decide +kernel) (by decide +kernel)
set_option maxRecDepth 20000 in
theorem gX3_addLamp_X1_size : GoodIn wsX3_addLamp (wsV RX3 38 RX1 yX1_size wsX1_size) := goodIn_app (goodIn_of _ (by decide +kernel)) ggX3_addLamp_X1_size
set_option maxRecDepth 20000 in
theorem ggX3_addLamp_X1_hangNew : GoodIn wsX3_addLamp wsX1_hangNew := goodIn_r _ [19, 15, 20, 21, 22, 23, 24, 25, 13, 26, 27, 28, 29, 34, 35, 36, 37, 38, 39, 40] (by decide +kernel) (by decide +kernel)
set_option maxRecDepth 20000 in
theorem gX3_addLamp_X1_hangNew : GoodIn wsX3_addLamp (wsV RX3 49 RX1 yX1_hangNew wsX1_hangNew) := goodIn_app (goodIn_of _ (by decide +kernel)) ggX3_addLamp_X1_hangNew
theorem dX3_addLamp_0 : decode cX3_addLamp 0 = .ok (.iload_n 1, 1) := by decide +kernel
theorem dX3_addLamp_1 : decode cX3_addLamp 1 = .ok (.invokestatic 34, 3) := by decide +kernel
theorem dX3_addLamp_4 : decode cX3_addLamp 4 = .ok (.aload_n 0, 1) := by decide +kernel
theorem dX3_addLamp_5 : decode cX3_addLamp 5 = .ok (.getfield 10, 3) := by decide +kernel
theorem dX3_addLamp_8 : decode cX3_addLamp 8 = .ok (.invokevirtual 38, 3) := by decide +kernel
theorem dX3_addLamp_11 : decode cX3_addLamp 11 = .ok (.bipush 40, 2) := by decide +kernel
theorem dX3_addLamp_13 : decode cX3_addLamp 13 = .ok (.if_icmp .lt 13, 3) := by decide +kernel
theorem dX3_addLamp_16 : decode cX3_addLamp 16 = .ok (.new 42, 3) := by decide +kernel
theorem dX3_addLamp_19 : decode cX3_addLamp 19 = .ok (.dup, 1) := by decide +kernel
theorem dX3_addLamp_20 : decode cX3_addLamp 20 = .ok (.ldc 44, 2) := by decide +kernel
theorem dX3_addLamp_22 : decode cX3_addLamp 22 = .ok (.invokespecial 46, 3) := by decide +kernel
theorem dX3_addLamp_25 : decode cX3_addLamp 25 = .ok (.athrow, 1) := by decide +kernel
theorem dX3_addLamp_26 : decode cX3_addLamp 26 = .ok (.aload_n 0, 1) := by decide +kernel
theorem dX3_addLamp_27 : decode cX3_addLamp 27 = .ok (.getfield 10, 3) := by decide +kernel
theorem dX3_addLamp_30 : decode cX3_addLamp 30 = .ok (.iload_n 1, 1) := by decide +kernel
theorem dX3_addLamp_31 : decode cX3_addLamp 31 = .ok (.invokevirtual 49, 3) := by decide +kernel
theorem dX3_addLamp_34 : decode cX3_addLamp 34 = .ok (.ireturn, 1) := by decide +kernel
set_option maxRecDepth 20000 in
theorem ggX3_addMiner_X3_checkKind : GoodIn wsX3_addMiner wsX3_checkKind := goodIn_ca (goodIn_r _ [7, 8, 9] (by decide +kernel) (by decide +kernel)) (goodIn_sub (fun _ h => List.mem_cons_of_mem _ (List.mem_append_right _ h)) (by decide +kernel))
set_option maxRecDepth 20000 in
theorem gX3_addMiner_X3_checkKind : GoodIn wsX3_addMiner (va_wsS RX3 34 yX3_checkKind wsX3_checkKind) := goodIn_app (goodIn_of _ (by decide +kernel)) ggX3_addMiner_X3_checkKind
set_option maxRecDepth 20000 in
theorem ggX3_addMiner_X2_size : GoodIn wsX3_addMiner wsX2_size := goodIn_r _ [14, 15, 26, 27, 28, 29, 30, 31] (by decide +kernel) (by decide +kernel)
set_option maxRecDepth 20000 in
theorem gX3_addMiner_X2_size : GoodIn wsX3_addMiner (wsV RX3 53 RX2 yX2_size wsX2_size) := goodIn_app (goodIn_of _ (by decide +kernel)) ggX3_addMiner_X2_size
set_option maxRecDepth 20000 in
theorem ggX3_addMiner_X2_enter : GoodIn wsX3_addMiner wsX2_enter := goodIn_r _ [19, 15, 20, 21, 26, 27, 28, 29, 30, 31] (by decide +kernel) (by decide +kernel)
set_option maxRecDepth 20000 in
theorem gX3_addMiner_X2_enter : GoodIn wsX3_addMiner (wsV RX3 56 RX2 yX2_enter wsX2_enter) := goodIn_app (goodIn_of _ (by decide +kernel)) ggX3_addMiner_X2_enter
theorem dX3_addMiner_0 : decode cX3_addMiner 0 = .ok (.iload_n 1, 1) := by decide +kernel
theorem dX3_addMiner_1 : decode cX3_addMiner 1 = .ok (.invokestatic 34, 3) := by decide +kernel
theorem dX3_addMiner_4 : decode cX3_addMiner 4 = .ok (.aload_n 0, 1) := by decide +kernel
theorem dX3_addMiner_5 : decode cX3_addMiner 5 = .ok (.getfield 19, 3) := by decide +kernel
theorem dX3_addMiner_8 : decode cX3_addMiner 8 = .ok (.invokevirtual 53, 3) := by decide +kernel
theorem dX3_addMiner_11 : decode cX3_addMiner 11 = .ok (.bipush 30, 2) := by decide +kernel
theorem dX3_addMiner_13 : decode cX3_addMiner 13 = .ok (.if_icmp .lt 13, 3) := by decide +kernel
theorem dX3_addMiner_16 : decode cX3_addMiner 16 = .ok (.new 42, 3) := by decide +kernel
theorem dX3_addMiner_19 : decode cX3_addMiner 19 = .ok (.dup, 1) := by decide +kernel
theorem dX3_addMiner_20 : decode cX3_addMiner 20 = .ok (.ldc 54, 2) := by decide +kernel
theorem dX3_addMiner_22 : decode cX3_addMiner 22 = .ok (.invokespecial 46, 3) := by decide +kernel
theorem dX3_addMiner_25 : decode cX3_addMiner 25 = .ok (.athrow, 1) := by decide +kernel
theorem dX3_addMiner_26 : decode cX3_addMiner 26 = .ok (.aload_n 0, 1) := by decide +kernel
theorem dX3_addMiner_27 : decode cX3_addMiner 27 = .ok (.getfield 19, 3) := by decide +kernel
theorem dX3_addMiner_30 : decode cX3_addMiner 30 = .ok (.iload_n 1, 1) := by decide +kernel
theorem dX3_addMiner_31 : decode cX3_addMiner 31 = .ok (.invokevirtual 56, 3) := by decide +kernel
theorem dX3_addMiner_34 : decode cX3_addMiner 34 = .ok (.ireturn, 1) := by decide +kernel
set_option maxRecDepth 20000 in
theorem ggX3_test_X3_checkLamp : GoodIn wsX3_test wsX3_checkLamp := goodIn_ca (goodIn_r _ [8, 9, 10, 3, 11, 12, 13, 14, 15, 16, 40, 41, 42, 43, 44, 45, 46, 47, 48, 49, 50] (by decide +kernel) (by decide +kernel)) (goodIn_sub (fun _ h => List.mem_cons_of_mem _ (List.mem_append_right _ h)) (by decide +kernel))
set_option maxRecDepth 20000 in
theorem gX3_test_X3_checkLamp : GoodIn wsX3_test (wsV RX3 97 RX3 yX3_checkLamp wsX3_checkLamp) := goodIn_app (goodIn_of _ (by decide +kernel)) ggX3_test_X3_checkLamp
set_option maxRecDepth 20000 in
theorem ggX3_test_X1_placeAt : GoodIn wsX3_test wsX1_placeAt := goodIn_r _ [20, 21, 44, 45, 46, 47, 48, 49, 50] (by decide +kernel) (by decide +kernel)
set_option maxRecDepth 20000 in
theorem gX3_test_X1_placeAt : GoodIn wsX3_test (wsV RX3 100 RX1 yX1_placeAt wsX1_placeAt) := goodIn_app (goodIn_of _ (by decide +kernel)) ggX3_test_X1_placeAt
theorem dX3_test_0 : decode cX3_test 0 = .ok (.aload_n 0, 1) := by decide +kernel
theorem dX3_test_1 : decode cX3_test 1 = .ok (.iload_n 1, 1) := by decide +kernel
theorem dX3_test_2 : decode cX3_test 2 = .ok (.invokevirtual 97, 3) := by decide +kernel
theorem dX3_test_5 : decode cX3_test 5 = .ok (.aload_n 0, 1) := by decide +kernel
theorem dX3_test_6 : decode cX3_test 6 = .ok (.getfield 10, 3) := by decide +kernel
theorem dX3_test_9 : decode cX3_test 9 = .ok (.iload_n 1, 1) := by decide +kernel
theorem dX3_test_10 : decode cX3_test 10 = .ok (.invokevirtual 100, 3) := by decide +kernel
theorem dX3_test_13 : decode cX3_test 13 = .ok (.ifCond .eq 13, 3) := by decide +kernel
theorem dX3_test_16 : decode cX3_test 16 = .ok (.new 42, 3) := by decide +kernel
theorem dX3_test_19 : decode cX3_test 19 = .ok (.dup, 1) := by decide +kernel
theorem dX3_test_20 : decode cX3_test 20 = .ok (.ldc 103, 2) := by decide +kernel
theorem dX3_test_22 : decode cX3_test 22 = .ok (.invokespecial 46, 3) := by decide +kernel
theorem dX3_test_25 : decode cX3_test 25 = .ok (.athrow, 1) := by decide +kernel
theorem dX3_test_26 : decode cX3_test 26 = .ok (.aload_n 0, 1) := by decide +kernel
theorem dX3_test_27 : decode cX3_test 27 = .ok (.getfield 10, 3) := by decide +kernel
theorem dX3_test_30 : decode cX3_test 30 = .ok (.iload_n 1, 1) := by decide +kernel
theorem dX3_test_31 : decode cX3_test 31 = .ok (.invokevirtual 105, 3) := by decide +kernel
theorem dX3_test_34 : decode cX3_test 34 = .ok (.istore_n 2, 1) := by decide +kernel
theorem dX3_test_35 : decode cX3_test 35 = .ok (.iload_n 2, 1) := by decide +kernel
theorem dX3_test_36 : decode cX3_test 36 = .ok (.ifCond .eq 12, 3) := by decide +kernel
theorem dX3_test_39 : decode cX3_test 39 = .ok (.aload_n 0, 1) := by decide +kernel
theorem dX3_test_40 : decode cX3_test 40 = .ok (.getfield 10, 3) := by decide +kernel
theorem dX3_test_43 : decode cX3_test 43 = .ok (.iload_n 1, 1) := by decide +kernel
theorem dX3_test_44 : decode cX3_test 44 = .ok (.iconst 2, 1) := by decide +kernel
theorem dX3_test_45 : decode cX3_test 45 = .ok (.invokevirtual 75, 3) := by decide +kernel
theorem dX3_test_48 : decode cX3_test 48 = .ok (.iload_n 2, 1) := by decide +kernel
theorem dX3_test_49 : decode cX3_test 49 = .ok (.ireturn, 1) := by decide +kernel
set_option maxRecDepth 20000 in
theorem ggX3_mend_X3_checkLamp : GoodIn wsX3_mend wsX3_checkLamp := goodIn_ca (goodIn_r _ [8, 9, 10, 3, 11, 12, 13, 14, 15, 16, 44, 45, 46, 47, 48, 49, 50, 51, 52, 53, 54] (by decide +kernel) (by decide +kernel)) (goodIn_sub (fun _ h => List.mem_cons_of_mem _ (List.mem_append_right _ h)) (by decide +kernel))
set_option maxRecDepth 20000 in
theorem gX3_mend_X3_checkLamp : GoodIn wsX3_mend (wsV RX3 97 RX3 yX3_checkLamp wsX3_checkLamp) := goodIn_app (goodIn_of _ (by decide +kernel)) ggX3_mend_X3_checkLamp
set_option maxRecDepth 20000 in
theorem ggX3_mend_X1_placeAt : GoodIn wsX3_mend wsX1_placeAt := goodIn_r _ [20, 21, 48, 49, 50, 51, 52, 53, 54] (by decide +kernel) (by decide +kernel)
set_option maxRecDepth 20000 in
theorem gX3_mend_X1_placeAt : GoodIn wsX3_mend (wsV RX3 100 RX1 yX1_placeAt wsX1_placeAt) := goodIn_app (goodIn_of _ (by decide +kernel)) ggX3_mend_X1_placeAt
theorem dX3_mend_0 : decode cX3_mend 0 = .ok (.aload_n 0, 1) := by decide +kernel
theorem dX3_mend_1 : decode cX3_mend 1 = .ok (.iload_n 1, 1) := by decide +kernel
theorem dX3_mend_2 : decode cX3_mend 2 = .ok (.invokevirtual 97, 3) := by decide +kernel
theorem dX3_mend_5 : decode cX3_mend 5 = .ok (.aload_n 0, 1) := by decide +kernel
theorem dX3_mend_6 : decode cX3_mend 6 = .ok (.getfield 10, 3) := by decide +kernel
theorem dX3_mend_9 : decode cX3_mend 9 = .ok (.iload_n 1, 1) := by decide +kernel
theorem dX3_mend_10 : decode cX3_mend 10 = .ok (.invokevirtual 100, 3) := by decide +kernel
theorem dX3_mend_13 : decode cX3_mend 13 = .ok (.iconst 2, 1) := by decide +kernel
theorem dX3_mend_14 : decode cX3_mend 14 = .ok (.if_icmp .eq 13, 3) := by decide +kernel
theorem dX3_mend_17 : decode cX3_mend 17 = .ok (.new 42, 3) := by decide +kernel
theorem dX3_mend_20 : decode cX3_mend 20 = .ok (.dup, 1) := by decide +kernel
theorem dX3_mend_21 : decode cX3_mend 21 = .ok (.ldc 108, 2) := by decide +kernel
theorem dX3_mend_23 : decode cX3_mend 23 = .ok (.invokespecial 46, 3) := by decide +kernel
theorem dX3_mend_26 : decode cX3_mend 26 = .ok (.athrow, 1) := by decide +kernel
theorem dX3_mend_27 : decode cX3_mend 27 = .ok (.aload_n 0, 1) := by decide +kernel
theorem dX3_mend_28 : decode cX3_mend 28 = .ok (.getfield 10, 3) := by decide +kernel
theorem dX3_mend_31 : decode cX3_mend 31 = .ok (.iload_n 1, 1) := by decide +kernel
theorem dX3_mend_32 : decode cX3_mend 32 = .ok (.invokevirtual 110, 3) := by decide +kernel
theorem dX3_mend_35 : decode cX3_mend 35 = .ok (.aload_n 0, 1) := by decide +kernel
theorem dX3_mend_36 : decode cX3_mend 36 = .ok (.getfield 10, 3) := by decide +kernel
theorem dX3_mend_39 : decode cX3_mend 39 = .ok (.iload_n 1, 1) := by decide +kernel
theorem dX3_mend_40 : decode cX3_mend 40 = .ok (.invokevirtual 105, 3) := by decide +kernel
theorem dX3_mend_43 : decode cX3_mend 43 = .ok (.ifCond .ne 7, 3) := by decide +kernel
theorem dX3_mend_46 : decode cX3_mend 46 = .ok (.iconst 1, 1) := by decide +kernel
theorem dX3_mend_47 : decode cX3_mend 47 = .ok (.goto 4, 3) := by decide +kernel
theorem dX3_mend_50 : decode cX3_mend 50 = .ok (.iconst 0, 1) := by decide +kernel
theorem dX3_mend_51 : decode cX3_mend 51 = .ok (.istore_n 2, 1) := by decide +kernel
theorem dX3_mend_52 : decode cX3_mend 52 = .ok (.aload_n 0, 1) := by decide +kernel
theorem dX3_mend_53 : decode cX3_mend 53 = .ok (.getfield 10, 3) := by decide +kernel
theorem dX3_mend_56 : decode cX3_mend 56 = .ok (.iload_n 1, 1) := by decide +kernel
theorem dX3_mend_57 : decode cX3_mend 57 = .ok (.iload_n 2, 1) := by decide +kernel
theorem dX3_mend_58 : decode cX3_mend 58 = .ok (.ifCond .eq 7, 3) := by decide +kernel
theorem dX3_mend_61 : decode cX3_mend 61 = .ok (.iconst 0, 1) := by decide +kernel
theorem dX3_mend_62 : decode cX3_mend 62 = .ok (.goto 4, 3) := by decide +kernel
theorem dX3_mend_65 : decode cX3_mend 65 = .ok (.iconst 3, 1) := by decide +kernel
theorem dX3_mend_66 : decode cX3_mend 66 = .ok (.invokevirtual 75, 3) := by decide +kernel
theorem dX3_mend_69 : decode cX3_mend 69 = .ok (.iload_n 2, 1) := by decide +kernel
theorem dX3_mend_70 : decode cX3_mend 70 = .ok (.ireturn, 1) := by decide +kernel
set_option maxRecDepth 20000 in
theorem ggX3_below_X2_onBoard : GoodIn wsX3_below wsX2_onBoard := goodIn_r _ [6, 7, 8, 13, 14, 15, 16, 17, 18] (by decide +kernel) (by decide +kernel)
set_option maxRecDepth 20000 in
theorem gX3_below_X2_onBoard : GoodIn wsX3_below (wsV RX3 121 RX2 yX2_onBoard wsX2_onBoard) := goodIn_app (goodIn_of _ (by decide +kernel)) ggX3_below_X2_onBoard
theorem dX3_below_0 : decode cX3_below 0 = .ok (.aload_n 0, 1) := by decide +kernel
theorem dX3_below_1 : decode cX3_below 1 = .ok (.getfield 19, 3) := by decide +kernel
theorem dX3_below_4 : decode cX3_below 4 = .ok (.invokevirtual 121, 3) := by decide +kernel
theorem dX3_below_7 : decode cX3_below 7 = .ok (.ireturn, 1) := by decide +kernel
set_option maxRecDepth 20000 in
theorem ggX3_board_X2_onBoardAt : GoodIn wsX3_board wsX2_onBoardAt := goodIn_r _ [6, 7, 8, 9, 10, 11, 5, 12, 13, 18, 19, 20, 21, 22, 23] (by decide +kernel) (by decide +kernel)
set_option maxRecDepth 20000 in
theorem gX3_board_X2_onBoardAt : GoodIn wsX3_board (wsV RX3 124 RX2 yX2_onBoardAt wsX2_onBoardAt) := goodIn_app (goodIn_of _ (by decide +kernel)) ggX3_board_X2_onBoardAt
theorem dX3_board_0 : decode cX3_board 0 = .ok (.aload_n 0, 1) := by decide +kernel
theorem dX3_board_1 : decode cX3_board 1 = .ok (.getfield 19, 3) := by decide +kernel
theorem dX3_board_4 : decode cX3_board 4 = .ok (.iload_n 1, 1) := by decide +kernel
theorem dX3_board_5 : decode cX3_board 5 = .ok (.invokevirtual 124, 3) := by decide +kernel
theorem dX3_board_8 : decode cX3_board 8 = .ok (.ireturn, 1) := by decide +kernel
set_option maxRecDepth 20000 in
theorem ggX3_lampOf_X3_checkMiner : GoodIn wsX3_lampOf wsX3_checkMiner := goodIn_ca (goodIn_r _ [6, 7, 8, 1, 9, 10, 11, 12, 13, 14, 20, 21, 22, 23, 24, 25, 26, 27, 28, 29] (by decide +kernel) (by decide +kernel)) (goodIn_sub (fun _ h => List.mem_cons_of_mem _ (List.mem_append_right _ h)) (by decide +kernel))
set_option maxRecDepth 20000 in
theorem gX3_lampOf_X3_checkMiner : GoodIn wsX3_lampOf (wsV RX3 59 RX3 yX3_checkMiner wsX3_checkMiner) := goodIn_app (goodIn_of _ (by decide +kernel)) ggX3_lampOf_X3_checkMiner
set_option maxRecDepth 20000 in
theorem ggX3_lampOf_X2_lampHeld : GoodIn wsX3_lampOf wsX2_lampHeld := goodIn_r _ [18, 19, 24, 25, 26, 27, 28, 29] (by decide +kernel) (by decide +kernel)
set_option maxRecDepth 20000 in
theorem gX3_lampOf_X2_lampHeld : GoodIn wsX3_lampOf (wsV RX3 62 RX2 yX2_lampHeld wsX2_lampHeld) := goodIn_app (goodIn_of _ (by decide +kernel)) ggX3_lampOf_X2_lampHeld
theorem dX3_lampOf_0 : decode cX3_lampOf 0 = .ok (.aload_n 0, 1) := by decide +kernel
theorem dX3_lampOf_1 : decode cX3_lampOf 1 = .ok (.iload_n 1, 1) := by decide +kernel
theorem dX3_lampOf_2 : decode cX3_lampOf 2 = .ok (.invokevirtual 59, 3) := by decide +kernel
theorem dX3_lampOf_5 : decode cX3_lampOf 5 = .ok (.aload_n 0, 1) := by decide +kernel
theorem dX3_lampOf_6 : decode cX3_lampOf 6 = .ok (.getfield 19, 3) := by decide +kernel
theorem dX3_lampOf_9 : decode cX3_lampOf 9 = .ok (.iload_n 1, 1) := by decide +kernel
theorem dX3_lampOf_10 : decode cX3_lampOf 10 = .ok (.invokevirtual 62, 3) := by decide +kernel
theorem dX3_lampOf_13 : decode cX3_lampOf 13 = .ok (.ireturn, 1) := by decide +kernel
set_option maxRecDepth 20000 in
theorem ggX3_hoursBelow_X3_checkMiner : GoodIn wsX3_hoursBelow wsX3_checkMiner := goodIn_ca (goodIn_r _ [7, 8, 9, 1, 10, 11, 12, 13, 14, 15, 26, 27, 28, 29, 30, 31, 32, 33, 34, 35] (by decide +kernel) (by decide +kernel)) (goodIn_sub (fun _ h => List.mem_cons_of_mem _ (List.mem_append_right _ h)) (by decide +kernel))
set_option maxRecDepth 20000 in
theorem gX3_hoursBelow_X3_checkMiner : GoodIn wsX3_hoursBelow (wsV RX3 59 RX3 yX3_checkMiner wsX3_checkMiner) := goodIn_app (goodIn_of _ (by decide +kernel)) ggX3_hoursBelow_X3_checkMiner
set_option maxRecDepth 20000 in
theorem ggX3_hoursBelow_X2_lampHeld : GoodIn wsX3_hoursBelow wsX2_lampHeld := goodIn_r _ [19, 20, 30, 31, 32, 33, 34, 35] (by decide +kernel) (by decide +kernel)
set_option maxRecDepth 20000 in
theorem gX3_hoursBelow_X2_lampHeld : GoodIn wsX3_hoursBelow (wsV RX3 62 RX2 yX2_lampHeld wsX2_lampHeld) := goodIn_app (goodIn_of _ (by decide +kernel)) ggX3_hoursBelow_X2_lampHeld
set_option maxRecDepth 20000 in
theorem ggX3_hoursBelow_X2_hungAt : GoodIn wsX3_hoursBelow wsX2_hungAt := goodIn_r _ [24, 25, 30, 31, 32, 33, 34, 35] (by decide +kernel) (by decide +kernel)
set_option maxRecDepth 20000 in
theorem gX3_hoursBelow_X2_hungAt : GoodIn wsX3_hoursBelow (wsV RX3 85 RX2 yX2_hungAt wsX2_hungAt) := goodIn_app (goodIn_of _ (by decide +kernel)) ggX3_hoursBelow_X2_hungAt
theorem dX3_hoursBelow_0 : decode cX3_hoursBelow 0 = .ok (.aload_n 0, 1) := by decide +kernel
theorem dX3_hoursBelow_1 : decode cX3_hoursBelow 1 = .ok (.iload_n 1, 1) := by decide +kernel
theorem dX3_hoursBelow_2 : decode cX3_hoursBelow 2 = .ok (.invokevirtual 59, 3) := by decide +kernel
theorem dX3_hoursBelow_5 : decode cX3_hoursBelow 5 = .ok (.aload_n 0, 1) := by decide +kernel
theorem dX3_hoursBelow_6 : decode cX3_hoursBelow 6 = .ok (.getfield 19, 3) := by decide +kernel
theorem dX3_hoursBelow_9 : decode cX3_hoursBelow 9 = .ok (.iload_n 1, 1) := by decide +kernel
theorem dX3_hoursBelow_10 : decode cX3_hoursBelow 10 = .ok (.invokevirtual 62, 3) := by decide +kernel
theorem dX3_hoursBelow_13 : decode cX3_hoursBelow 13 = .ok (.iconst (-1), 1) := by decide +kernel
theorem dX3_hoursBelow_14 : decode cX3_hoursBelow 14 = .ok (.if_icmp .ne 7, 3) := by decide +kernel
theorem dX3_hoursBelow_17 : decode cX3_hoursBelow 17 = .ok (.iconst (-1), 1) := by decide +kernel
theorem dX3_hoursBelow_18 : decode cX3_hoursBelow 18 = .ok (.goto 16, 3) := by decide +kernel
theorem dX3_hoursBelow_21 : decode cX3_hoursBelow 21 = .ok (.aload_n 0, 1) := by decide +kernel
theorem dX3_hoursBelow_22 : decode cX3_hoursBelow 22 = .ok (.getfield 30, 3) := by decide +kernel
theorem dX3_hoursBelow_25 : decode cX3_hoursBelow 25 = .ok (.aload_n 0, 1) := by decide +kernel
theorem dX3_hoursBelow_26 : decode cX3_hoursBelow 26 = .ok (.getfield 19, 3) := by decide +kernel
theorem dX3_hoursBelow_29 : decode cX3_hoursBelow 29 = .ok (.iload_n 1, 1) := by decide +kernel
theorem dX3_hoursBelow_30 : decode cX3_hoursBelow 30 = .ok (.invokevirtual 85, 3) := by decide +kernel
theorem dX3_hoursBelow_33 : decode cX3_hoursBelow 33 = .ok (.isub, 1) := by decide +kernel
theorem dX3_hoursBelow_34 : decode cX3_hoursBelow 34 = .ok (.ireturn, 1) := by decide +kernel
set_option maxRecDepth 20000 in
theorem ggX3_placeOf_X3_checkLamp : GoodIn wsX3_placeOf wsX3_checkLamp := goodIn_ca (goodIn_r _ [6, 7, 8, 1, 9, 10, 11, 12, 13, 14, 20, 21, 22, 23, 24, 25, 26, 27, 28, 29, 30] (by decide +kernel) (by decide +kernel)) (goodIn_sub (fun _ h => List.mem_cons_of_mem _ (List.mem_append_right _ h)) (by decide +kernel))
set_option maxRecDepth 20000 in
theorem gX3_placeOf_X3_checkLamp : GoodIn wsX3_placeOf (wsV RX3 97 RX3 yX3_checkLamp wsX3_checkLamp) := goodIn_app (goodIn_of _ (by decide +kernel)) ggX3_placeOf_X3_checkLamp
set_option maxRecDepth 20000 in
theorem ggX3_placeOf_X1_placeAt : GoodIn wsX3_placeOf wsX1_placeAt := goodIn_r _ [18, 19, 24, 25, 26, 27, 28, 29, 30] (by decide +kernel) (by decide +kernel)
set_option maxRecDepth 20000 in
theorem gX3_placeOf_X1_placeAt : GoodIn wsX3_placeOf (wsV RX3 100 RX1 yX1_placeAt wsX1_placeAt) := goodIn_app (goodIn_of _ (by decide +kernel)) ggX3_placeOf_X1_placeAt
theorem dX3_placeOf_0 : decode cX3_placeOf 0 = .ok (.aload_n 0, 1) := by decide +kernel
theorem dX3_placeOf_1 : decode cX3_placeOf 1 = .ok (.iload_n 1, 1) := by decide +kernel
theorem dX3_placeOf_2 : decode cX3_placeOf 2 = .ok (.invokevirtual 97, 3) := by decide +kernel
theorem dX3_placeOf_5 : decode cX3_placeOf 5 = .ok (.aload_n 0, 1) := by decide +kernel
theorem dX3_placeOf_6 : decode cX3_placeOf 6 = .ok (.getfield 10, 3) := by decide +kernel
theorem dX3_placeOf_9 : decode cX3_placeOf 9 = .ok (.iload_n 1, 1) := by decide +kernel
theorem dX3_placeOf_10 : decode cX3_placeOf 10 = .ok (.invokevirtual 100, 3) := by decide +kernel
theorem dX3_placeOf_13 : decode cX3_placeOf 13 = .ok (.ireturn, 1) := by decide +kernel
set_option maxRecDepth 20000 in
theorem ggX3_chargeOf_X3_checkLamp : GoodIn wsX3_chargeOf wsX3_checkLamp := goodIn_ca (goodIn_r _ [6, 7, 8, 1, 9, 10, 11, 12, 13, 14, 20, 21, 22, 23, 24, 25, 26, 27, 28, 29, 30] (by decide +kernel) (by decide +kernel)) (goodIn_sub (fun _ h => List.mem_cons_of_mem _ (List.mem_append_right _ h)) (by decide +kernel))
set_option maxRecDepth 20000 in
theorem gX3_chargeOf_X3_checkLamp : GoodIn wsX3_chargeOf (wsV RX3 97 RX3 yX3_checkLamp wsX3_checkLamp) := goodIn_app (goodIn_of _ (by decide +kernel)) ggX3_chargeOf_X3_checkLamp
set_option maxRecDepth 20000 in
theorem ggX3_chargeOf_X1_chargeAt : GoodIn wsX3_chargeOf wsX1_chargeAt := goodIn_r _ [18, 19, 24, 25, 26, 27, 28, 29, 30] (by decide +kernel) (by decide +kernel)
set_option maxRecDepth 20000 in
theorem gX3_chargeOf_X1_chargeAt : GoodIn wsX3_chargeOf (wsV RX3 127 RX1 yX1_chargeAt wsX1_chargeAt) := goodIn_app (goodIn_of _ (by decide +kernel)) ggX3_chargeOf_X1_chargeAt
theorem dX3_chargeOf_0 : decode cX3_chargeOf 0 = .ok (.aload_n 0, 1) := by decide +kernel
theorem dX3_chargeOf_1 : decode cX3_chargeOf 1 = .ok (.iload_n 1, 1) := by decide +kernel
theorem dX3_chargeOf_2 : decode cX3_chargeOf 2 = .ok (.invokevirtual 97, 3) := by decide +kernel
theorem dX3_chargeOf_5 : decode cX3_chargeOf 5 = .ok (.aload_n 0, 1) := by decide +kernel
theorem dX3_chargeOf_6 : decode cX3_chargeOf 6 = .ok (.getfield 10, 3) := by decide +kernel
theorem dX3_chargeOf_9 : decode cX3_chargeOf 9 = .ok (.iload_n 1, 1) := by decide +kernel
theorem dX3_chargeOf_10 : decode cX3_chargeOf 10 = .ok (.invokevirtual 127, 3) := by decide +kernel
theorem dX3_chargeOf_13 : decode cX3_chargeOf 13 = .ok (.dreturn, 1) := by decide +kernel
set_option maxRecDepth 20000 in
theorem ggX3_capacityOf_X3_checkLamp : GoodIn wsX3_capacityOf wsX3_checkLamp := goodIn_ca (goodIn_r _ [6, 7, 8, 1, 9, 10, 11, 12, 13, 14, 20, 21, 22, 23, 24, 25, 26, 27, 28, 29, 30] (by decide +kernel) (by decide +kernel)) (goodIn_sub (fun _ h => List.mem_cons_of_mem _ (List.mem_append_right _ h)) (by decide +kernel))
set_option maxRecDepth 20000 in
theorem gX3_capacityOf_X3_checkLamp : GoodIn wsX3_capacityOf (wsV RX3 97 RX3 yX3_checkLamp wsX3_checkLamp) := goodIn_app (goodIn_of _ (by decide +kernel)) ggX3_capacityOf_X3_checkLamp
set_option maxRecDepth 20000 in
theorem ggX3_capacityOf_X1_capacityAt : GoodIn wsX3_capacityOf wsX1_capacityAt := goodIn_r _ [18, 19, 24, 25, 26, 27, 28, 29, 30] (by decide +kernel) (by decide +kernel)
set_option maxRecDepth 20000 in
theorem gX3_capacityOf_X1_capacityAt : GoodIn wsX3_capacityOf (wsV RX3 131 RX1 yX1_capacityAt wsX1_capacityAt) := goodIn_app (goodIn_of _ (by decide +kernel)) ggX3_capacityOf_X1_capacityAt
theorem dX3_capacityOf_0 : decode cX3_capacityOf 0 = .ok (.aload_n 0, 1) := by decide +kernel
theorem dX3_capacityOf_1 : decode cX3_capacityOf 1 = .ok (.iload_n 1, 1) := by decide +kernel
theorem dX3_capacityOf_2 : decode cX3_capacityOf 2 = .ok (.invokevirtual 97, 3) := by decide +kernel
theorem dX3_capacityOf_5 : decode cX3_capacityOf 5 = .ok (.aload_n 0, 1) := by decide +kernel
theorem dX3_capacityOf_6 : decode cX3_capacityOf 6 = .ok (.getfield 10, 3) := by decide +kernel
theorem dX3_capacityOf_9 : decode cX3_capacityOf 9 = .ok (.iload_n 1, 1) := by decide +kernel
theorem dX3_capacityOf_10 : decode cX3_capacityOf 10 = .ok (.invokevirtual 131, 3) := by decide +kernel
theorem dX3_capacityOf_13 : decode cX3_capacityOf 13 = .ok (.dreturn, 1) := by decide +kernel
set_option maxRecDepth 20000 in
theorem ggX3_turnsOf_X3_checkLamp : GoodIn wsX3_turnsOf wsX3_checkLamp := goodIn_ca (goodIn_r _ [6, 7, 8, 1, 9, 10, 11, 12, 13, 14, 20, 21, 22, 23, 24, 25, 26, 27, 28, 29, 30] (by decide +kernel) (by decide +kernel)) (goodIn_sub (fun _ h => List.mem_cons_of_mem _ (List.mem_append_right _ h)) (by decide +kernel))
set_option maxRecDepth 20000 in
theorem gX3_turnsOf_X3_checkLamp : GoodIn wsX3_turnsOf (wsV RX3 97 RX3 yX3_checkLamp wsX3_checkLamp) := goodIn_app (goodIn_of _ (by decide +kernel)) ggX3_turnsOf_X3_checkLamp
set_option maxRecDepth 20000 in
theorem ggX3_turnsOf_X1_turnsAt : GoodIn wsX3_turnsOf wsX1_turnsAt := goodIn_r _ [18, 19, 24, 25, 26, 27, 28, 29, 30] (by decide +kernel) (by decide +kernel)
set_option maxRecDepth 20000 in
theorem gX3_turnsOf_X1_turnsAt : GoodIn wsX3_turnsOf (wsV RX3 134 RX1 yX1_turnsAt wsX1_turnsAt) := goodIn_app (goodIn_of _ (by decide +kernel)) ggX3_turnsOf_X1_turnsAt
theorem dX3_turnsOf_0 : decode cX3_turnsOf 0 = .ok (.aload_n 0, 1) := by decide +kernel
theorem dX3_turnsOf_1 : decode cX3_turnsOf 1 = .ok (.iload_n 1, 1) := by decide +kernel
theorem dX3_turnsOf_2 : decode cX3_turnsOf 2 = .ok (.invokevirtual 97, 3) := by decide +kernel
theorem dX3_turnsOf_5 : decode cX3_turnsOf 5 = .ok (.aload_n 0, 1) := by decide +kernel
theorem dX3_turnsOf_6 : decode cX3_turnsOf 6 = .ok (.getfield 10, 3) := by decide +kernel
theorem dX3_turnsOf_9 : decode cX3_turnsOf 9 = .ok (.iload_n 1, 1) := by decide +kernel
theorem dX3_turnsOf_10 : decode cX3_turnsOf 10 = .ok (.invokevirtual 134, 3) := by decide +kernel
theorem dX3_turnsOf_13 : decode cX3_turnsOf 13 = .ok (.ireturn, 1) := by decide +kernel
set_option maxRecDepth 20000 in
theorem ggX3_ready_X3_checkKind : GoodIn wsX3_ready wsX3_checkKind := goodIn_ca (goodIn_r _ [5, 6, 7] (by decide +kernel) (by decide +kernel)) (goodIn_sub (fun _ h => List.mem_cons_of_mem _ (List.mem_append_right _ h)) (by decide +kernel))
set_option maxRecDepth 20000 in
theorem gX3_ready_X3_checkKind : GoodIn wsX3_ready (va_wsS RX3 34 yX3_checkKind wsX3_checkKind) := goodIn_app (goodIn_of _ (by decide +kernel)) ggX3_ready_X3_checkKind
set_option maxRecDepth 20000 in
theorem ggX3_ready_X1_countIssuable : GoodIn wsX3_ready wsX1_countIssuable := goodIn_r _ [12, 13, 14, 15, 16, 11, 17, 18, 19, 20, 21, 26, 27, 28, 29, 30, 31, 32] (by decide +kernel) (by decide +kernel)
set_option maxRecDepth 20000 in
theorem gX3_ready_X1_countIssuable : GoodIn wsX3_ready (wsV RX3 137 RX1 yX1_countIssuable wsX1_countIssuable) := goodIn_app (goodIn_of _ (by decide +kernel)) ggX3_ready_X1_countIssuable
theorem dX3_ready_0 : decode cX3_ready 0 = .ok (.iload_n 1, 1) := by decide +kernel
theorem dX3_ready_1 : decode cX3_ready 1 = .ok (.invokestatic 34, 3) := by decide +kernel
theorem dX3_ready_4 : decode cX3_ready 4 = .ok (.aload_n 0, 1) := by decide +kernel
theorem dX3_ready_5 : decode cX3_ready 5 = .ok (.getfield 10, 3) := by decide +kernel
theorem dX3_ready_8 : decode cX3_ready 8 = .ok (.iload_n 1, 1) := by decide +kernel
theorem dX3_ready_9 : decode cX3_ready 9 = .ok (.invokevirtual 137, 3) := by decide +kernel
theorem dX3_ready_12 : decode cX3_ready 12 = .ok (.ireturn, 1) := by decide +kernel
set_option maxRecDepth 20000 in
theorem ggX3_spares_X2_size : GoodIn wsX3_spares wsX2_size := goodIn_r _ [7, 8, 29, 30, 31, 32, 33, 34] (by decide +kernel) (by decide +kernel)
set_option maxRecDepth 20000 in
theorem gX3_spares_X2_size : GoodIn wsX3_spares (wsV RX3 53 RX2 yX2_size wsX2_size) := goodIn_app (goodIn_of _ (by decide +kernel)) ggX3_spares_X2_size
set_option maxRecDepth 20000 in
theorem ggX3_spares_X2_lampHeld : GoodIn wsX3_spares wsX2_lampHeld := goodIn_r _ [12, 13, 29, 30, 31, 32, 33, 34] (by decide +kernel) (by decide +kernel)
set_option maxRecDepth 20000 in
theorem gX3_spares_X2_lampHeld : GoodIn wsX3_spares (wsV RX3 62 RX2 yX2_lampHeld wsX2_lampHeld) := goodIn_app (goodIn_of _ (by decide +kernel)) ggX3_spares_X2_lampHeld
set_option maxRecDepth 20000 in
theorem ggX3_spares_X1_kindAt : GoodIn wsX3_spares wsX1_kindAt := goodIn_r _ [18, 19, 35, 36, 37, 38, 39, 40, 41] (by decide +kernel) (by decide +kernel)
set_option maxRecDepth 20000 in
theorem gX3_spares_X1_kindAt : GoodIn wsX3_spares (wsV RX3 140 RX1 yX1_kindAt wsX1_kindAt) := goodIn_app (goodIn_of _ (by decide +kernel)) ggX3_spares_X1_kindAt
set_option maxRecDepth 20000 in
theorem ggX3_spares_X2_kindAt : GoodIn wsX3_spares wsX2_kindAt := goodIn_r _ [23, 24, 29, 30, 31, 32, 33, 34] (by decide +kernel) (by decide +kernel)
set_option maxRecDepth 20000 in
theorem gX3_spares_X2_kindAt : GoodIn wsX3_spares (wsV RX3 67 RX2 yX2_kindAt wsX2_kindAt) := goodIn_app (goodIn_of _ (by decide +kernel)) ggX3_spares_X2_kindAt
theorem dX3_spares_0 : decode cX3_spares 0 = .ok (.iconst 0, 1) := by decide +kernel
theorem dX3_spares_1 : decode cX3_spares 1 = .ok (.istore_n 1, 1) := by decide +kernel
theorem dX3_spares_2 : decode cX3_spares 2 = .ok (.iconst 0, 1) := by decide +kernel
theorem dX3_spares_3 : decode cX3_spares 3 = .ok (.istore_n 2, 1) := by decide +kernel
theorem dX3_spares_4 : decode cX3_spares 4 = .ok (.iload_n 2, 1) := by decide +kernel
theorem dX3_spares_5 : decode cX3_spares 5 = .ok (.aload_n 0, 1) := by decide +kernel
theorem dX3_spares_6 : decode cX3_spares 6 = .ok (.getfield 19, 3) := by decide +kernel
theorem dX3_spares_9 : decode cX3_spares 9 = .ok (.invokevirtual 53, 3) := by decide +kernel
theorem dX3_spares_12 : decode cX3_spares 12 = .ok (.if_icmp .ge 45, 3) := by decide +kernel
theorem dX3_spares_15 : decode cX3_spares 15 = .ok (.aload_n 0, 1) := by decide +kernel
theorem dX3_spares_16 : decode cX3_spares 16 = .ok (.getfield 19, 3) := by decide +kernel
theorem dX3_spares_19 : decode cX3_spares 19 = .ok (.iload_n 2, 1) := by decide +kernel
theorem dX3_spares_20 : decode cX3_spares 20 = .ok (.invokevirtual 62, 3) := by decide +kernel
theorem dX3_spares_23 : decode cX3_spares 23 = .ok (.istore_n 3, 1) := by decide +kernel
theorem dX3_spares_24 : decode cX3_spares 24 = .ok (.iload_n 3, 1) := by decide +kernel
theorem dX3_spares_25 : decode cX3_spares 25 = .ok (.iconst (-1), 1) := by decide +kernel
theorem dX3_spares_26 : decode cX3_spares 26 = .ok (.if_icmp .eq 25, 3) := by decide +kernel
theorem dX3_spares_29 : decode cX3_spares 29 = .ok (.aload_n 0, 1) := by decide +kernel
theorem dX3_spares_30 : decode cX3_spares 30 = .ok (.getfield 10, 3) := by decide +kernel
theorem dX3_spares_33 : decode cX3_spares 33 = .ok (.iload_n 3, 1) := by decide +kernel
theorem dX3_spares_34 : decode cX3_spares 34 = .ok (.invokevirtual 140, 3) := by decide +kernel
theorem dX3_spares_37 : decode cX3_spares 37 = .ok (.aload_n 0, 1) := by decide +kernel
theorem dX3_spares_38 : decode cX3_spares 38 = .ok (.getfield 19, 3) := by decide +kernel
theorem dX3_spares_41 : decode cX3_spares 41 = .ok (.iload_n 2, 1) := by decide +kernel
theorem dX3_spares_42 : decode cX3_spares 42 = .ok (.invokevirtual 67, 3) := by decide +kernel
theorem dX3_spares_45 : decode cX3_spares 45 = .ok (.if_icmp .le 6, 3) := by decide +kernel
theorem dX3_spares_48 : decode cX3_spares 48 = .ok (.iinc 1 1, 3) := by decide +kernel
theorem dX3_spares_51 : decode cX3_spares 51 = .ok (.iinc 2 1, 3) := by decide +kernel
theorem dX3_spares_54 : decode cX3_spares 54 = .ok (.goto (-50), 3) := by decide +kernel
theorem dX3_spares_57 : decode cX3_spares 57 = .ok (.iload_n 1, 1) := by decide +kernel
theorem dX3_spares_58 : decode cX3_spares 58 = .ok (.ireturn, 1) := by decide +kernel
set_option maxRecDepth 20000 in
theorem ggX3_alarm_X0_lastingAt : GoodIn wsX3_alarm wsX0_lastingAt := goodIn_r _ [6, 7, 8, 9, 10, 5, 11, 12, 13, 14, 15, 20] (by decide +kernel) (by decide +kernel)
set_option maxRecDepth 20000 in
theorem gX3_alarm_X0_lastingAt : GoodIn wsX3_alarm (wsV RX3 141 RX0 yX0_lastingAt wsX0_lastingAt) := goodIn_app (goodIn_of _ (by decide +kernel)) ggX3_alarm_X0_lastingAt
theorem dX3_alarm_0 : decode cX3_alarm 0 = .ok (.aload_n 0, 1) := by decide +kernel
theorem dX3_alarm_1 : decode cX3_alarm 1 = .ok (.getfield 26, 3) := by decide +kernel
theorem dX3_alarm_4 : decode cX3_alarm 4 = .ok (.iload_n 1, 1) := by decide +kernel
theorem dX3_alarm_5 : decode cX3_alarm 5 = .ok (.invokevirtual 141, 3) := by decide +kernel
theorem dX3_alarm_8 : decode cX3_alarm 8 = .ok (.ireturn, 1) := by decide +kernel
set_option maxRecDepth 20000 in
theorem ggX3_lightLeft_X3_checkMiner : GoodIn wsX3_lightLeft wsX3_checkMiner := goodIn_ca (goodIn_r _ [7, 8, 9, 1, 10, 11, 12, 13, 14, 15, 27, 28, 29, 30, 31, 32, 33, 34, 35, 36] (by decide +kernel) (by decide +kernel)) (goodIn_sub (fun _ h => List.mem_cons_of_mem _ (List.mem_append_right _ h)) (by decide +kernel))
set_option maxRecDepth 20000 in
theorem gX3_lightLeft_X3_checkMiner : GoodIn wsX3_lightLeft (wsV RX3 59 RX3 yX3_checkMiner wsX3_checkMiner) := goodIn_app (goodIn_of _ (by decide +kernel)) ggX3_lightLeft_X3_checkMiner
set_option maxRecDepth 20000 in
theorem ggX3_lightLeft_X2_lampHeld : GoodIn wsX3_lightLeft wsX2_lampHeld := goodIn_r _ [19, 20, 31, 32, 33, 34, 35, 36] (by decide +kernel) (by decide +kernel)
set_option maxRecDepth 20000 in
theorem gX3_lightLeft_X2_lampHeld : GoodIn wsX3_lightLeft (wsV RX3 62 RX2 yX2_lampHeld wsX2_lampHeld) := goodIn_app (goodIn_of _ (by decide +kernel)) ggX3_lightLeft_X2_lampHeld
set_option maxRecDepth 20000 in
theorem ggX3_lightLeft_X1_chargeAt : GoodIn wsX3_lightLeft wsX1_chargeAt := goodIn_r _ [25, 26, 37, 38, 39, 40, 41, 42, 43] (by decide +kernel) (by decide +kernel)
set_option maxRecDepth 20000 in
theorem gX3_lightLeft_X1_chargeAt : GoodIn wsX3_lightLeft (wsV RX3 127 RX1 yX1_chargeAt wsX1_chargeAt) := goodIn_app (goodIn_of _ (by decide +kernel)) ggX3_lightLeft_X1_chargeAt
theorem dX3_lightLeft_0 : decode cX3_lightLeft 0 = .ok (.aload_n 0, 1) := by decide +kernel
theorem dX3_lightLeft_1 : decode cX3_lightLeft 1 = .ok (.iload_n 1, 1) := by decide +kernel
theorem dX3_lightLeft_2 : decode cX3_lightLeft 2 = .ok (.invokevirtual 59, 3) := by decide +kernel
theorem dX3_lightLeft_5 : decode cX3_lightLeft 5 = .ok (.aload_n 0, 1) := by decide +kernel
theorem dX3_lightLeft_6 : decode cX3_lightLeft 6 = .ok (.getfield 19, 3) := by decide +kernel
theorem dX3_lightLeft_9 : decode cX3_lightLeft 9 = .ok (.iload_n 1, 1) := by decide +kernel
theorem dX3_lightLeft_10 : decode cX3_lightLeft 10 = .ok (.invokevirtual 62, 3) := by decide +kernel
theorem dX3_lightLeft_13 : decode cX3_lightLeft 13 = .ok (.istore_n 2, 1) := by decide +kernel
theorem dX3_lightLeft_14 : decode cX3_lightLeft 14 = .ok (.iload_n 2, 1) := by decide +kernel
theorem dX3_lightLeft_15 : decode cX3_lightLeft 15 = .ok (.iconst (-1), 1) := by decide +kernel
theorem dX3_lightLeft_16 : decode cX3_lightLeft 16 = .ok (.if_icmp .ne 7, 3) := by decide +kernel
theorem dX3_lightLeft_19 : decode cX3_lightLeft 19 = .ok (.iconst (-1), 1) := by decide +kernel
theorem dX3_lightLeft_20 : decode cX3_lightLeft 20 = .ok (.goto 12, 3) := by decide +kernel
theorem dX3_lightLeft_23 : decode cX3_lightLeft 23 = .ok (.aload_n 0, 1) := by decide +kernel
theorem dX3_lightLeft_24 : decode cX3_lightLeft 24 = .ok (.getfield 10, 3) := by decide +kernel
theorem dX3_lightLeft_27 : decode cX3_lightLeft 27 = .ok (.iload_n 2, 1) := by decide +kernel
theorem dX3_lightLeft_28 : decode cX3_lightLeft 28 = .ok (.invokevirtual 127, 3) := by decide +kernel
theorem dX3_lightLeft_31 : decode cX3_lightLeft 31 = .ok (.d2i, 1) := by decide +kernel
theorem dX3_lightLeft_32 : decode cX3_lightLeft 32 = .ok (.ireturn, 1) := by decide +kernel
set_option maxRecDepth 20000 in
theorem ggX3_rackCharge_X1_hundredthsOnRack : GoodIn wsX3_rackCharge wsX1_hundredthsOnRack := goodIn_r _ [6, 7, 8, 9, 10, 11, 16, 17, 18, 19, 20, 21, 22] (by decide +kernel) (by decide +kernel)
set_option maxRecDepth 20000 in
theorem gX3_rackCharge_X1_hundredthsOnRack : GoodIn wsX3_rackCharge (wsV RX3 144 RX1 yX1_hundredthsOnRack wsX1_hundredthsOnRack) := goodIn_app (goodIn_of _ (by decide +kernel)) ggX3_rackCharge_X1_hundredthsOnRack
theorem dX3_rackCharge_0 : decode cX3_rackCharge 0 = .ok (.aload_n 0, 1) := by decide +kernel
theorem dX3_rackCharge_1 : decode cX3_rackCharge 1 = .ok (.getfield 10, 3) := by decide +kernel
theorem dX3_rackCharge_4 : decode cX3_rackCharge 4 = .ok (.invokevirtual 144, 3) := by decide +kernel
theorem dX3_rackCharge_7 : decode cX3_rackCharge 7 = .ok (.ireturn, 1) := by decide +kernel
theorem dX3_checkKind_0 : decode cX3_checkKind 0 = .ok (.iload_n 0, 1) := by decide +kernel
theorem dX3_checkKind_1 : decode cX3_checkKind 1 = .ok (.ifCond .lt 8, 3) := by decide +kernel
theorem dX3_checkKind_4 : decode cX3_checkKind 4 = .ok (.iload_n 0, 1) := by decide +kernel
theorem dX3_checkKind_5 : decode cX3_checkKind 5 = .ok (.iconst 3, 1) := by decide +kernel
theorem dX3_checkKind_6 : decode cX3_checkKind 6 = .ok (.if_icmp .lt 13, 3) := by decide +kernel
theorem dX3_checkKind_9 : decode cX3_checkKind 9 = .ok (.new 113, 3) := by decide +kernel
theorem dX3_checkKind_12 : decode cX3_checkKind 12 = .ok (.dup, 1) := by decide +kernel
theorem dX3_checkKind_13 : decode cX3_checkKind 13 = .ok (.ldc 147, 2) := by decide +kernel
theorem dX3_checkKind_15 : decode cX3_checkKind 15 = .ok (.invokespecial 117, 3) := by decide +kernel
theorem dX3_checkKind_18 : decode cX3_checkKind 18 = .ok (.athrow, 1) := by decide +kernel
theorem dX3_checkKind_19 : decode cX3_checkKind 19 = .ok (.return_, 1) := by decide +kernel
set_option maxRecDepth 20000 in
theorem ggX3_checkMiner_X2_size : GoodIn wsX3_checkMiner wsX2_size := goodIn_r _ [8, 9, 14, 15, 16, 17, 18, 19] (by decide +kernel) (by decide +kernel)
set_option maxRecDepth 20000 in
theorem gX3_checkMiner_X2_size : GoodIn wsX3_checkMiner (wsV RX3 53 RX2 yX2_size wsX2_size) := goodIn_app (goodIn_of _ (by decide +kernel)) ggX3_checkMiner_X2_size
theorem dX3_checkMiner_0 : decode cX3_checkMiner 0 = .ok (.iload_n 1, 1) := by decide +kernel
theorem dX3_checkMiner_1 : decode cX3_checkMiner 1 = .ok (.ifCond .lt 14, 3) := by decide +kernel
theorem dX3_checkMiner_4 : decode cX3_checkMiner 4 = .ok (.iload_n 1, 1) := by decide +kernel
theorem dX3_checkMiner_5 : decode cX3_checkMiner 5 = .ok (.aload_n 0, 1) := by decide +kernel
theorem dX3_checkMiner_6 : decode cX3_checkMiner 6 = .ok (.getfield 19, 3) := by decide +kernel
theorem dX3_checkMiner_9 : decode cX3_checkMiner 9 = .ok (.invokevirtual 53, 3) := by decide +kernel
theorem dX3_checkMiner_12 : decode cX3_checkMiner 12 = .ok (.if_icmp .lt 13, 3) := by decide +kernel
theorem dX3_checkMiner_15 : decode cX3_checkMiner 15 = .ok (.new 149, 3) := by decide +kernel
theorem dX3_checkMiner_18 : decode cX3_checkMiner 18 = .ok (.dup, 1) := by decide +kernel
theorem dX3_checkMiner_19 : decode cX3_checkMiner 19 = .ok (.ldc 151, 2) := by decide +kernel
theorem dX3_checkMiner_21 : decode cX3_checkMiner 21 = .ok (.invokespecial 153, 3) := by decide +kernel
theorem dX3_checkMiner_24 : decode cX3_checkMiner 24 = .ok (.athrow, 1) := by decide +kernel
theorem dX3_checkMiner_25 : decode cX3_checkMiner 25 = .ok (.return_, 1) := by decide +kernel
set_option maxRecDepth 20000 in
theorem ggX3_checkLamp_X1_size : GoodIn wsX3_checkLamp wsX1_size := goodIn_r _ [8, 9, 14, 15, 16, 17, 18, 19, 20] (by decide +kernel) (by decide +kernel)
set_option maxRecDepth 20000 in
theorem gX3_checkLamp_X1_size : GoodIn wsX3_checkLamp (wsV RX3 38 RX1 yX1_size wsX1_size) := goodIn_app (goodIn_of _ (by decide +kernel)) ggX3_checkLamp_X1_size
theorem dX3_checkLamp_0 : decode cX3_checkLamp 0 = .ok (.iload_n 1, 1) := by decide +kernel
theorem dX3_checkLamp_1 : decode cX3_checkLamp 1 = .ok (.ifCond .lt 14, 3) := by decide +kernel
theorem dX3_checkLamp_4 : decode cX3_checkLamp 4 = .ok (.iload_n 1, 1) := by decide +kernel
theorem dX3_checkLamp_5 : decode cX3_checkLamp 5 = .ok (.aload_n 0, 1) := by decide +kernel
theorem dX3_checkLamp_6 : decode cX3_checkLamp 6 = .ok (.getfield 10, 3) := by decide +kernel
theorem dX3_checkLamp_9 : decode cX3_checkLamp 9 = .ok (.invokevirtual 38, 3) := by decide +kernel
theorem dX3_checkLamp_12 : decode cX3_checkLamp 12 = .ok (.if_icmp .lt 13, 3) := by decide +kernel
theorem dX3_checkLamp_15 : decode cX3_checkLamp 15 = .ok (.new 149, 3) := by decide +kernel
theorem dX3_checkLamp_18 : decode cX3_checkLamp 18 = .ok (.dup, 1) := by decide +kernel
theorem dX3_checkLamp_19 : decode cX3_checkLamp 19 = .ok (.ldc 154, 2) := by decide +kernel
theorem dX3_checkLamp_21 : decode cX3_checkLamp 21 = .ok (.invokespecial 153, 3) := by decide +kernel
theorem dX3_checkLamp_24 : decode cX3_checkLamp 24 = .ok (.athrow, 1) := by decide +kernel
theorem dX3_checkLamp_25 : decode cX3_checkLamp 25 = .ok (.return_, 1) := by decide +kernel
