theorem dX4_init_0 : decode cX4_init 0 = .ok (.aload_n 0, 1) := by decide +kernel
theorem dX4_init_1 : decode cX4_init 1 = .ok (.invokespecial 1, 3) := by decide +kernel
theorem dX4_init_4 : decode cX4_init 4 = .ok (.aload_n 0, 1) := by decide +kernel
theorem dX4_init_5 : decode cX4_init 5 = .ok (.bipush 40, 2) := by decide +kernel
theorem dX4_init_7 : decode cX4_init 7 = .ok (.newarray .int, 2) := by decide +kernel
theorem dX4_init_9 : decode cX4_init 9 = .ok (.putfield 7, 3) := by decide +kernel
theorem dX4_init_12 : decode cX4_init 12 = .ok (.aload_n 0, 1) := by decide +kernel
theorem dX4_init_13 : decode cX4_init 13 = .ok (.bipush 40, 2) := by decide +kernel
theorem dX4_init_15 : decode cX4_init 15 = .ok (.newarray .int, 2) := by decide +kernel
theorem dX4_init_17 : decode cX4_init 17 = .ok (.putfield 13, 3) := by decide +kernel
theorem dX4_init_20 : decode cX4_init 20 = .ok (.aload_n 0, 1) := by decide +kernel
theorem dX4_init_21 : decode cX4_init 21 = .ok (.bipush 40, 2) := by decide +kernel
theorem dX4_init_23 : decode cX4_init 23 = .ok (.newarray .int, 2) := by decide +kernel
theorem dX4_init_25 : decode cX4_init 25 = .ok (.putfield 16, 3) := by decide +kernel
theorem dX4_init_28 : decode cX4_init 28 = .ok (.aload_n 0, 1) := by decide +kernel
theorem dX4_init_29 : decode cX4_init 29 = .ok (.bipush 40, 2) := by decide +kernel
theorem dX4_init_31 : decode cX4_init 31 = .ok (.newarray .boolean, 2) := by decide +kernel
theorem dX4_init_33 : decode cX4_init 33 = .ok (.putfield 19, 3) := by decide +kernel
theorem dX4_init_36 : decode cX4_init 36 = .ok (.aload_n 0, 1) := by decide +kernel
theorem dX4_init_37 : decode cX4_init 37 = .ok (.bipush 40, 2) := by decide +kernel
theorem dX4_init_39 : decode cX4_init 39 = .ok (.newarray .double, 2) := by decide +kernel
theorem dX4_init_41 : decode cX4_init 41 = .ok (.putfield 23, 3) := by decide +kernel
theorem dX4_init_44 : decode cX4_init 44 = .ok (.aload_n 0, 1) := by decide +kernel
theorem dX4_init_45 : decode cX4_init 45 = .ok (.bipush 40, 2) := by decide +kernel
theorem dX4_init_47 : decode cX4_init 47 = .ok (.newarray .double, 2) := by decide +kernel
theorem dX4_init_49 : decode cX4_init 49 = .ok (.putfield 27, 3) := by decide +kernel
theorem dX4_init_52 : decode cX4_init 52 = .ok (.aload_n 0, 1) := by decide +kernel
theorem dX4_init_53 : decode cX4_init 53 = .ok (.bipush 30, 2) := by decide +kernel
theorem dX4_init_55 : decode cX4_init 55 = .ok (.newarray .int, 2) := by decide +kernel
theorem dX4_init_57 : decode cX4_init 57 = .ok (.putfield 30, 3) := by decide +kernel
theorem dX4_init_60 : decode cX4_init 60 = .ok (.aload_n 0, 1) := by decide +kernel
theorem dX4_init_61 : decode cX4_init 61 = .ok (.bipush 30, 2) := by decide +kernel
theorem dX4_init_63 : decode cX4_init 63 = .ok (.newarray .int, 2) := by decide +kernel
theorem dX4_init_65 : decode cX4_init 65 = .ok (.putfield 33, 3) := by decide +kernel
theorem dX4_init_68 : decode cX4_init 68 = .ok (.aload_n 0, 1) := by decide +kernel
theorem dX4_init_69 : decode cX4_init 69 = .ok (.bipush 30, 2) := by decide +kernel
theorem dX4_init_71 : decode cX4_init 71 = .ok (.newarray .int, 2) := by decide +kernel
theorem dX4_init_73 : decode cX4_init 73 = .ok (.putfield 36, 3) := by decide +kernel
theorem dX4_init_76 : decode cX4_init 76 = .ok (.aload_n 0, 1) := by decide +kernel
theorem dX4_init_77 : decode cX4_init 77 = .ok (.bipush 30, 2) := by decide +kernel
theorem dX4_init_79 : decode cX4_init 79 = .ok (.newarray .int, 2) := by decide +kernel
theorem dX4_init_81 : decode cX4_init 81 = .ok (.putfield 39, 3) := by decide +kernel
theorem dX4_init_84 : decode cX4_init 84 = .ok (.aload_n 0, 1) := by decide +kernel
theorem dX4_init_85 : decode cX4_init 85 = .ok (.bipush 60, 2) := by decide +kernel
theorem dX4_init_87 : decode cX4_init 87 = .ok (.newarray .int, 2) := by decide +kernel
theorem dX4_init_89 : decode cX4_init 89 = .ok (.putfield 42, 3) := by decide +kernel
theorem dX4_init_92 : decode cX4_init 92 = .ok (.return_, 1) := by decide +kernel
theorem dX4_thrown_0 : decode cX4_thrown 0 = .ok (.aload_n 0, 1) := by decide +kernel
theorem dX4_thrown_1 : decode cX4_thrown 1 = .ok (.getfield 45, 3) := by decide +kernel
theorem dX4_thrown_4 : decode cX4_thrown 4 = .ok (.ireturn, 1) := by decide +kernel
theorem dX4_in_0 : decode cX4_in 0 = .ok (.iload_n 0, 1) := by decide +kernel
theorem dX4_in_1 : decode cX4_in 1 = .ok (.iload_n 1, 1) := by decide +kernel
theorem dX4_in_2 : decode cX4_in 2 = .ok (.if_icmp .lt 12, 3) := by decide +kernel
theorem dX4_in_5 : decode cX4_in 5 = .ok (.iload_n 0, 1) := by decide +kernel
theorem dX4_in_6 : decode cX4_in 6 = .ok (.iload_n 2, 1) := by decide +kernel
theorem dX4_in_7 : decode cX4_in 7 = .ok (.if_icmp .gt 7, 3) := by decide +kernel
theorem dX4_in_10 : decode cX4_in 10 = .ok (.iconst 1, 1) := by decide +kernel
theorem dX4_in_11 : decode cX4_in 11 = .ok (.goto 4, 3) := by decide +kernel
theorem dX4_in_14 : decode cX4_in 14 = .ok (.iconst 0, 1) := by decide +kernel
theorem dX4_in_15 : decode cX4_in 15 = .ok (.ireturn, 1) := by decide +kernel
set_option maxRecDepth 20000 in
theorem ggX4_isLamp_X4_in : GoodIn wsX4_isLamp wsX4_in := goodIn_r _ [5] (by decide +kernel) (by decide +kernel)
set_option maxRecDepth 20000 in
theorem gX4_isLamp_X4_in : GoodIn wsX4_isLamp (va_wsS RX4 52 yX4_in wsX4_in) := goodIn_app (goodIn_of _ (by decide +kernel)) ggX4_isLamp_X4_in
theorem dX4_isLamp_0 : decode cX4_isLamp 0 = .ok (.iload_n 1, 1) := by decide +kernel
theorem dX4_isLamp_1 : decode cX4_isLamp 1 = .ok (.iconst 0, 1) := by decide +kernel
theorem dX4_isLamp_2 : decode cX4_isLamp 2 = .ok (.aload_n 0, 1) := by decide +kernel
theorem dX4_isLamp_3 : decode cX4_isLamp 3 = .ok (.getfield 49, 3) := by decide +kernel
theorem dX4_isLamp_6 : decode cX4_isLamp 6 = .ok (.iconst 1, 1) := by decide +kernel
theorem dX4_isLamp_7 : decode cX4_isLamp 7 = .ok (.isub, 1) := by decide +kernel
theorem dX4_isLamp_8 : decode cX4_isLamp 8 = .ok (.invokestatic 52, 3) := by decide +kernel
theorem dX4_isLamp_11 : decode cX4_isLamp 11 = .ok (.ireturn, 1) := by decide +kernel
set_option maxRecDepth 20000 in
theorem ggX4_isMiner_X4_in : GoodIn wsX4_isMiner wsX4_in := goodIn_r _ [5] (by decide +kernel) (by decide +kernel)
set_option maxRecDepth 20000 in
theorem gX4_isMiner_X4_in : GoodIn wsX4_isMiner (va_wsS RX4 52 yX4_in wsX4_in) := goodIn_app (goodIn_of _ (by decide +kernel)) ggX4_isMiner_X4_in
theorem dX4_isMiner_0 : decode cX4_isMiner 0 = .ok (.iload_n 1, 1) := by decide +kernel
theorem dX4_isMiner_1 : decode cX4_isMiner 1 = .ok (.iconst 0, 1) := by decide +kernel
theorem dX4_isMiner_2 : decode cX4_isMiner 2 = .ok (.aload_n 0, 1) := by decide +kernel
theorem dX4_isMiner_3 : decode cX4_isMiner 3 = .ok (.getfield 56, 3) := by decide +kernel
theorem dX4_isMiner_6 : decode cX4_isMiner 6 = .ok (.iconst 1, 1) := by decide +kernel
theorem dX4_isMiner_7 : decode cX4_isMiner 7 = .ok (.isub, 1) := by decide +kernel
theorem dX4_isMiner_8 : decode cX4_isMiner 8 = .ok (.invokestatic 52, 3) := by decide +kernel
theorem dX4_isMiner_11 : decode cX4_isMiner 11 = .ok (.ireturn, 1) := by decide +kernel
theorem dX4_full_0 : decode cX4_full 0 = .ok (.iload_n 0, 1) := by decide +kernel
theorem dX4_full_1 : decode cX4_full 1 = .ok (.ifCond .ne 9, 3) := by decide +kernel
theorem dX4_full_4 : decode cX4_full 4 = .ok (.ldc2_w 59, 3) := by decide +kernel
theorem dX4_full_7 : decode cX4_full 7 = .ok (.goto 17, 3) := by decide +kernel
theorem dX4_full_10 : decode cX4_full 10 = .ok (.iload_n 0, 1) := by decide +kernel
theorem dX4_full_11 : decode cX4_full 11 = .ok (.iconst 1, 1) := by decide +kernel
theorem dX4_full_12 : decode cX4_full 12 = .ok (.if_icmp .ne 9, 3) := by decide +kernel
theorem dX4_full_15 : decode cX4_full 15 = .ok (.ldc2_w 61, 3) := by decide +kernel
theorem dX4_full_18 : decode cX4_full 18 = .ok (.goto 6, 3) := by decide +kernel
theorem dX4_full_21 : decode cX4_full 21 = .ok (.ldc2_w 63, 3) := by decide +kernel
theorem dX4_full_24 : decode cX4_full 24 = .ok (.dreturn, 1) := by decide +kernel
set_option maxRecDepth 20000 in
theorem ggX4_addLamp_X4_in : GoodIn wsX4_addLamp wsX4_in := goodIn_r _ [10] (by decide +kernel) (by decide +kernel)
set_option maxRecDepth 20000 in
theorem gX4_addLamp_X4_in : GoodIn wsX4_addLamp (va_wsS RX4 52 yX4_in wsX4_in) := goodIn_app (goodIn_of _ (by decide +kernel)) ggX4_addLamp_X4_in
set_option maxRecDepth 20000 in
theorem ggX4_addLamp_X4_full : GoodIn wsX4_addLamp wsX4_full := goodIn_r _ [13, 14, 15, 16] (by decide +kernel) (by decide +kernel)
set_option maxRecDepth 20000 in
theorem gX4_addLamp_X4_full : GoodIn wsX4_addLamp (va_wsS RX4 65 yX4_full wsX4_full) := goodIn_app (goodIn_of _ (by decide +kernel)) ggX4_addLamp_X4_full
theorem dX4_addLamp_0 : decode cX4_addLamp 0 = .ok (.aload_n 0, 1) := by decide +kernel
theorem dX4_addLamp_1 : decode cX4_addLamp 1 = .ok (.iload_n 1, 1) := by decide +kernel
theorem dX4_addLamp_2 : decode cX4_addLamp 2 = .ok (.iconst 0, 1) := by decide +kernel
theorem dX4_addLamp_3 : decode cX4_addLamp 3 = .ok (.iconst 2, 1) := by decide +kernel
theorem dX4_addLamp_4 : decode cX4_addLamp 4 = .ok (.invokestatic 52, 3) := by decide +kernel
theorem dX4_addLamp_7 : decode cX4_addLamp 7 = .ok (.ifCond .ne 7, 3) := by decide +kernel
theorem dX4_addLamp_10 : decode cX4_addLamp 10 = .ok (.iconst 1, 1) := by decide +kernel
theorem dX4_addLamp_11 : decode cX4_addLamp 11 = .ok (.goto 17, 3) := by decide +kernel
theorem dX4_addLamp_14 : decode cX4_addLamp 14 = .ok (.aload_n 0, 1) := by decide +kernel
theorem dX4_addLamp_15 : decode cX4_addLamp 15 = .ok (.getfield 49, 3) := by decide +kernel
theorem dX4_addLamp_18 : decode cX4_addLamp 18 = .ok (.bipush 40, 2) := by decide +kernel
theorem dX4_addLamp_20 : decode cX4_addLamp 20 = .ok (.if_icmp .ne 7, 3) := by decide +kernel
theorem dX4_addLamp_23 : decode cX4_addLamp 23 = .ok (.iconst 2, 1) := by decide +kernel
theorem dX4_addLamp_24 : decode cX4_addLamp 24 = .ok (.goto 4, 3) := by decide +kernel
theorem dX4_addLamp_27 : decode cX4_addLamp 27 = .ok (.iconst 0, 1) := by decide +kernel
theorem dX4_addLamp_28 : decode cX4_addLamp 28 = .ok (.putfield 45, 3) := by decide +kernel
theorem dX4_addLamp_31 : decode cX4_addLamp 31 = .ok (.aload_n 0, 1) := by decide +kernel
theorem dX4_addLamp_32 : decode cX4_addLamp 32 = .ok (.getfield 45, 3) := by decide +kernel
theorem dX4_addLamp_35 : decode cX4_addLamp 35 = .ok (.ifCond .le 5, 3) := by decide +kernel
theorem dX4_addLamp_38 : decode cX4_addLamp 38 = .ok (.iconst 0, 1) := by decide +kernel
theorem dX4_addLamp_39 : decode cX4_addLamp 39 = .ok (.ireturn, 1) := by decide +kernel
theorem dX4_addLamp_40 : decode cX4_addLamp 40 = .ok (.aload_n 0, 1) := by decide +kernel
theorem dX4_addLamp_41 : decode cX4_addLamp 41 = .ok (.getfield 7, 3) := by decide +kernel
theorem dX4_addLamp_44 : decode cX4_addLamp 44 = .ok (.aload_n 0, 1) := by decide +kernel
theorem dX4_addLamp_45 : decode cX4_addLamp 45 = .ok (.getfield 49, 3) := by decide +kernel
theorem dX4_addLamp_48 : decode cX4_addLamp 48 = .ok (.iload_n 1, 1) := by decide +kernel
theorem dX4_addLamp_49 : decode cX4_addLamp 49 = .ok (.iastore, 1) := by decide +kernel
theorem dX4_addLamp_50 : decode cX4_addLamp 50 = .ok (.aload_n 0, 1) := by decide +kernel
theorem dX4_addLamp_51 : decode cX4_addLamp 51 = .ok (.getfield 13, 3) := by decide +kernel
theorem dX4_addLamp_54 : decode cX4_addLamp 54 = .ok (.aload_n 0, 1) := by decide +kernel
theorem dX4_addLamp_55 : decode cX4_addLamp 55 = .ok (.getfield 49, 3) := by decide +kernel
theorem dX4_addLamp_58 : decode cX4_addLamp 58 = .ok (.iconst 0, 1) := by decide +kernel
theorem dX4_addLamp_59 : decode cX4_addLamp 59 = .ok (.iastore, 1) := by decide +kernel
theorem dX4_addLamp_60 : decode cX4_addLamp 60 = .ok (.aload_n 0, 1) := by decide +kernel
theorem dX4_addLamp_61 : decode cX4_addLamp 61 = .ok (.getfield 23, 3) := by decide +kernel
theorem dX4_addLamp_64 : decode cX4_addLamp 64 = .ok (.aload_n 0, 1) := by decide +kernel
theorem dX4_addLamp_65 : decode cX4_addLamp 65 = .ok (.getfield 49, 3) := by decide +kernel
theorem dX4_addLamp_68 : decode cX4_addLamp 68 = .ok (.iload_n 1, 1) := by decide +kernel
theorem dX4_addLamp_69 : decode cX4_addLamp 69 = .ok (.invokestatic 65, 3) := by decide +kernel
theorem dX4_addLamp_72 : decode cX4_addLamp 72 = .ok (.dastore, 1) := by decide +kernel
theorem dX4_addLamp_73 : decode cX4_addLamp 73 = .ok (.aload_n 0, 1) := by decide +kernel
theorem dX4_addLamp_74 : decode cX4_addLamp 74 = .ok (.getfield 27, 3) := by decide +kernel
theorem dX4_addLamp_77 : decode cX4_addLamp 77 = .ok (.aload_n 0, 1) := by decide +kernel
theorem dX4_addLamp_78 : decode cX4_addLamp 78 = .ok (.getfield 49, 3) := by decide +kernel
theorem dX4_addLamp_81 : decode cX4_addLamp 81 = .ok (.iload_n 1, 1) := by decide +kernel
theorem dX4_addLamp_82 : decode cX4_addLamp 82 = .ok (.invokestatic 65, 3) := by decide +kernel
theorem dX4_addLamp_85 : decode cX4_addLamp 85 = .ok (.dastore, 1) := by decide +kernel
theorem dX4_addLamp_86 : decode cX4_addLamp 86 = .ok (.aload_n 0, 1) := by decide +kernel
theorem dX4_addLamp_87 : decode cX4_addLamp 87 = .ok (.dup, 1) := by decide +kernel
theorem dX4_addLamp_88 : decode cX4_addLamp 88 = .ok (.getfield 49, 3) := by decide +kernel
theorem dX4_addLamp_91 : decode cX4_addLamp 91 = .ok (.iconst 1, 1) := by decide +kernel
theorem dX4_addLamp_92 : decode cX4_addLamp 92 = .ok (.iadd, 1) := by decide +kernel
theorem dX4_addLamp_93 : decode cX4_addLamp 93 = .ok (.putfield 49, 3) := by decide +kernel
theorem dX4_addLamp_96 : decode cX4_addLamp 96 = .ok (.aload_n 0, 1) := by decide +kernel
theorem dX4_addLamp_97 : decode cX4_addLamp 97 = .ok (.getfield 49, 3) := by decide +kernel
theorem dX4_addLamp_100 : decode cX4_addLamp 100 = .ok (.iconst 1, 1) := by decide +kernel
theorem dX4_addLamp_101 : decode cX4_addLamp 101 = .ok (.isub, 1) := by decide +kernel
theorem dX4_addLamp_102 : decode cX4_addLamp 102 = .ok (.ireturn, 1) := by decide +kernel
set_option maxRecDepth 20000 in
theorem ggX4_addMiner_X4_in : GoodIn wsX4_addMiner wsX4_in := goodIn_r _ [8] (by decide +kernel) (by decide +kernel)
set_option maxRecDepth 20000 in
theorem gX4_addMiner_X4_in : GoodIn wsX4_addMiner (va_wsS RX4 52 yX4_in wsX4_in) := goodIn_app (goodIn_of _ (by decide +kernel)) ggX4_addMiner_X4_in
theorem dX4_addMiner_0 : decode cX4_addMiner 0 = .ok (.aload_n 0, 1) := by decide +kernel
theorem dX4_addMiner_1 : decode cX4_addMiner 1 = .ok (.iload_n 1, 1) := by decide +kernel
theorem dX4_addMiner_2 : decode cX4_addMiner 2 = .ok (.iconst 0, 1) := by decide +kernel
theorem dX4_addMiner_3 : decode cX4_addMiner 3 = .ok (.iconst 2, 1) := by decide +kernel
theorem dX4_addMiner_4 : decode cX4_addMiner 4 = .ok (.invokestatic 52, 3) := by decide +kernel
theorem dX4_addMiner_7 : decode cX4_addMiner 7 = .ok (.ifCond .ne 7, 3) := by decide +kernel
theorem dX4_addMiner_10 : decode cX4_addMiner 10 = .ok (.iconst 1, 1) := by decide +kernel
theorem dX4_addMiner_11 : decode cX4_addMiner 11 = .ok (.goto 17, 3) := by decide +kernel
theorem dX4_addMiner_14 : decode cX4_addMiner 14 = .ok (.aload_n 0, 1) := by decide +kernel
theorem dX4_addMiner_15 : decode cX4_addMiner 15 = .ok (.getfield 56, 3) := by decide +kernel
theorem dX4_addMiner_18 : decode cX4_addMiner 18 = .ok (.bipush 30, 2) := by decide +kernel
theorem dX4_addMiner_20 : decode cX4_addMiner 20 = .ok (.if_icmp .ne 7, 3) := by decide +kernel
theorem dX4_addMiner_23 : decode cX4_addMiner 23 = .ok (.iconst 2, 1) := by decide +kernel
theorem dX4_addMiner_24 : decode cX4_addMiner 24 = .ok (.goto 4, 3) := by decide +kernel
theorem dX4_addMiner_27 : decode cX4_addMiner 27 = .ok (.iconst 0, 1) := by decide +kernel
theorem dX4_addMiner_28 : decode cX4_addMiner 28 = .ok (.putfield 45, 3) := by decide +kernel
theorem dX4_addMiner_31 : decode cX4_addMiner 31 = .ok (.aload_n 0, 1) := by decide +kernel
theorem dX4_addMiner_32 : decode cX4_addMiner 32 = .ok (.getfield 45, 3) := by decide +kernel
theorem dX4_addMiner_35 : decode cX4_addMiner 35 = .ok (.ifCond .le 5, 3) := by decide +kernel
theorem dX4_addMiner_38 : decode cX4_addMiner 38 = .ok (.iconst 0, 1) := by decide +kernel
theorem dX4_addMiner_39 : decode cX4_addMiner 39 = .ok (.ireturn, 1) := by decide +kernel
theorem dX4_addMiner_40 : decode cX4_addMiner 40 = .ok (.aload_n 0, 1) := by decide +kernel
theorem dX4_addMiner_41 : decode cX4_addMiner 41 = .ok (.getfield 30, 3) := by decide +kernel
theorem dX4_addMiner_44 : decode cX4_addMiner 44 = .ok (.aload_n 0, 1) := by decide +kernel
theorem dX4_addMiner_45 : decode cX4_addMiner 45 = .ok (.getfield 56, 3) := by decide +kernel
theorem dX4_addMiner_48 : decode cX4_addMiner 48 = .ok (.iload_n 1, 1) := by decide +kernel
theorem dX4_addMiner_49 : decode cX4_addMiner 49 = .ok (.iastore, 1) := by decide +kernel
theorem dX4_addMiner_50 : decode cX4_addMiner 50 = .ok (.aload_n 0, 1) := by decide +kernel
theorem dX4_addMiner_51 : decode cX4_addMiner 51 = .ok (.getfield 33, 3) := by decide +kernel
theorem dX4_addMiner_54 : decode cX4_addMiner 54 = .ok (.aload_n 0, 1) := by decide +kernel
theorem dX4_addMiner_55 : decode cX4_addMiner 55 = .ok (.getfield 56, 3) := by decide +kernel
theorem dX4_addMiner_58 : decode cX4_addMiner 58 = .ok (.iconst (-1), 1) := by decide +kernel
theorem dX4_addMiner_59 : decode cX4_addMiner 59 = .ok (.iastore, 1) := by decide +kernel
theorem dX4_addMiner_60 : decode cX4_addMiner 60 = .ok (.aload_n 0, 1) := by decide +kernel
theorem dX4_addMiner_61 : decode cX4_addMiner 61 = .ok (.dup, 1) := by decide +kernel
theorem dX4_addMiner_62 : decode cX4_addMiner 62 = .ok (.getfield 56, 3) := by decide +kernel
theorem dX4_addMiner_65 : decode cX4_addMiner 65 = .ok (.iconst 1, 1) := by decide +kernel
theorem dX4_addMiner_66 : decode cX4_addMiner 66 = .ok (.iadd, 1) := by decide +kernel
theorem dX4_addMiner_67 : decode cX4_addMiner 67 = .ok (.putfield 56, 3) := by decide +kernel
theorem dX4_addMiner_70 : decode cX4_addMiner 70 = .ok (.aload_n 0, 1) := by decide +kernel
theorem dX4_addMiner_71 : decode cX4_addMiner 71 = .ok (.getfield 56, 3) := by decide +kernel
theorem dX4_addMiner_74 : decode cX4_addMiner 74 = .ok (.iconst 1, 1) := by decide +kernel
theorem dX4_addMiner_75 : decode cX4_addMiner 75 = .ok (.isub, 1) := by decide +kernel
theorem dX4_addMiner_76 : decode cX4_addMiner 76 = .ok (.ireturn, 1) := by decide +kernel
theorem dX4_isReady_0 : decode cX4_isReady 0 = .ok (.aload_n 0, 1) := by decide +kernel
theorem dX4_isReady_1 : decode cX4_isReady 1 = .ok (.getfield 13, 3) := by decide +kernel
theorem dX4_isReady_4 : decode cX4_isReady 4 = .ok (.iload_n 1, 1) := by decide +kernel
theorem dX4_isReady_5 : decode cX4_isReady 5 = .ok (.iaload, 1) := by decide +kernel
theorem dX4_isReady_6 : decode cX4_isReady 6 = .ok (.ifCond .ne 20, 3) := by decide +kernel
theorem dX4_isReady_9 : decode cX4_isReady 9 = .ok (.aload_n 0, 1) := by decide +kernel
theorem dX4_isReady_10 : decode cX4_isReady 10 = .ok (.getfield 23, 3) := by decide +kernel
theorem dX4_isReady_13 : decode cX4_isReady 13 = .ok (.iload_n 1, 1) := by decide +kernel
theorem dX4_isReady_14 : decode cX4_isReady 14 = .ok (.daload, 1) := by decide +kernel
theorem dX4_isReady_15 : decode cX4_isReady 15 = .ok (.ldc2_w 69, 3) := by decide +kernel
theorem dX4_isReady_18 : decode cX4_isReady 18 = .ok (.dcmp .l, 1) := by decide +kernel
theorem dX4_isReady_19 : decode cX4_isReady 19 = .ok (.ifCond .lt 7, 3) := by decide +kernel
theorem dX4_isReady_22 : decode cX4_isReady 22 = .ok (.iconst 1, 1) := by decide +kernel
theorem dX4_isReady_23 : decode cX4_isReady 23 = .ok (.goto 4, 3) := by decide +kernel
theorem dX4_isReady_26 : decode cX4_isReady 26 = .ok (.iconst 0, 1) := by decide +kernel
theorem dX4_isReady_27 : decode cX4_isReady 27 = .ok (.ireturn, 1) := by decide +kernel
set_option maxRecDepth 20000 in
theorem ggX4_lampFor_X4_isReady : GoodIn wsX4_lampFor wsX4_isReady := goodIn_r _ [8, 9, 3, 10, 11, 12, 13, 14, 15, 16, 17, 18, 19, 20, 21, 22, 23, 24, 25, 26, 27] (by decide +kernel) (by decide +kernel)
set_option maxRecDepth 20000 in
theorem gX4_lampFor_X4_isReady : GoodIn wsX4_lampFor (wsV RX4 71 RX4 yX4_isReady wsX4_isReady) := goodIn_app (goodIn_of _ (by decide +kernel)) ggX4_lampFor_X4_isReady
theorem dX4_lampFor_0 : decode cX4_lampFor 0 = .ok (.iconst (-1), 1) := by decide +kernel
theorem dX4_lampFor_1 : decode cX4_lampFor 1 = .ok (.istore_n 2, 1) := by decide +kernel
theorem dX4_lampFor_2 : decode cX4_lampFor 2 = .ok (.iload_n 1, 1) := by decide +kernel
theorem dX4_lampFor_3 : decode cX4_lampFor 3 = .ok (.istore_n 3, 1) := by decide +kernel
theorem dX4_lampFor_4 : decode cX4_lampFor 4 = .ok (.iload_n 3, 1) := by decide +kernel
theorem dX4_lampFor_5 : decode cX4_lampFor 5 = .ok (.iconst 3, 1) := by decide +kernel
theorem dX4_lampFor_6 : decode cX4_lampFor 6 = .ok (.if_icmp .ge 93, 3) := by decide +kernel
theorem dX4_lampFor_9 : decode cX4_lampFor 9 = .ok (.iload_n 2, 1) := by decide +kernel
theorem dX4_lampFor_10 : decode cX4_lampFor 10 = .ok (.iconst (-1), 1) := by decide +kernel
theorem dX4_lampFor_11 : decode cX4_lampFor 11 = .ok (.if_icmp .ne 88, 3) := by decide +kernel
theorem dX4_lampFor_14 : decode cX4_lampFor 14 = .ok (.iconst 0, 1) := by decide +kernel
theorem dX4_lampFor_15 : decode cX4_lampFor 15 = .ok (.istore 4, 2) := by decide +kernel
theorem dX4_lampFor_17 : decode cX4_lampFor 17 = .ok (.iload 4, 2) := by decide +kernel
theorem dX4_lampFor_19 : decode cX4_lampFor 19 = .ok (.aload_n 0, 1) := by decide +kernel
theorem dX4_lampFor_20 : decode cX4_lampFor 20 = .ok (.getfield 49, 3) := by decide +kernel
theorem dX4_lampFor_23 : decode cX4_lampFor 23 = .ok (.if_icmp .ge 70, 3) := by decide +kernel
theorem dX4_lampFor_26 : decode cX4_lampFor 26 = .ok (.aload_n 0, 1) := by decide +kernel
theorem dX4_lampFor_27 : decode cX4_lampFor 27 = .ok (.getfield 7, 3) := by decide +kernel
theorem dX4_lampFor_30 : decode cX4_lampFor 30 = .ok (.iload 4, 2) := by decide +kernel
theorem dX4_lampFor_32 : decode cX4_lampFor 32 = .ok (.iaload, 1) := by decide +kernel
theorem dX4_lampFor_33 : decode cX4_lampFor 33 = .ok (.iload_n 3, 1) := by decide +kernel
theorem dX4_lampFor_34 : decode cX4_lampFor 34 = .ok (.if_icmp .ne 38, 3) := by decide +kernel
theorem dX4_lampFor_37 : decode cX4_lampFor 37 = .ok (.aload_n 0, 1) := by decide +kernel
theorem dX4_lampFor_38 : decode cX4_lampFor 38 = .ok (.iload 4, 2) := by decide +kernel
theorem dX4_lampFor_40 : decode cX4_lampFor 40 = .ok (.invokevirtual 71, 3) := by decide +kernel
theorem dX4_lampFor_43 : decode cX4_lampFor 43 = .ok (.ifCond .eq 29, 3) := by decide +kernel
theorem dX4_lampFor_46 : decode cX4_lampFor 46 = .ok (.iload_n 2, 1) := by decide +kernel
theorem dX4_lampFor_47 : decode cX4_lampFor 47 = .ok (.iconst (-1), 1) := by decide +kernel
theorem dX4_lampFor_48 : decode cX4_lampFor 48 = .ok (.if_icmp .eq 20, 3) := by decide +kernel
theorem dX4_lampFor_51 : decode cX4_lampFor 51 = .ok (.aload_n 0, 1) := by decide +kernel
theorem dX4_lampFor_52 : decode cX4_lampFor 52 = .ok (.getfield 23, 3) := by decide +kernel
theorem dX4_lampFor_55 : decode cX4_lampFor 55 = .ok (.iload 4, 2) := by decide +kernel
theorem dX4_lampFor_57 : decode cX4_lampFor 57 = .ok (.daload, 1) := by decide +kernel
theorem dX4_lampFor_58 : decode cX4_lampFor 58 = .ok (.aload_n 0, 1) := by decide +kernel
theorem dX4_lampFor_59 : decode cX4_lampFor 59 = .ok (.getfield 23, 3) := by decide +kernel
theorem dX4_lampFor_62 : decode cX4_lampFor 62 = .ok (.iload_n 2, 1) := by decide +kernel
theorem dX4_lampFor_63 : decode cX4_lampFor 63 = .ok (.daload, 1) := by decide +kernel
theorem dX4_lampFor_64 : decode cX4_lampFor 64 = .ok (.dcmp .l, 1) := by decide +kernel
theorem dX4_lampFor_65 : decode cX4_lampFor 65 = .ok (.ifCond .le 7, 3) := by decide +kernel
theorem dX4_lampFor_68 : decode cX4_lampFor 68 = .ok (.iconst 1, 1) := by decide +kernel
theorem dX4_lampFor_69 : decode cX4_lampFor 69 = .ok (.goto 4, 3) := by decide +kernel
theorem dX4_lampFor_72 : decode cX4_lampFor 72 = .ok (.iconst 0, 1) := by decide +kernel
theorem dX4_lampFor_73 : decode cX4_lampFor 73 = .ok (.istore 5, 2) := by decide +kernel
theorem dX4_lampFor_75 : decode cX4_lampFor 75 = .ok (.iload 5, 2) := by decide +kernel
theorem dX4_lampFor_77 : decode cX4_lampFor 77 = .ok (.ifCond .eq 8, 3) := by decide +kernel
theorem dX4_lampFor_80 : decode cX4_lampFor 80 = .ok (.iload 4, 2) := by decide +kernel
theorem dX4_lampFor_82 : decode cX4_lampFor 82 = .ok (.goto 4, 3) := by decide +kernel
theorem dX4_lampFor_85 : decode cX4_lampFor 85 = .ok (.iload_n 2, 1) := by decide +kernel
theorem dX4_lampFor_86 : decode cX4_lampFor 86 = .ok (.istore_n 2, 1) := by decide +kernel
theorem dX4_lampFor_87 : decode cX4_lampFor 87 = .ok (.iinc 4 1, 3) := by decide +kernel
theorem dX4_lampFor_90 : decode cX4_lampFor 90 = .ok (.goto (-73), 3) := by decide +kernel
theorem dX4_lampFor_93 : decode cX4_lampFor 93 = .ok (.iinc 3 1, 3) := by decide +kernel
theorem dX4_lampFor_96 : decode cX4_lampFor 96 = .ok (.goto (-92), 3) := by decide +kernel
theorem dX4_lampFor_99 : decode cX4_lampFor 99 = .ok (.iload_n 2, 1) := by decide +kernel
theorem dX4_lampFor_100 : decode cX4_lampFor 100 = .ok (.ireturn, 1) := by decide +kernel
set_option maxRecDepth 20000 in
theorem ggX4_issue_X4_isMiner : GoodIn wsX4_issue wsX4_isMiner := goodIn_r _ [13, 14, 15, 16, 12, 17, 30, 31, 32, 33, 34, 35, 36, 37, 38, 39, 40, 41, 42, 43, 44, 45, 46] (by decide +kernel) (by decide +kernel)
set_option maxRecDepth 20000 in
theorem gX4_issue_X4_isMiner : GoodIn wsX4_issue (wsV RX4 75 RX4 yX4_isMiner wsX4_isMiner) := goodIn_app (goodIn_of _ (by decide +kernel)) ggX4_issue_X4_isMiner
set_option maxRecDepth 20000 in
theorem ggX4_issue_X4_lampFor : GoodIn wsX4_issue wsX4_lampFor := goodIn_r _ [21, 22, 23, 24, 25, 26, 27, 12, 28, 4, 29, 30, 31, 32, 33, 34, 35, 36, 37, 38, 39, 40, 41, 42, 43, 44, 45, 46] (by decide +kernel) (by decide +kernel)
set_option maxRecDepth 20000 in
theorem gX4_issue_X4_lampFor : GoodIn wsX4_issue (wsV RX4 78 RX4 yX4_lampFor wsX4_lampFor) := goodIn_app (goodIn_of _ (by decide +kernel)) ggX4_issue_X4_lampFor
theorem dX4_issue_0 : decode cX4_issue 0 = .ok (.aload_n 0, 1) := by decide +kernel
theorem dX4_issue_1 : decode cX4_issue 1 = .ok (.aload_n 0, 1) := by decide +kernel
theorem dX4_issue_2 : decode cX4_issue 2 = .ok (.iload_n 1, 1) := by decide +kernel
theorem dX4_issue_3 : decode cX4_issue 3 = .ok (.invokevirtual 75, 3) := by decide +kernel
theorem dX4_issue_6 : decode cX4_issue 6 = .ok (.ifCond .ne 7, 3) := by decide +kernel
theorem dX4_issue_9 : decode cX4_issue 9 = .ok (.iconst 1, 1) := by decide +kernel
theorem dX4_issue_10 : decode cX4_issue 10 = .ok (.goto 32, 3) := by decide +kernel
theorem dX4_issue_13 : decode cX4_issue 13 = .ok (.aload_n 0, 1) := by decide +kernel
theorem dX4_issue_14 : decode cX4_issue 14 = .ok (.getfield 33, 3) := by decide +kernel
theorem dX4_issue_17 : decode cX4_issue 17 = .ok (.iload_n 1, 1) := by decide +kernel
theorem dX4_issue_18 : decode cX4_issue 18 = .ok (.iaload, 1) := by decide +kernel
theorem dX4_issue_19 : decode cX4_issue 19 = .ok (.iconst (-1), 1) := by decide +kernel
theorem dX4_issue_20 : decode cX4_issue 20 = .ok (.if_icmp .ne 17, 3) := by decide +kernel
theorem dX4_issue_23 : decode cX4_issue 23 = .ok (.aload_n 0, 1) := by decide +kernel
theorem dX4_issue_24 : decode cX4_issue 24 = .ok (.aload_n 0, 1) := by decide +kernel
theorem dX4_issue_25 : decode cX4_issue 25 = .ok (.getfield 30, 3) := by decide +kernel
theorem dX4_issue_28 : decode cX4_issue 28 = .ok (.iload_n 1, 1) := by decide +kernel
theorem dX4_issue_29 : decode cX4_issue 29 = .ok (.iaload, 1) := by decide +kernel
theorem dX4_issue_30 : decode cX4_issue 30 = .ok (.invokevirtual 78, 3) := by decide +kernel
theorem dX4_issue_33 : decode cX4_issue 33 = .ok (.iconst (-1), 1) := by decide +kernel
theorem dX4_issue_34 : decode cX4_issue 34 = .ok (.if_icmp .ne 7, 3) := by decide +kernel
theorem dX4_issue_37 : decode cX4_issue 37 = .ok (.iconst 2, 1) := by decide +kernel
theorem dX4_issue_38 : decode cX4_issue 38 = .ok (.goto 4, 3) := by decide +kernel
theorem dX4_issue_41 : decode cX4_issue 41 = .ok (.iconst 0, 1) := by decide +kernel
theorem dX4_issue_42 : decode cX4_issue 42 = .ok (.putfield 45, 3) := by decide +kernel
theorem dX4_issue_45 : decode cX4_issue 45 = .ok (.aload_n 0, 1) := by decide +kernel
theorem dX4_issue_46 : decode cX4_issue 46 = .ok (.getfield 45, 3) := by decide +kernel
theorem dX4_issue_49 : decode cX4_issue 49 = .ok (.ifCond .le 5, 3) := by decide +kernel
theorem dX4_issue_52 : decode cX4_issue 52 = .ok (.iconst 0, 1) := by decide +kernel
theorem dX4_issue_53 : decode cX4_issue 53 = .ok (.ireturn, 1) := by decide +kernel
theorem dX4_issue_54 : decode cX4_issue 54 = .ok (.aload_n 0, 1) := by decide +kernel
theorem dX4_issue_55 : decode cX4_issue 55 = .ok (.aload_n 0, 1) := by decide +kernel
theorem dX4_issue_56 : decode cX4_issue 56 = .ok (.getfield 30, 3) := by decide +kernel
theorem dX4_issue_59 : decode cX4_issue 59 = .ok (.iload_n 1, 1) := by decide +kernel
theorem dX4_issue_60 : decode cX4_issue 60 = .ok (.iaload, 1) := by decide +kernel
theorem dX4_issue_61 : decode cX4_issue 61 = .ok (.invokevirtual 78, 3) := by decide +kernel
theorem dX4_issue_64 : decode cX4_issue 64 = .ok (.istore_n 2, 1) := by decide +kernel
theorem dX4_issue_65 : decode cX4_issue 65 = .ok (.aload_n 0, 1) := by decide +kernel
theorem dX4_issue_66 : decode cX4_issue 66 = .ok (.getfield 13, 3) := by decide +kernel
theorem dX4_issue_69 : decode cX4_issue 69 = .ok (.iload_n 2, 1) := by decide +kernel
theorem dX4_issue_70 : decode cX4_issue 70 = .ok (.iconst 1, 1) := by decide +kernel
theorem dX4_issue_71 : decode cX4_issue 71 = .ok (.iastore, 1) := by decide +kernel
theorem dX4_issue_72 : decode cX4_issue 72 = .ok (.aload_n 0, 1) := by decide +kernel
theorem dX4_issue_73 : decode cX4_issue 73 = .ok (.getfield 33, 3) := by decide +kernel
theorem dX4_issue_76 : decode cX4_issue 76 = .ok (.iload_n 1, 1) := by decide +kernel
theorem dX4_issue_77 : decode cX4_issue 77 = .ok (.iload_n 2, 1) := by decide +kernel
theorem dX4_issue_78 : decode cX4_issue 78 = .ok (.iastore, 1) := by decide +kernel
theorem dX4_issue_79 : decode cX4_issue 79 = .ok (.aload_n 0, 1) := by decide +kernel
theorem dX4_issue_80 : decode cX4_issue 80 = .ok (.getfield 36, 3) := by decide +kernel
theorem dX4_issue_83 : decode cX4_issue 83 = .ok (.iload_n 1, 1) := by decide +kernel
theorem dX4_issue_84 : decode cX4_issue 84 = .ok (.aload_n 0, 1) := by decide +kernel
theorem dX4_issue_85 : decode cX4_issue 85 = .ok (.getfield 82, 3) := by decide +kernel
theorem dX4_issue_88 : decode cX4_issue 88 = .ok (.iastore, 1) := by decide +kernel
theorem dX4_issue_89 : decode cX4_issue 89 = .ok (.aload_n 0, 1) := by decide +kernel
theorem dX4_issue_90 : decode cX4_issue 90 = .ok (.getfield 39, 3) := by decide +kernel
theorem dX4_issue_93 : decode cX4_issue 93 = .ok (.aload_n 0, 1) := by decide +kernel
theorem dX4_issue_94 : decode cX4_issue 94 = .ok (.getfield 85, 3) := by decide +kernel
theorem dX4_issue_97 : decode cX4_issue 97 = .ok (.iload_n 1, 1) := by decide +kernel
theorem dX4_issue_98 : decode cX4_issue 98 = .ok (.iastore, 1) := by decide +kernel
theorem dX4_issue_99 : decode cX4_issue 99 = .ok (.aload_n 0, 1) := by decide +kernel
theorem dX4_issue_100 : decode cX4_issue 100 = .ok (.dup, 1) := by decide +kernel
theorem dX4_issue_101 : decode cX4_issue 101 = .ok (.getfield 85, 3) := by decide +kernel
theorem dX4_issue_104 : decode cX4_issue 104 = .ok (.iconst 1, 1) := by decide +kernel
theorem dX4_issue_105 : decode cX4_issue 105 = .ok (.iadd, 1) := by decide +kernel
theorem dX4_issue_106 : decode cX4_issue 106 = .ok (.putfield 85, 3) := by decide +kernel
theorem dX4_issue_109 : decode cX4_issue 109 = .ok (.iload_n 2, 1) := by decide +kernel
theorem dX4_issue_110 : decode cX4_issue 110 = .ok (.ireturn, 1) := by decide +kernel
theorem dX4_comesOff_0 : decode cX4_comesOff 0 = .ok (.iconst 0, 1) := by decide +kernel
theorem dX4_comesOff_1 : decode cX4_comesOff 1 = .ok (.istore_n 2, 1) := by decide +kernel
theorem dX4_comesOff_2 : decode cX4_comesOff 2 = .ok (.iconst 0, 1) := by decide +kernel
theorem dX4_comesOff_3 : decode cX4_comesOff 3 = .ok (.istore_n 3, 1) := by decide +kernel
theorem dX4_comesOff_4 : decode cX4_comesOff 4 = .ok (.iload_n 3, 1) := by decide +kernel
theorem dX4_comesOff_5 : decode cX4_comesOff 5 = .ok (.aload_n 0, 1) := by decide +kernel
theorem dX4_comesOff_6 : decode cX4_comesOff 6 = .ok (.getfield 85, 3) := by decide +kernel
theorem dX4_comesOff_9 : decode cX4_comesOff 9 = .ok (.if_icmp .ge 39, 3) := by decide +kernel
theorem dX4_comesOff_12 : decode cX4_comesOff 12 = .ok (.aload_n 0, 1) := by decide +kernel
theorem dX4_comesOff_13 : decode cX4_comesOff 13 = .ok (.getfield 39, 3) := by decide +kernel
theorem dX4_comesOff_16 : decode cX4_comesOff 16 = .ok (.iload_n 2, 1) := by decide +kernel
theorem dX4_comesOff_17 : decode cX4_comesOff 17 = .ok (.aload_n 0, 1) := by decide +kernel
theorem dX4_comesOff_18 : decode cX4_comesOff 18 = .ok (.getfield 39, 3) := by decide +kernel
theorem dX4_comesOff_21 : decode cX4_comesOff 21 = .ok (.iload_n 3, 1) := by decide +kernel
theorem dX4_comesOff_22 : decode cX4_comesOff 22 = .ok (.iaload, 1) := by decide +kernel
theorem dX4_comesOff_23 : decode cX4_comesOff 23 = .ok (.iastore, 1) := by decide +kernel
theorem dX4_comesOff_24 : decode cX4_comesOff 24 = .ok (.iload_n 2, 1) := by decide +kernel
theorem dX4_comesOff_25 : decode cX4_comesOff 25 = .ok (.aload_n 0, 1) := by decide +kernel
theorem dX4_comesOff_26 : decode cX4_comesOff 26 = .ok (.getfield 39, 3) := by decide +kernel
theorem dX4_comesOff_29 : decode cX4_comesOff 29 = .ok (.iload_n 3, 1) := by decide +kernel
theorem dX4_comesOff_30 : decode cX4_comesOff 30 = .ok (.iaload, 1) := by decide +kernel
theorem dX4_comesOff_31 : decode cX4_comesOff 31 = .ok (.iload_n 1, 1) := by decide +kernel
theorem dX4_comesOff_32 : decode cX4_comesOff 32 = .ok (.if_icmp .ne 7, 3) := by decide +kernel
theorem dX4_comesOff_35 : decode cX4_comesOff 35 = .ok (.iconst 0, 1) := by decide +kernel
theorem dX4_comesOff_36 : decode cX4_comesOff 36 = .ok (.goto 4, 3) := by decide +kernel
theorem dX4_comesOff_39 : decode cX4_comesOff 39 = .ok (.iconst 1, 1) := by decide +kernel
theorem dX4_comesOff_40 : decode cX4_comesOff 40 = .ok (.iadd, 1) := by decide +kernel
theorem dX4_comesOff_41 : decode cX4_comesOff 41 = .ok (.istore_n 2, 1) := by decide +kernel
theorem dX4_comesOff_42 : decode cX4_comesOff 42 = .ok (.iinc 3 1, 3) := by decide +kernel
theorem dX4_comesOff_45 : decode cX4_comesOff 45 = .ok (.goto (-41), 3) := by decide +kernel
theorem dX4_comesOff_48 : decode cX4_comesOff 48 = .ok (.aload_n 0, 1) := by decide +kernel
theorem dX4_comesOff_49 : decode cX4_comesOff 49 = .ok (.iload_n 2, 1) := by decide +kernel
theorem dX4_comesOff_50 : decode cX4_comesOff 50 = .ok (.putfield 85, 3) := by decide +kernel
theorem dX4_comesOff_53 : decode cX4_comesOff 53 = .ok (.iconst 0, 1) := by decide +kernel
theorem dX4_comesOff_54 : decode cX4_comesOff 54 = .ok (.istore_n 2, 1) := by decide +kernel
theorem dX4_comesOff_55 : decode cX4_comesOff 55 = .ok (.iconst 0, 1) := by decide +kernel
theorem dX4_comesOff_56 : decode cX4_comesOff 56 = .ok (.istore_n 3, 1) := by decide +kernel
theorem dX4_comesOff_57 : decode cX4_comesOff 57 = .ok (.iload_n 3, 1) := by decide +kernel
theorem dX4_comesOff_58 : decode cX4_comesOff 58 = .ok (.aload_n 0, 1) := by decide +kernel
theorem dX4_comesOff_59 : decode cX4_comesOff 59 = .ok (.getfield 88, 3) := by decide +kernel
theorem dX4_comesOff_62 : decode cX4_comesOff 62 = .ok (.if_icmp .ge 41, 3) := by decide +kernel
theorem dX4_comesOff_65 : decode cX4_comesOff 65 = .ok (.aload_n 0, 1) := by decide +kernel
theorem dX4_comesOff_66 : decode cX4_comesOff 66 = .ok (.getfield 42, 3) := by decide +kernel
theorem dX4_comesOff_69 : decode cX4_comesOff 69 = .ok (.iload_n 2, 1) := by decide +kernel
theorem dX4_comesOff_70 : decode cX4_comesOff 70 = .ok (.aload_n 0, 1) := by decide +kernel
theorem dX4_comesOff_71 : decode cX4_comesOff 71 = .ok (.getfield 42, 3) := by decide +kernel
theorem dX4_comesOff_74 : decode cX4_comesOff 74 = .ok (.iload_n 3, 1) := by decide +kernel
theorem dX4_comesOff_75 : decode cX4_comesOff 75 = .ok (.iaload, 1) := by decide +kernel
theorem dX4_comesOff_76 : decode cX4_comesOff 76 = .ok (.iastore, 1) := by decide +kernel
theorem dX4_comesOff_77 : decode cX4_comesOff 77 = .ok (.iload_n 2, 1) := by decide +kernel
theorem dX4_comesOff_78 : decode cX4_comesOff 78 = .ok (.aload_n 0, 1) := by decide +kernel
theorem dX4_comesOff_79 : decode cX4_comesOff 79 = .ok (.getfield 42, 3) := by decide +kernel
theorem dX4_comesOff_82 : decode cX4_comesOff 82 = .ok (.iload_n 3, 1) := by decide +kernel
theorem dX4_comesOff_83 : decode cX4_comesOff 83 = .ok (.iaload, 1) := by decide +kernel
theorem dX4_comesOff_84 : decode cX4_comesOff 84 = .ok (.iconst 2, 1) := by decide +kernel
theorem dX4_comesOff_85 : decode cX4_comesOff 85 = .ok (.idiv, 1) := by decide +kernel
theorem dX4_comesOff_86 : decode cX4_comesOff 86 = .ok (.iload_n 1, 1) := by decide +kernel
theorem dX4_comesOff_87 : decode cX4_comesOff 87 = .ok (.if_icmp .ne 7, 3) := by decide +kernel
theorem dX4_comesOff_90 : decode cX4_comesOff 90 = .ok (.iconst 0, 1) := by decide +kernel
theorem dX4_comesOff_91 : decode cX4_comesOff 91 = .ok (.goto 4, 3) := by decide +kernel
theorem dX4_comesOff_94 : decode cX4_comesOff 94 = .ok (.iconst 1, 1) := by decide +kernel
theorem dX4_comesOff_95 : decode cX4_comesOff 95 = .ok (.iadd, 1) := by decide +kernel
theorem dX4_comesOff_96 : decode cX4_comesOff 96 = .ok (.istore_n 2, 1) := by decide +kernel
theorem dX4_comesOff_97 : decode cX4_comesOff 97 = .ok (.iinc 3 1, 3) := by decide +kernel
theorem dX4_comesOff_100 : decode cX4_comesOff 100 = .ok (.goto (-43), 3) := by decide +kernel
theorem dX4_comesOff_103 : decode cX4_comesOff 103 = .ok (.aload_n 0, 1) := by decide +kernel
theorem dX4_comesOff_104 : decode cX4_comesOff 104 = .ok (.iload_n 2, 1) := by decide +kernel
theorem dX4_comesOff_105 : decode cX4_comesOff 105 = .ok (.putfield 88, 3) := by decide +kernel
theorem dX4_comesOff_108 : decode cX4_comesOff 108 = .ok (.aload_n 0, 1) := by decide +kernel
theorem dX4_comesOff_109 : decode cX4_comesOff 109 = .ok (.getfield 33, 3) := by decide +kernel
theorem dX4_comesOff_112 : decode cX4_comesOff 112 = .ok (.iload_n 1, 1) := by decide +kernel
theorem dX4_comesOff_113 : decode cX4_comesOff 113 = .ok (.iconst (-1), 1) := by decide +kernel
theorem dX4_comesOff_114 : decode cX4_comesOff 114 = .ok (.iastore, 1) := by decide +kernel
theorem dX4_comesOff_115 : decode cX4_comesOff 115 = .ok (.return_, 1) := by decide +kernel
set_option maxRecDepth 20000 in
theorem ggX4_back_X4_isMiner : GoodIn wsX4_back wsX4_isMiner := goodIn_r _ [15, 16, 17, 18, 14, 19, 28, 29, 30, 31, 32, 33, 34, 35, 36, 37, 38, 39, 40, 41, 42, 43, 44] (by decide +kernel) (by decide +kernel)
set_option maxRecDepth 20000 in
theorem gX4_back_X4_isMiner : GoodIn wsX4_back (wsV RX4 75 RX4 yX4_isMiner wsX4_isMiner) := goodIn_app (goodIn_of _ (by decide +kernel)) ggX4_back_X4_isMiner
set_option maxRecDepth 20000 in
theorem ggX4_back_X4_comesOff : GoodIn wsX4_back wsX4_comesOff := goodIn_r _ [23, 24, 25, 26, 27, 1, 28, 29, 30, 31, 32, 33, 34, 35, 36, 37, 38, 39, 40, 41, 42, 43, 44] (by decide +kernel) (by decide +kernel)
set_option maxRecDepth 20000 in
theorem gX4_back_X4_comesOff : GoodIn wsX4_back (wsV RX4 93 RX4 yX4_comesOff wsX4_comesOff) := goodIn_app (goodIn_of _ (by decide +kernel)) ggX4_back_X4_comesOff
theorem dX4_back_0 : decode cX4_back 0 = .ok (.aload_n 0, 1) := by decide +kernel
theorem dX4_back_1 : decode cX4_back 1 = .ok (.aload_n 0, 1) := by decide +kernel
theorem dX4_back_2 : decode cX4_back 2 = .ok (.iload_n 1, 1) := by decide +kernel
theorem dX4_back_3 : decode cX4_back 3 = .ok (.invokevirtual 75, 3) := by decide +kernel
theorem dX4_back_6 : decode cX4_back 6 = .ok (.ifCond .ne 7, 3) := by decide +kernel
theorem dX4_back_9 : decode cX4_back 9 = .ok (.iconst 1, 1) := by decide +kernel
theorem dX4_back_10 : decode cX4_back 10 = .ok (.goto 18, 3) := by decide +kernel
theorem dX4_back_13 : decode cX4_back 13 = .ok (.aload_n 0, 1) := by decide +kernel
theorem dX4_back_14 : decode cX4_back 14 = .ok (.getfield 33, 3) := by decide +kernel
theorem dX4_back_17 : decode cX4_back 17 = .ok (.iload_n 1, 1) := by decide +kernel
theorem dX4_back_18 : decode cX4_back 18 = .ok (.iaload, 1) := by decide +kernel
theorem dX4_back_19 : decode cX4_back 19 = .ok (.iconst (-1), 1) := by decide +kernel
theorem dX4_back_20 : decode cX4_back 20 = .ok (.if_icmp .ne 7, 3) := by decide +kernel
theorem dX4_back_23 : decode cX4_back 23 = .ok (.iconst 2, 1) := by decide +kernel
theorem dX4_back_24 : decode cX4_back 24 = .ok (.goto 4, 3) := by decide +kernel
theorem dX4_back_27 : decode cX4_back 27 = .ok (.iconst 0, 1) := by decide +kernel
theorem dX4_back_28 : decode cX4_back 28 = .ok (.putfield 45, 3) := by decide +kernel
theorem dX4_back_31 : decode cX4_back 31 = .ok (.aload_n 0, 1) := by decide +kernel
theorem dX4_back_32 : decode cX4_back 32 = .ok (.getfield 45, 3) := by decide +kernel
theorem dX4_back_35 : decode cX4_back 35 = .ok (.ifCond .le 5, 3) := by decide +kernel
theorem dX4_back_38 : decode cX4_back 38 = .ok (.iconst 0, 1) := by decide +kernel
theorem dX4_back_39 : decode cX4_back 39 = .ok (.ireturn, 1) := by decide +kernel
theorem dX4_back_40 : decode cX4_back 40 = .ok (.aload_n 0, 1) := by decide +kernel
theorem dX4_back_41 : decode cX4_back 41 = .ok (.getfield 33, 3) := by decide +kernel
theorem dX4_back_44 : decode cX4_back 44 = .ok (.iload_n 1, 1) := by decide +kernel
theorem dX4_back_45 : decode cX4_back 45 = .ok (.iaload, 1) := by decide +kernel
theorem dX4_back_46 : decode cX4_back 46 = .ok (.istore_n 2, 1) := by decide +kernel
theorem dX4_back_47 : decode cX4_back 47 = .ok (.aload_n 0, 1) := by decide +kernel
theorem dX4_back_48 : decode cX4_back 48 = .ok (.getfield 13, 3) := by decide +kernel
theorem dX4_back_51 : decode cX4_back 51 = .ok (.iload_n 2, 1) := by decide +kernel
theorem dX4_back_52 : decode cX4_back 52 = .ok (.iconst 0, 1) := by decide +kernel
theorem dX4_back_53 : decode cX4_back 53 = .ok (.iastore, 1) := by decide +kernel
theorem dX4_back_54 : decode cX4_back 54 = .ok (.aload_n 0, 1) := by decide +kernel
theorem dX4_back_55 : decode cX4_back 55 = .ok (.getfield 16, 3) := by decide +kernel
theorem dX4_back_58 : decode cX4_back 58 = .ok (.iload_n 2, 1) := by decide +kernel
theorem dX4_back_59 : decode cX4_back 59 = .ok (.dup2, 1) := by decide +kernel
theorem dX4_back_60 : decode cX4_back 60 = .ok (.iaload, 1) := by decide +kernel
theorem dX4_back_61 : decode cX4_back 61 = .ok (.iconst 1, 1) := by decide +kernel
theorem dX4_back_62 : decode cX4_back 62 = .ok (.iadd, 1) := by decide +kernel
theorem dX4_back_63 : decode cX4_back 63 = .ok (.iastore, 1) := by decide +kernel
theorem dX4_back_64 : decode cX4_back 64 = .ok (.aload_n 0, 1) := by decide +kernel
theorem dX4_back_65 : decode cX4_back 65 = .ok (.getfield 27, 3) := by decide +kernel
theorem dX4_back_68 : decode cX4_back 68 = .ok (.iload_n 2, 1) := by decide +kernel
theorem dX4_back_69 : decode cX4_back 69 = .ok (.aload_n 0, 1) := by decide +kernel
theorem dX4_back_70 : decode cX4_back 70 = .ok (.getfield 27, 3) := by decide +kernel
theorem dX4_back_73 : decode cX4_back 73 = .ok (.iload_n 2, 1) := by decide +kernel
theorem dX4_back_74 : decode cX4_back 74 = .ok (.daload, 1) := by decide +kernel
theorem dX4_back_75 : decode cX4_back 75 = .ok (.ldc2_w 91, 3) := by decide +kernel
theorem dX4_back_78 : decode cX4_back 78 = .ok (.dmul, 1) := by decide +kernel
theorem dX4_back_79 : decode cX4_back 79 = .ok (.dastore, 1) := by decide +kernel
theorem dX4_back_80 : decode cX4_back 80 = .ok (.aload_n 0, 1) := by decide +kernel
theorem dX4_back_81 : decode cX4_back 81 = .ok (.getfield 23, 3) := by decide +kernel
theorem dX4_back_84 : decode cX4_back 84 = .ok (.iload_n 2, 1) := by decide +kernel
theorem dX4_back_85 : decode cX4_back 85 = .ok (.aload_n 0, 1) := by decide +kernel
theorem dX4_back_86 : decode cX4_back 86 = .ok (.getfield 23, 3) := by decide +kernel
theorem dX4_back_89 : decode cX4_back 89 = .ok (.iload_n 2, 1) := by decide +kernel
theorem dX4_back_90 : decode cX4_back 90 = .ok (.daload, 1) := by decide +kernel
theorem dX4_back_91 : decode cX4_back 91 = .ok (.aload_n 0, 1) := by decide +kernel
theorem dX4_back_92 : decode cX4_back 92 = .ok (.getfield 27, 3) := by decide +kernel
theorem dX4_back_95 : decode cX4_back 95 = .ok (.iload_n 2, 1) := by decide +kernel
theorem dX4_back_96 : decode cX4_back 96 = .ok (.daload, 1) := by decide +kernel
theorem dX4_back_97 : decode cX4_back 97 = .ok (.dcmp .l, 1) := by decide +kernel
theorem dX4_back_98 : decode cX4_back 98 = .ok (.ifCond .le 12, 3) := by decide +kernel
theorem dX4_back_101 : decode cX4_back 101 = .ok (.aload_n 0, 1) := by decide +kernel
theorem dX4_back_102 : decode cX4_back 102 = .ok (.getfield 27, 3) := by decide +kernel
theorem dX4_back_105 : decode cX4_back 105 = .ok (.iload_n 2, 1) := by decide +kernel
theorem dX4_back_106 : decode cX4_back 106 = .ok (.daload, 1) := by decide +kernel
theorem dX4_back_107 : decode cX4_back 107 = .ok (.goto 9, 3) := by decide +kernel
theorem dX4_back_110 : decode cX4_back 110 = .ok (.aload_n 0, 1) := by decide +kernel
theorem dX4_back_111 : decode cX4_back 111 = .ok (.getfield 23, 3) := by decide +kernel
theorem dX4_back_114 : decode cX4_back 114 = .ok (.iload_n 2, 1) := by decide +kernel
theorem dX4_back_115 : decode cX4_back 115 = .ok (.daload, 1) := by decide +kernel
theorem dX4_back_116 : decode cX4_back 116 = .ok (.dastore, 1) := by decide +kernel
theorem dX4_back_117 : decode cX4_back 117 = .ok (.aload_n 0, 1) := by decide +kernel
theorem dX4_back_118 : decode cX4_back 118 = .ok (.getfield 19, 3) := by decide +kernel
theorem dX4_back_121 : decode cX4_back 121 = .ok (.iload_n 2, 1) := by decide +kernel
theorem dX4_back_122 : decode cX4_back 122 = .ok (.aload_n 0, 1) := by decide +kernel
theorem dX4_back_123 : decode cX4_back 123 = .ok (.getfield 19, 3) := by decide +kernel
theorem dX4_back_126 : decode cX4_back 126 = .ok (.iload_n 2, 1) := by decide +kernel
theorem dX4_back_127 : decode cX4_back 127 = .ok (.baload, 1) := by decide +kernel
theorem dX4_back_128 : decode cX4_back 128 = .ok (.ifCond .ne 15, 3) := by decide +kernel
theorem dX4_back_131 : decode cX4_back 131 = .ok (.aload_n 0, 1) := by decide +kernel
theorem dX4_back_132 : decode cX4_back 132 = .ok (.getfield 16, 3) := by decide +kernel
theorem dX4_back_135 : decode cX4_back 135 = .ok (.iload_n 2, 1) := by decide +kernel
theorem dX4_back_136 : decode cX4_back 136 = .ok (.iaload, 1) := by decide +kernel
theorem dX4_back_137 : decode cX4_back 137 = .ok (.bipush 7, 2) := by decide +kernel
theorem dX4_back_139 : decode cX4_back 139 = .ok (.irem, 1) := by decide +kernel
theorem dX4_back_140 : decode cX4_back 140 = .ok (.ifCond .ne 7, 3) := by decide +kernel
theorem dX4_back_143 : decode cX4_back 143 = .ok (.iconst 1, 1) := by decide +kernel
theorem dX4_back_144 : decode cX4_back 144 = .ok (.goto 4, 3) := by decide +kernel
theorem dX4_back_147 : decode cX4_back 147 = .ok (.iconst 0, 1) := by decide +kernel
theorem dX4_back_148 : decode cX4_back 148 = .ok (.bastore, 1) := by decide +kernel
theorem dX4_back_149 : decode cX4_back 149 = .ok (.aload_n 0, 1) := by decide +kernel
theorem dX4_back_150 : decode cX4_back 150 = .ok (.iload_n 1, 1) := by decide +kernel
theorem dX4_back_151 : decode cX4_back 151 = .ok (.invokevirtual 93, 3) := by decide +kernel
theorem dX4_back_154 : decode cX4_back 154 = .ok (.aload_n 0, 1) := by decide +kernel
theorem dX4_back_155 : decode cX4_back 155 = .ok (.getfield 82, 3) := by decide +kernel
theorem dX4_back_158 : decode cX4_back 158 = .ok (.aload_n 0, 1) := by decide +kernel
theorem dX4_back_159 : decode cX4_back 159 = .ok (.getfield 36, 3) := by decide +kernel
theorem dX4_back_162 : decode cX4_back 162 = .ok (.iload_n 1, 1) := by decide +kernel
theorem dX4_back_163 : decode cX4_back 163 = .ok (.iaload, 1) := by decide +kernel
theorem dX4_back_164 : decode cX4_back 164 = .ok (.isub, 1) := by decide +kernel
theorem dX4_back_165 : decode cX4_back 165 = .ok (.ireturn, 1) := by decide +kernel
set_option maxRecDepth 20000 in
theorem ggX4_isWeak_X4_full : GoodIn wsX4_isWeak wsX4_full := goodIn_r _ [7, 8, 9, 10] (by decide +kernel) (by decide +kernel)
set_option maxRecDepth 20000 in
theorem gX4_isWeak_X4_full : GoodIn wsX4_isWeak (va_wsS RX4 65 yX4_full wsX4_full) := goodIn_app (goodIn_of _ (by decide +kernel)) ggX4_isWeak_X4_full
theorem dX4_isWeak_0 : decode cX4_isWeak 0 = .ok (.aload_n 0, 1) := by decide +kernel
theorem dX4_isWeak_1 : decode cX4_isWeak 1 = .ok (.getfield 27, 3) := by decide +kernel
theorem dX4_isWeak_4 : decode cX4_isWeak 4 = .ok (.iload_n 1, 1) := by decide +kernel
theorem dX4_isWeak_5 : decode cX4_isWeak 5 = .ok (.daload, 1) := by decide +kernel
theorem dX4_isWeak_6 : decode cX4_isWeak 6 = .ok (.ldc2_w 97, 3) := by decide +kernel
theorem dX4_isWeak_9 : decode cX4_isWeak 9 = .ok (.aload_n 0, 1) := by decide +kernel
theorem dX4_isWeak_10 : decode cX4_isWeak 10 = .ok (.getfield 7, 3) := by decide +kernel
theorem dX4_isWeak_13 : decode cX4_isWeak 13 = .ok (.iload_n 1, 1) := by decide +kernel
theorem dX4_isWeak_14 : decode cX4_isWeak 14 = .ok (.iaload, 1) := by decide +kernel
theorem dX4_isWeak_15 : decode cX4_isWeak 15 = .ok (.invokestatic 65, 3) := by decide +kernel
theorem dX4_isWeak_18 : decode cX4_isWeak 18 = .ok (.dmul, 1) := by decide +kernel
theorem dX4_isWeak_19 : decode cX4_isWeak 19 = .ok (.dcmp .g, 1) := by decide +kernel
theorem dX4_isWeak_20 : decode cX4_isWeak 20 = .ok (.ifCond .ge 7, 3) := by decide +kernel
theorem dX4_isWeak_23 : decode cX4_isWeak 23 = .ok (.iconst 1, 1) := by decide +kernel
theorem dX4_isWeak_24 : decode cX4_isWeak 24 = .ok (.goto 4, 3) := by decide +kernel
theorem dX4_isWeak_27 : decode cX4_isWeak 27 = .ok (.iconst 0, 1) := by decide +kernel
theorem dX4_isWeak_28 : decode cX4_isWeak 28 = .ok (.ireturn, 1) := by decide +kernel
set_option maxRecDepth 20000 in
theorem ggX4_test_X4_isLamp : GoodIn wsX4_test wsX4_isLamp := goodIn_r _ [8, 9, 10, 11, 7, 12, 26, 27, 28, 29, 30, 31, 32, 33, 34, 35, 36, 37, 38, 39, 40, 41, 42] (by decide +kernel) (by decide +kernel)
set_option maxRecDepth 20000 in
theorem gX4_test_X4_isLamp : GoodIn wsX4_test (wsV RX4 99 RX4 yX4_isLamp wsX4_isLamp) := goodIn_app (goodIn_of _ (by decide +kernel)) ggX4_test_X4_isLamp
set_option maxRecDepth 20000 in
theorem ggX4_test_X4_isWeak : GoodIn wsX4_test wsX4_isWeak := goodIn_r _ [16, 17, 18, 19, 20, 21, 7, 22, 23, 24, 25, 26, 27, 28, 29, 30, 31, 32, 33, 34, 35, 36, 37, 38, 39, 40, 41, 42] (by decide +kernel) (by decide +kernel)
set_option maxRecDepth 20000 in
theorem gX4_test_X4_isWeak : GoodIn wsX4_test (wsV RX4 102 RX4 yX4_isWeak wsX4_isWeak) := goodIn_app (goodIn_of _ (by decide +kernel)) ggX4_test_X4_isWeak
theorem dX4_test_0 : decode cX4_test 0 = .ok (.aload_n 0, 1) := by decide +kernel
theorem dX4_test_1 : decode cX4_test 1 = .ok (.aload_n 0, 1) := by decide +kernel
theorem dX4_test_2 : decode cX4_test 2 = .ok (.iload_n 1, 1) := by decide +kernel
theorem dX4_test_3 : decode cX4_test 3 = .ok (.invokevirtual 99, 3) := by decide +kernel
theorem dX4_test_6 : decode cX4_test 6 = .ok (.ifCond .ne 7, 3) := by decide +kernel
theorem dX4_test_9 : decode cX4_test 9 = .ok (.iconst 1, 1) := by decide +kernel
theorem dX4_test_10 : decode cX4_test 10 = .ok (.goto 17, 3) := by decide +kernel
theorem dX4_test_13 : decode cX4_test 13 = .ok (.aload_n 0, 1) := by decide +kernel
theorem dX4_test_14 : decode cX4_test 14 = .ok (.getfield 13, 3) := by decide +kernel
theorem dX4_test_17 : decode cX4_test 17 = .ok (.iload_n 1, 1) := by decide +kernel
theorem dX4_test_18 : decode cX4_test 18 = .ok (.iaload, 1) := by decide +kernel
theorem dX4_test_19 : decode cX4_test 19 = .ok (.ifCond .ne 7, 3) := by decide +kernel
theorem dX4_test_22 : decode cX4_test 22 = .ok (.iconst 0, 1) := by decide +kernel
theorem dX4_test_23 : decode cX4_test 23 = .ok (.goto 4, 3) := by decide +kernel
theorem dX4_test_26 : decode cX4_test 26 = .ok (.iconst 2, 1) := by decide +kernel
theorem dX4_test_27 : decode cX4_test 27 = .ok (.putfield 45, 3) := by decide +kernel
theorem dX4_test_30 : decode cX4_test 30 = .ok (.aload_n 0, 1) := by decide +kernel
theorem dX4_test_31 : decode cX4_test 31 = .ok (.getfield 45, 3) := by decide +kernel
theorem dX4_test_34 : decode cX4_test 34 = .ok (.ifCond .le 5, 3) := by decide +kernel
theorem dX4_test_37 : decode cX4_test 37 = .ok (.iconst 0, 1) := by decide +kernel
theorem dX4_test_38 : decode cX4_test 38 = .ok (.ireturn, 1) := by decide +kernel
theorem dX4_test_39 : decode cX4_test 39 = .ok (.aload_n 0, 1) := by decide +kernel
theorem dX4_test_40 : decode cX4_test 40 = .ok (.getfield 19, 3) := by decide +kernel
theorem dX4_test_43 : decode cX4_test 43 = .ok (.iload_n 1, 1) := by decide +kernel
theorem dX4_test_44 : decode cX4_test 44 = .ok (.baload, 1) := by decide +kernel
theorem dX4_test_45 : decode cX4_test 45 = .ok (.ifCond .eq 7, 3) := by decide +kernel
theorem dX4_test_48 : decode cX4_test 48 = .ok (.iconst 1, 1) := by decide +kernel
theorem dX4_test_49 : decode cX4_test 49 = .ok (.goto 16, 3) := by decide +kernel
theorem dX4_test_52 : decode cX4_test 52 = .ok (.aload_n 0, 1) := by decide +kernel
theorem dX4_test_53 : decode cX4_test 53 = .ok (.iload_n 1, 1) := by decide +kernel
theorem dX4_test_54 : decode cX4_test 54 = .ok (.invokevirtual 102, 3) := by decide +kernel
theorem dX4_test_57 : decode cX4_test 57 = .ok (.ifCond .eq 7, 3) := by decide +kernel
theorem dX4_test_60 : decode cX4_test 60 = .ok (.iconst 2, 1) := by decide +kernel
theorem dX4_test_61 : decode cX4_test 61 = .ok (.goto 4, 3) := by decide +kernel
theorem dX4_test_64 : decode cX4_test 64 = .ok (.iconst 0, 1) := by decide +kernel
theorem dX4_test_65 : decode cX4_test 65 = .ok (.istore_n 2, 1) := by decide +kernel
theorem dX4_test_66 : decode cX4_test 66 = .ok (.aload_n 0, 1) := by decide +kernel
theorem dX4_test_67 : decode cX4_test 67 = .ok (.getfield 13, 3) := by decide +kernel
theorem dX4_test_70 : decode cX4_test 70 = .ok (.iload_n 1, 1) := by decide +kernel
theorem dX4_test_71 : decode cX4_test 71 = .ok (.iload_n 2, 1) := by decide +kernel
theorem dX4_test_72 : decode cX4_test 72 = .ok (.ifCond .le 7, 3) := by decide +kernel
theorem dX4_test_75 : decode cX4_test 75 = .ok (.iconst 2, 1) := by decide +kernel
theorem dX4_test_76 : decode cX4_test 76 = .ok (.goto 4, 3) := by decide +kernel
theorem dX4_test_79 : decode cX4_test 79 = .ok (.iconst 0, 1) := by decide +kernel
theorem dX4_test_80 : decode cX4_test 80 = .ok (.iastore, 1) := by decide +kernel
theorem dX4_test_81 : decode cX4_test 81 = .ok (.iload_n 2, 1) := by decide +kernel
theorem dX4_test_82 : decode cX4_test 82 = .ok (.ireturn, 1) := by decide +kernel
set_option maxRecDepth 20000 in
theorem ggX4_mend_X4_isLamp : GoodIn wsX4_mend wsX4_isLamp := goodIn_r _ [8, 9, 10, 11, 7, 12, 26, 27, 28, 29, 30, 31, 32, 33, 34, 35, 36, 37, 38, 39, 40, 41, 42] (by decide +kernel) (by decide +kernel)
set_option maxRecDepth 20000 in
theorem gX4_mend_X4_isLamp : GoodIn wsX4_mend (wsV RX4 99 RX4 yX4_isLamp wsX4_isLamp) := goodIn_app (goodIn_of _ (by decide +kernel)) ggX4_mend_X4_isLamp
set_option maxRecDepth 20000 in
theorem ggX4_mend_X4_isWeak : GoodIn wsX4_mend wsX4_isWeak := goodIn_r _ [16, 17, 18, 19, 20, 21, 7, 22, 23, 24, 25, 26, 27, 28, 29, 30, 31, 32, 33, 34, 35, 36, 37, 38, 39, 40, 41, 42] (by decide +kernel) (by decide +kernel)
set_option maxRecDepth 20000 in
theorem gX4_mend_X4_isWeak : GoodIn wsX4_mend (wsV RX4 102 RX4 yX4_isWeak wsX4_isWeak) := goodIn_app (goodIn_of _ (by decide +kernel)) ggX4_mend_X4_isWeak
theorem dX4_mend_0 : decode cX4_mend 0 = .ok (.aload_n 0, 1) := by decide +kernel
theorem dX4_mend_1 : decode cX4_mend 1 = .ok (.aload_n 0, 1) := by decide +kernel
theorem dX4_mend_2 : decode cX4_mend 2 = .ok (.iload_n 1, 1) := by decide +kernel
theorem dX4_mend_3 : decode cX4_mend 3 = .ok (.invokevirtual 99, 3) := by decide +kernel
theorem dX4_mend_6 : decode cX4_mend 6 = .ok (.ifCond .ne 7, 3) := by decide +kernel
theorem dX4_mend_9 : decode cX4_mend 9 = .ok (.iconst 1, 1) := by decide +kernel
theorem dX4_mend_10 : decode cX4_mend 10 = .ok (.goto 18, 3) := by decide +kernel
theorem dX4_mend_13 : decode cX4_mend 13 = .ok (.aload_n 0, 1) := by decide +kernel
theorem dX4_mend_14 : decode cX4_mend 14 = .ok (.getfield 13, 3) := by decide +kernel
theorem dX4_mend_17 : decode cX4_mend 17 = .ok (.iload_n 1, 1) := by decide +kernel
theorem dX4_mend_18 : decode cX4_mend 18 = .ok (.iaload, 1) := by decide +kernel
theorem dX4_mend_19 : decode cX4_mend 19 = .ok (.iconst 2, 1) := by decide +kernel
theorem dX4_mend_20 : decode cX4_mend 20 = .ok (.if_icmp .ne 7, 3) := by decide +kernel
theorem dX4_mend_23 : decode cX4_mend 23 = .ok (.iconst 0, 1) := by decide +kernel
theorem dX4_mend_24 : decode cX4_mend 24 = .ok (.goto 4, 3) := by decide +kernel
theorem dX4_mend_27 : decode cX4_mend 27 = .ok (.iconst 2, 1) := by decide +kernel
theorem dX4_mend_28 : decode cX4_mend 28 = .ok (.putfield 45, 3) := by decide +kernel
theorem dX4_mend_31 : decode cX4_mend 31 = .ok (.aload_n 0, 1) := by decide +kernel
theorem dX4_mend_32 : decode cX4_mend 32 = .ok (.getfield 45, 3) := by decide +kernel
theorem dX4_mend_35 : decode cX4_mend 35 = .ok (.ifCond .le 5, 3) := by decide +kernel
theorem dX4_mend_38 : decode cX4_mend 38 = .ok (.iconst 0, 1) := by decide +kernel
theorem dX4_mend_39 : decode cX4_mend 39 = .ok (.ireturn, 1) := by decide +kernel
theorem dX4_mend_40 : decode cX4_mend 40 = .ok (.aload_n 0, 1) := by decide +kernel
theorem dX4_mend_41 : decode cX4_mend 41 = .ok (.getfield 19, 3) := by decide +kernel
theorem dX4_mend_44 : decode cX4_mend 44 = .ok (.iload_n 1, 1) := by decide +kernel
theorem dX4_mend_45 : decode cX4_mend 45 = .ok (.iconst 0, 1) := by decide +kernel
theorem dX4_mend_46 : decode cX4_mend 46 = .ok (.bastore, 1) := by decide +kernel
theorem dX4_mend_47 : decode cX4_mend 47 = .ok (.aload_n 0, 1) := by decide +kernel
theorem dX4_mend_48 : decode cX4_mend 48 = .ok (.getfield 13, 3) := by decide +kernel
theorem dX4_mend_51 : decode cX4_mend 51 = .ok (.iload_n 1, 1) := by decide +kernel
theorem dX4_mend_52 : decode cX4_mend 52 = .ok (.aload_n 0, 1) := by decide +kernel
theorem dX4_mend_53 : decode cX4_mend 53 = .ok (.iload_n 1, 1) := by decide +kernel
theorem dX4_mend_54 : decode cX4_mend 54 = .ok (.invokevirtual 102, 3) := by decide +kernel
theorem dX4_mend_57 : decode cX4_mend 57 = .ok (.ifCond .eq 7, 3) := by decide +kernel
theorem dX4_mend_60 : decode cX4_mend 60 = .ok (.iconst 3, 1) := by decide +kernel
theorem dX4_mend_61 : decode cX4_mend 61 = .ok (.goto 4, 3) := by decide +kernel
theorem dX4_mend_64 : decode cX4_mend 64 = .ok (.iconst 0, 1) := by decide +kernel
theorem dX4_mend_65 : decode cX4_mend 65 = .ok (.iastore, 1) := by decide +kernel
theorem dX4_mend_66 : decode cX4_mend 66 = .ok (.aload_n 0, 1) := by decide +kernel
theorem dX4_mend_67 : decode cX4_mend 67 = .ok (.getfield 13, 3) := by decide +kernel
theorem dX4_mend_70 : decode cX4_mend 70 = .ok (.iload_n 1, 1) := by decide +kernel
theorem dX4_mend_71 : decode cX4_mend 71 = .ok (.iaload, 1) := by decide +kernel
theorem dX4_mend_72 : decode cX4_mend 72 = .ok (.ifCond .ne 7, 3) := by decide +kernel
theorem dX4_mend_75 : decode cX4_mend 75 = .ok (.iconst 1, 1) := by decide +kernel
theorem dX4_mend_76 : decode cX4_mend 76 = .ok (.goto 4, 3) := by decide +kernel
theorem dX4_mend_79 : decode cX4_mend 79 = .ok (.iconst 0, 1) := by decide +kernel
theorem dX4_mend_80 : decode cX4_mend 80 = .ok (.ireturn, 1) := by decide +kernel
theorem dX4_isAlarmed_0 : decode cX4_isAlarmed 0 = .ok (.iconst 0, 1) := by decide +kernel
theorem dX4_isAlarmed_1 : decode cX4_isAlarmed 1 = .ok (.istore_n 2, 1) := by decide +kernel
theorem dX4_isAlarmed_2 : decode cX4_isAlarmed 2 = .ok (.iconst 0, 1) := by decide +kernel
theorem dX4_isAlarmed_3 : decode cX4_isAlarmed 3 = .ok (.istore_n 3, 1) := by decide +kernel
theorem dX4_isAlarmed_4 : decode cX4_isAlarmed 4 = .ok (.iload_n 3, 1) := by decide +kernel
theorem dX4_isAlarmed_5 : decode cX4_isAlarmed 5 = .ok (.aload_n 0, 1) := by decide +kernel
theorem dX4_isAlarmed_6 : decode cX4_isAlarmed 6 = .ok (.getfield 88, 3) := by decide +kernel
theorem dX4_isAlarmed_9 : decode cX4_isAlarmed 9 = .ok (.if_icmp .ge 29, 3) := by decide +kernel
theorem dX4_isAlarmed_12 : decode cX4_isAlarmed 12 = .ok (.iload_n 2, 1) := by decide +kernel
theorem dX4_isAlarmed_13 : decode cX4_isAlarmed 13 = .ok (.ifCond .ne 13, 3) := by decide +kernel
theorem dX4_isAlarmed_16 : decode cX4_isAlarmed 16 = .ok (.aload_n 0, 1) := by decide +kernel
theorem dX4_isAlarmed_17 : decode cX4_isAlarmed 17 = .ok (.getfield 42, 3) := by decide +kernel
theorem dX4_isAlarmed_20 : decode cX4_isAlarmed 20 = .ok (.iload_n 3, 1) := by decide +kernel
theorem dX4_isAlarmed_21 : decode cX4_isAlarmed 21 = .ok (.iaload, 1) := by decide +kernel
theorem dX4_isAlarmed_22 : decode cX4_isAlarmed 22 = .ok (.iload_n 1, 1) := by decide +kernel
theorem dX4_isAlarmed_23 : decode cX4_isAlarmed 23 = .ok (.if_icmp .ne 7, 3) := by decide +kernel
theorem dX4_isAlarmed_26 : decode cX4_isAlarmed 26 = .ok (.iconst 1, 1) := by decide +kernel
theorem dX4_isAlarmed_27 : decode cX4_isAlarmed 27 = .ok (.goto 4, 3) := by decide +kernel
theorem dX4_isAlarmed_30 : decode cX4_isAlarmed 30 = .ok (.iconst 0, 1) := by decide +kernel
theorem dX4_isAlarmed_31 : decode cX4_isAlarmed 31 = .ok (.istore_n 2, 1) := by decide +kernel
theorem dX4_isAlarmed_32 : decode cX4_isAlarmed 32 = .ok (.iinc 3 1, 3) := by decide +kernel
theorem dX4_isAlarmed_35 : decode cX4_isAlarmed 35 = .ok (.goto (-31), 3) := by decide +kernel
theorem dX4_isAlarmed_38 : decode cX4_isAlarmed 38 = .ok (.iload_n 2, 1) := by decide +kernel
theorem dX4_isAlarmed_39 : decode cX4_isAlarmed 39 = .ok (.ireturn, 1) := by decide +kernel
set_option maxRecDepth 20000 in
theorem ggX4_begins_X4_isAlarmed : GoodIn wsX4_begins wsX4_isAlarmed := goodIn_r _ [7, 2, 1, 8, 9, 10, 11, 12, 13, 14, 15, 16, 17, 18, 19, 20, 21, 22, 23, 24] (by decide +kernel) (by decide +kernel)
set_option maxRecDepth 20000 in
theorem gX4_begins_X4_isAlarmed : GoodIn wsX4_begins (wsV RX4 105 RX4 yX4_isAlarmed wsX4_isAlarmed) := goodIn_app (goodIn_of _ (by decide +kernel)) ggX4_begins_X4_isAlarmed
theorem dX4_begins_0 : decode cX4_begins 0 = .ok (.iload_n 2, 1) := by decide +kernel
theorem dX4_begins_1 : decode cX4_begins 1 = .ok (.ifCond .eq 11, 3) := by decide +kernel
theorem dX4_begins_4 : decode cX4_begins 4 = .ok (.aload_n 0, 1) := by decide +kernel
theorem dX4_begins_5 : decode cX4_begins 5 = .ok (.iload_n 1, 1) := by decide +kernel
theorem dX4_begins_6 : decode cX4_begins 6 = .ok (.invokevirtual 105, 3) := by decide +kernel
theorem dX4_begins_9 : decode cX4_begins 9 = .ok (.ifCond .eq 5, 3) := by decide +kernel
theorem dX4_begins_12 : decode cX4_begins 12 = .ok (.iconst 0, 1) := by decide +kernel
theorem dX4_begins_13 : decode cX4_begins 13 = .ok (.ireturn, 1) := by decide +kernel
theorem dX4_begins_14 : decode cX4_begins 14 = .ok (.aload_n 0, 1) := by decide +kernel
theorem dX4_begins_15 : decode cX4_begins 15 = .ok (.getfield 42, 3) := by decide +kernel
theorem dX4_begins_18 : decode cX4_begins 18 = .ok (.aload_n 0, 1) := by decide +kernel
theorem dX4_begins_19 : decode cX4_begins 19 = .ok (.getfield 88, 3) := by decide +kernel
theorem dX4_begins_22 : decode cX4_begins 22 = .ok (.iload_n 1, 1) := by decide +kernel
theorem dX4_begins_23 : decode cX4_begins 23 = .ok (.iastore, 1) := by decide +kernel
theorem dX4_begins_24 : decode cX4_begins 24 = .ok (.aload_n 0, 1) := by decide +kernel
theorem dX4_begins_25 : decode cX4_begins 25 = .ok (.dup, 1) := by decide +kernel
theorem dX4_begins_26 : decode cX4_begins 26 = .ok (.getfield 88, 3) := by decide +kernel
theorem dX4_begins_29 : decode cX4_begins 29 = .ok (.iconst 1, 1) := by decide +kernel
theorem dX4_begins_30 : decode cX4_begins 30 = .ok (.iadd, 1) := by decide +kernel
theorem dX4_begins_31 : decode cX4_begins 31 = .ok (.putfield 88, 3) := by decide +kernel
theorem dX4_begins_34 : decode cX4_begins 34 = .ok (.iconst 1, 1) := by decide +kernel
theorem dX4_begins_35 : decode cX4_begins 35 = .ok (.ireturn, 1) := by decide +kernel
set_option maxRecDepth 20000 in
theorem ggX4_goesBy_X4_begins : GoodIn wsX4_goesBy wsX4_begins := goodIn_r _ [16, 17, 18, 19, 20, 21, 15, 22, 23, 24, 25, 26, 27, 28, 29, 30, 31, 32, 33, 34, 35, 36, 37, 38, 39] (by decide +kernel) (by decide +kernel)
set_option maxRecDepth 20000 in
theorem gX4_goesBy_X4_begins : GoodIn wsX4_goesBy (wsV RX4 112 RX4 yX4_begins wsX4_begins) := goodIn_app (goodIn_of _ (by decide +kernel)) ggX4_goesBy_X4_begins
theorem dX4_goesBy_0 : decode cX4_goesBy 0 = .ok (.iconst 0, 1) := by decide +kernel
theorem dX4_goesBy_1 : decode cX4_goesBy 1 = .ok (.istore_n 1, 1) := by decide +kernel
theorem dX4_goesBy_2 : decode cX4_goesBy 2 = .ok (.iload_n 1, 1) := by decide +kernel
theorem dX4_goesBy_3 : decode cX4_goesBy 3 = .ok (.aload_n 0, 1) := by decide +kernel
theorem dX4_goesBy_4 : decode cX4_goesBy 4 = .ok (.getfield 49, 3) := by decide +kernel
theorem dX4_goesBy_7 : decode cX4_goesBy 7 = .ok (.if_icmp .ge 60, 3) := by decide +kernel
theorem dX4_goesBy_10 : decode cX4_goesBy 10 = .ok (.aload_n 0, 1) := by decide +kernel
theorem dX4_goesBy_11 : decode cX4_goesBy 11 = .ok (.getfield 13, 3) := by decide +kernel
theorem dX4_goesBy_14 : decode cX4_goesBy 14 = .ok (.iload_n 1, 1) := by decide +kernel
theorem dX4_goesBy_15 : decode cX4_goesBy 15 = .ok (.iaload, 1) := by decide +kernel
theorem dX4_goesBy_16 : decode cX4_goesBy 16 = .ok (.iconst 1, 1) := by decide +kernel
theorem dX4_goesBy_17 : decode cX4_goesBy 17 = .ok (.if_icmp .ne 44, 3) := by decide +kernel
theorem dX4_goesBy_20 : decode cX4_goesBy 20 = .ok (.aload_n 0, 1) := by decide +kernel
theorem dX4_goesBy_21 : decode cX4_goesBy 21 = .ok (.getfield 23, 3) := by decide +kernel
theorem dX4_goesBy_24 : decode cX4_goesBy 24 = .ok (.iload_n 1, 1) := by decide +kernel
theorem dX4_goesBy_25 : decode cX4_goesBy 25 = .ok (.daload, 1) := by decide +kernel
theorem dX4_goesBy_26 : decode cX4_goesBy 26 = .ok (.aload_n 0, 1) := by decide +kernel
theorem dX4_goesBy_27 : decode cX4_goesBy 27 = .ok (.getfield 19, 3) := by decide +kernel
theorem dX4_goesBy_30 : decode cX4_goesBy 30 = .ok (.iload_n 1, 1) := by decide +kernel
theorem dX4_goesBy_31 : decode cX4_goesBy 31 = .ok (.baload, 1) := by decide +kernel
theorem dX4_goesBy_32 : decode cX4_goesBy 32 = .ok (.ifCond .eq 9, 3) := by decide +kernel
theorem dX4_goesBy_35 : decode cX4_goesBy 35 = .ok (.ldc2_w 108, 3) := by decide +kernel
theorem dX4_goesBy_38 : decode cX4_goesBy 38 = .ok (.goto 4, 3) := by decide +kernel
theorem dX4_goesBy_41 : decode cX4_goesBy 41 = .ok (.dconst 1, 1) := by decide +kernel
theorem dX4_goesBy_42 : decode cX4_goesBy 42 = .ok (.dsub, 1) := by decide +kernel
theorem dX4_goesBy_43 : decode cX4_goesBy 43 = .ok (.dstore_n 2, 1) := by decide +kernel
theorem dX4_goesBy_44 : decode cX4_goesBy 44 = .ok (.aload_n 0, 1) := by decide +kernel
theorem dX4_goesBy_45 : decode cX4_goesBy 45 = .ok (.getfield 23, 3) := by decide +kernel
theorem dX4_goesBy_48 : decode cX4_goesBy 48 = .ok (.iload_n 1, 1) := by decide +kernel
theorem dX4_goesBy_49 : decode cX4_goesBy 49 = .ok (.dload_n 2, 1) := by decide +kernel
theorem dX4_goesBy_50 : decode cX4_goesBy 50 = .ok (.dconst 0, 1) := by decide +kernel
theorem dX4_goesBy_51 : decode cX4_goesBy 51 = .ok (.dcmp .l, 1) := by decide +kernel
theorem dX4_goesBy_52 : decode cX4_goesBy 52 = .ok (.ifCond .le 7, 3) := by decide +kernel
theorem dX4_goesBy_55 : decode cX4_goesBy 55 = .ok (.dload_n 2, 1) := by decide +kernel
theorem dX4_goesBy_56 : decode cX4_goesBy 56 = .ok (.goto 4, 3) := by decide +kernel
theorem dX4_goesBy_59 : decode cX4_goesBy 59 = .ok (.dconst 0, 1) := by decide +kernel
theorem dX4_goesBy_60 : decode cX4_goesBy 60 = .ok (.dastore, 1) := by decide +kernel
theorem dX4_goesBy_61 : decode cX4_goesBy 61 = .ok (.iinc 1 1, 3) := by decide +kernel
theorem dX4_goesBy_64 : decode cX4_goesBy 64 = .ok (.goto (-62), 3) := by decide +kernel
theorem dX4_goesBy_67 : decode cX4_goesBy 67 = .ok (.iconst 0, 1) := by decide +kernel
theorem dX4_goesBy_68 : decode cX4_goesBy 68 = .ok (.istore_n 1, 1) := by decide +kernel
theorem dX4_goesBy_69 : decode cX4_goesBy 69 = .ok (.iconst 0, 1) := by decide +kernel
theorem dX4_goesBy_70 : decode cX4_goesBy 70 = .ok (.istore_n 2, 1) := by decide +kernel
theorem dX4_goesBy_71 : decode cX4_goesBy 71 = .ok (.iload_n 2, 1) := by decide +kernel
theorem dX4_goesBy_72 : decode cX4_goesBy 72 = .ok (.aload_n 0, 1) := by decide +kernel
theorem dX4_goesBy_73 : decode cX4_goesBy 73 = .ok (.getfield 49, 3) := by decide +kernel
theorem dX4_goesBy_76 : decode cX4_goesBy 76 = .ok (.if_icmp .ge 80, 3) := by decide +kernel
theorem dX4_goesBy_79 : decode cX4_goesBy 79 = .ok (.iload_n 1, 1) := by decide +kernel
theorem dX4_goesBy_80 : decode cX4_goesBy 80 = .ok (.iconst 5, 1) := by decide +kernel
theorem dX4_goesBy_81 : decode cX4_goesBy 81 = .ok (.if_icmp .ge 75, 3) := by decide +kernel
theorem dX4_goesBy_84 : decode cX4_goesBy 84 = .ok (.aload_n 0, 1) := by decide +kernel
theorem dX4_goesBy_85 : decode cX4_goesBy 85 = .ok (.getfield 13, 3) := by decide +kernel
theorem dX4_goesBy_88 : decode cX4_goesBy 88 = .ok (.iload_n 2, 1) := by decide +kernel
theorem dX4_goesBy_89 : decode cX4_goesBy 89 = .ok (.iaload, 1) := by decide +kernel
theorem dX4_goesBy_90 : decode cX4_goesBy 90 = .ok (.ifCond .ne 60, 3) := by decide +kernel
theorem dX4_goesBy_93 : decode cX4_goesBy 93 = .ok (.aload_n 0, 1) := by decide +kernel
theorem dX4_goesBy_94 : decode cX4_goesBy 94 = .ok (.getfield 23, 3) := by decide +kernel
theorem dX4_goesBy_97 : decode cX4_goesBy 97 = .ok (.iload_n 2, 1) := by decide +kernel
theorem dX4_goesBy_98 : decode cX4_goesBy 98 = .ok (.daload, 1) := by decide +kernel
theorem dX4_goesBy_99 : decode cX4_goesBy 99 = .ok (.aload_n 0, 1) := by decide +kernel
theorem dX4_goesBy_100 : decode cX4_goesBy 100 = .ok (.getfield 27, 3) := by decide +kernel
theorem dX4_goesBy_103 : decode cX4_goesBy 103 = .ok (.iload_n 2, 1) := by decide +kernel
theorem dX4_goesBy_104 : decode cX4_goesBy 104 = .ok (.daload, 1) := by decide +kernel
theorem dX4_goesBy_105 : decode cX4_goesBy 105 = .ok (.dcmp .g, 1) := by decide +kernel
theorem dX4_goesBy_106 : decode cX4_goesBy 106 = .ok (.ifCond .ge 44, 3) := by decide +kernel
theorem dX4_goesBy_109 : decode cX4_goesBy 109 = .ok (.aload_n 0, 1) := by decide +kernel
theorem dX4_goesBy_110 : decode cX4_goesBy 110 = .ok (.getfield 23, 3) := by decide +kernel
theorem dX4_goesBy_113 : decode cX4_goesBy 113 = .ok (.iload_n 2, 1) := by decide +kernel
theorem dX4_goesBy_114 : decode cX4_goesBy 114 = .ok (.daload, 1) := by decide +kernel
theorem dX4_goesBy_115 : decode cX4_goesBy 115 = .ok (.ldc2_w 110, 3) := by decide +kernel
theorem dX4_goesBy_118 : decode cX4_goesBy 118 = .ok (.dadd, 1) := by decide +kernel
theorem dX4_goesBy_119 : decode cX4_goesBy 119 = .ok (.dstore_n 3, 1) := by decide +kernel
theorem dX4_goesBy_120 : decode cX4_goesBy 120 = .ok (.aload_n 0, 1) := by decide +kernel
theorem dX4_goesBy_121 : decode cX4_goesBy 121 = .ok (.getfield 23, 3) := by decide +kernel
theorem dX4_goesBy_124 : decode cX4_goesBy 124 = .ok (.iload_n 2, 1) := by decide +kernel
theorem dX4_goesBy_125 : decode cX4_goesBy 125 = .ok (.dload_n 3, 1) := by decide +kernel
theorem dX4_goesBy_126 : decode cX4_goesBy 126 = .ok (.aload_n 0, 1) := by decide +kernel
theorem dX4_goesBy_127 : decode cX4_goesBy 127 = .ok (.getfield 27, 3) := by decide +kernel
theorem dX4_goesBy_130 : decode cX4_goesBy 130 = .ok (.iload_n 2, 1) := by decide +kernel
theorem dX4_goesBy_131 : decode cX4_goesBy 131 = .ok (.daload, 1) := by decide +kernel
theorem dX4_goesBy_132 : decode cX4_goesBy 132 = .ok (.dcmp .g, 1) := by decide +kernel
theorem dX4_goesBy_133 : decode cX4_goesBy 133 = .ok (.ifCond .ge 7, 3) := by decide +kernel
theorem dX4_goesBy_136 : decode cX4_goesBy 136 = .ok (.dload_n 3, 1) := by decide +kernel
theorem dX4_goesBy_137 : decode cX4_goesBy 137 = .ok (.goto 9, 3) := by decide +kernel
theorem dX4_goesBy_140 : decode cX4_goesBy 140 = .ok (.aload_n 0, 1) := by decide +kernel
theorem dX4_goesBy_141 : decode cX4_goesBy 141 = .ok (.getfield 27, 3) := by decide +kernel
theorem dX4_goesBy_144 : decode cX4_goesBy 144 = .ok (.iload_n 2, 1) := by decide +kernel
theorem dX4_goesBy_145 : decode cX4_goesBy 145 = .ok (.daload, 1) := by decide +kernel
theorem dX4_goesBy_146 : decode cX4_goesBy 146 = .ok (.dastore, 1) := by decide +kernel
theorem dX4_goesBy_147 : decode cX4_goesBy 147 = .ok (.iinc 1 1, 3) := by decide +kernel
theorem dX4_goesBy_150 : decode cX4_goesBy 150 = .ok (.iinc 2 1, 3) := by decide +kernel
theorem dX4_goesBy_153 : decode cX4_goesBy 153 = .ok (.goto (-82), 3) := by decide +kernel
theorem dX4_goesBy_156 : decode cX4_goesBy 156 = .ok (.aload_n 0, 1) := by decide +kernel
theorem dX4_goesBy_157 : decode cX4_goesBy 157 = .ok (.dup, 1) := by decide +kernel
theorem dX4_goesBy_158 : decode cX4_goesBy 158 = .ok (.getfield 82, 3) := by decide +kernel
theorem dX4_goesBy_161 : decode cX4_goesBy 161 = .ok (.iconst 1, 1) := by decide +kernel
theorem dX4_goesBy_162 : decode cX4_goesBy 162 = .ok (.iadd, 1) := by decide +kernel
theorem dX4_goesBy_163 : decode cX4_goesBy 163 = .ok (.putfield 82, 3) := by decide +kernel
theorem dX4_goesBy_166 : decode cX4_goesBy 166 = .ok (.iconst 0, 1) := by decide +kernel
theorem dX4_goesBy_167 : decode cX4_goesBy 167 = .ok (.istore_n 2, 1) := by decide +kernel
theorem dX4_goesBy_168 : decode cX4_goesBy 168 = .ok (.iconst 0, 1) := by decide +kernel
theorem dX4_goesBy_169 : decode cX4_goesBy 169 = .ok (.istore_n 3, 1) := by decide +kernel
theorem dX4_goesBy_170 : decode cX4_goesBy 170 = .ok (.iload_n 3, 1) := by decide +kernel
theorem dX4_goesBy_171 : decode cX4_goesBy 171 = .ok (.aload_n 0, 1) := by decide +kernel
theorem dX4_goesBy_172 : decode cX4_goesBy 172 = .ok (.getfield 56, 3) := by decide +kernel
theorem dX4_goesBy_175 : decode cX4_goesBy 175 = .ok (.if_icmp .ge 83, 3) := by decide +kernel
theorem dX4_goesBy_178 : decode cX4_goesBy 178 = .ok (.aload_n 0, 1) := by decide +kernel
theorem dX4_goesBy_179 : decode cX4_goesBy 179 = .ok (.getfield 33, 3) := by decide +kernel
theorem dX4_goesBy_182 : decode cX4_goesBy 182 = .ok (.iload_n 3, 1) := by decide +kernel
theorem dX4_goesBy_183 : decode cX4_goesBy 183 = .ok (.iaload, 1) := by decide +kernel
theorem dX4_goesBy_184 : decode cX4_goesBy 184 = .ok (.iconst (-1), 1) := by decide +kernel
theorem dX4_goesBy_185 : decode cX4_goesBy 185 = .ok (.if_icmp .eq 67, 3) := by decide +kernel
theorem dX4_goesBy_188 : decode cX4_goesBy 188 = .ok (.iload_n 2, 1) := by decide +kernel
theorem dX4_goesBy_189 : decode cX4_goesBy 189 = .ok (.aload_n 0, 1) := by decide +kernel
theorem dX4_goesBy_190 : decode cX4_goesBy 190 = .ok (.iconst 2, 1) := by decide +kernel
theorem dX4_goesBy_191 : decode cX4_goesBy 191 = .ok (.iload_n 3, 1) := by decide +kernel
theorem dX4_goesBy_192 : decode cX4_goesBy 192 = .ok (.imul, 1) := by decide +kernel
theorem dX4_goesBy_193 : decode cX4_goesBy 193 = .ok (.aload_n 0, 1) := by decide +kernel
theorem dX4_goesBy_194 : decode cX4_goesBy 194 = .ok (.getfield 82, 3) := by decide +kernel
theorem dX4_goesBy_197 : decode cX4_goesBy 197 = .ok (.aload_n 0, 1) := by decide +kernel
theorem dX4_goesBy_198 : decode cX4_goesBy 198 = .ok (.getfield 36, 3) := by decide +kernel
theorem dX4_goesBy_201 : decode cX4_goesBy 201 = .ok (.iload_n 3, 1) := by decide +kernel
theorem dX4_goesBy_202 : decode cX4_goesBy 202 = .ok (.iaload, 1) := by decide +kernel
theorem dX4_goesBy_203 : decode cX4_goesBy 203 = .ok (.isub, 1) := by decide +kernel
theorem dX4_goesBy_204 : decode cX4_goesBy 204 = .ok (.bipush 9, 2) := by decide +kernel
theorem dX4_goesBy_206 : decode cX4_goesBy 206 = .ok (.if_icmp .le 7, 3) := by decide +kernel
theorem dX4_goesBy_209 : decode cX4_goesBy 209 = .ok (.iconst 1, 1) := by decide +kernel
theorem dX4_goesBy_210 : decode cX4_goesBy 210 = .ok (.goto 4, 3) := by decide +kernel
theorem dX4_goesBy_213 : decode cX4_goesBy 213 = .ok (.iconst 0, 1) := by decide +kernel
theorem dX4_goesBy_214 : decode cX4_goesBy 214 = .ok (.invokevirtual 112, 3) := by decide +kernel
theorem dX4_goesBy_217 : decode cX4_goesBy 217 = .ok (.iadd, 1) := by decide +kernel
theorem dX4_goesBy_218 : decode cX4_goesBy 218 = .ok (.istore_n 2, 1) := by decide +kernel
theorem dX4_goesBy_219 : decode cX4_goesBy 219 = .ok (.iload_n 2, 1) := by decide +kernel
theorem dX4_goesBy_220 : decode cX4_goesBy 220 = .ok (.aload_n 0, 1) := by decide +kernel
theorem dX4_goesBy_221 : decode cX4_goesBy 221 = .ok (.iconst 2, 1) := by decide +kernel
theorem dX4_goesBy_222 : decode cX4_goesBy 222 = .ok (.iload_n 3, 1) := by decide +kernel
theorem dX4_goesBy_223 : decode cX4_goesBy 223 = .ok (.imul, 1) := by decide +kernel
theorem dX4_goesBy_224 : decode cX4_goesBy 224 = .ok (.iconst 1, 1) := by decide +kernel
theorem dX4_goesBy_225 : decode cX4_goesBy 225 = .ok (.iadd, 1) := by decide +kernel
theorem dX4_goesBy_226 : decode cX4_goesBy 226 = .ok (.aload_n 0, 1) := by decide +kernel
theorem dX4_goesBy_227 : decode cX4_goesBy 227 = .ok (.getfield 23, 3) := by decide +kernel
theorem dX4_goesBy_230 : decode cX4_goesBy 230 = .ok (.aload_n 0, 1) := by decide +kernel
theorem dX4_goesBy_231 : decode cX4_goesBy 231 = .ok (.getfield 33, 3) := by decide +kernel
theorem dX4_goesBy_234 : decode cX4_goesBy 234 = .ok (.iload_n 3, 1) := by decide +kernel
theorem dX4_goesBy_235 : decode cX4_goesBy 235 = .ok (.iaload, 1) := by decide +kernel
theorem dX4_goesBy_236 : decode cX4_goesBy 236 = .ok (.daload, 1) := by decide +kernel
theorem dX4_goesBy_237 : decode cX4_goesBy 237 = .ok (.dconst 0, 1) := by decide +kernel
theorem dX4_goesBy_238 : decode cX4_goesBy 238 = .ok (.dcmp .l, 1) := by decide +kernel
theorem dX4_goesBy_239 : decode cX4_goesBy 239 = .ok (.ifCond .ne 7, 3) := by decide +kernel
theorem dX4_goesBy_242 : decode cX4_goesBy 242 = .ok (.iconst 1, 1) := by decide +kernel
theorem dX4_goesBy_243 : decode cX4_goesBy 243 = .ok (.goto 4, 3) := by decide +kernel
theorem dX4_goesBy_246 : decode cX4_goesBy 246 = .ok (.iconst 0, 1) := by decide +kernel
theorem dX4_goesBy_247 : decode cX4_goesBy 247 = .ok (.invokevirtual 112, 3) := by decide +kernel
theorem dX4_goesBy_250 : decode cX4_goesBy 250 = .ok (.iadd, 1) := by decide +kernel
theorem dX4_goesBy_251 : decode cX4_goesBy 251 = .ok (.istore_n 2, 1) := by decide +kernel
theorem dX4_goesBy_252 : decode cX4_goesBy 252 = .ok (.iinc 3 1, 3) := by decide +kernel
theorem dX4_goesBy_255 : decode cX4_goesBy 255 = .ok (.goto (-85), 3) := by decide +kernel
theorem dX4_goesBy_258 : decode cX4_goesBy 258 = .ok (.iload_n 2, 1) := by decide +kernel
theorem dX4_goesBy_259 : decode cX4_goesBy 259 = .ok (.ireturn, 1) := by decide +kernel
set_option maxRecDepth 20000 in
theorem ggX4_hours_X4_in : GoodIn wsX4_hours wsX4_in := goodIn_r _ [5] (by decide +kernel) (by decide +kernel)
set_option maxRecDepth 20000 in
theorem gX4_hours_X4_in : GoodIn wsX4_hours (va_wsS RX4 52 yX4_in wsX4_in) := goodIn_app (goodIn_of _ (by decide +kernel)) ggX4_hours_X4_in
set_option maxRecDepth 20000 in
theorem ggX4_hours_X4_goesBy : GoodIn wsX4_hours wsX4_goesBy := goodIn_r _ [9, 10, 11, 12, 13, 14, 15, 16, 17, 18, 19, 20, 21, 22, 23, 4, 24, 25, 26, 27, 28, 29, 30, 31, 32, 33, 34, 35, 36, 37, 38, 39, 40, 41, 42, 43, 44, 45, 46, 47] (by decide +kernel) (by decide +kernel)
set_option maxRecDepth 20000 in
theorem gX4_hours_X4_goesBy : GoodIn wsX4_hours (wsV RX4 116 RX4 yX4_goesBy wsX4_goesBy) := goodIn_app (goodIn_of _ (by decide +kernel)) ggX4_hours_X4_goesBy
theorem dX4_hours_0 : decode cX4_hours 0 = .ok (.aload_n 0, 1) := by decide +kernel
theorem dX4_hours_1 : decode cX4_hours 1 = .ok (.iload_n 1, 1) := by decide +kernel
theorem dX4_hours_2 : decode cX4_hours 2 = .ok (.iconst 1, 1) := by decide +kernel
theorem dX4_hours_3 : decode cX4_hours 3 = .ok (.bipush 100, 2) := by decide +kernel
theorem dX4_hours_5 : decode cX4_hours 5 = .ok (.invokestatic 52, 3) := by decide +kernel
theorem dX4_hours_8 : decode cX4_hours 8 = .ok (.ifCond .eq 7, 3) := by decide +kernel
theorem dX4_hours_11 : decode cX4_hours 11 = .ok (.iconst 0, 1) := by decide +kernel
theorem dX4_hours_12 : decode cX4_hours 12 = .ok (.goto 4, 3) := by decide +kernel
theorem dX4_hours_15 : decode cX4_hours 15 = .ok (.iconst 1, 1) := by decide +kernel
theorem dX4_hours_16 : decode cX4_hours 16 = .ok (.putfield 45, 3) := by decide +kernel
theorem dX4_hours_19 : decode cX4_hours 19 = .ok (.iconst 0, 1) := by decide +kernel
theorem dX4_hours_20 : decode cX4_hours 20 = .ok (.istore_n 2, 1) := by decide +kernel
theorem dX4_hours_21 : decode cX4_hours 21 = .ok (.iconst 0, 1) := by decide +kernel
theorem dX4_hours_22 : decode cX4_hours 22 = .ok (.istore_n 3, 1) := by decide +kernel
theorem dX4_hours_23 : decode cX4_hours 23 = .ok (.iload_n 3, 1) := by decide +kernel
theorem dX4_hours_24 : decode cX4_hours 24 = .ok (.iload_n 1, 1) := by decide +kernel
theorem dX4_hours_25 : decode cX4_hours 25 = .ok (.if_icmp .ge 23, 3) := by decide +kernel
theorem dX4_hours_28 : decode cX4_hours 28 = .ok (.aload_n 0, 1) := by decide +kernel
theorem dX4_hours_29 : decode cX4_hours 29 = .ok (.getfield 45, 3) := by decide +kernel
theorem dX4_hours_32 : decode cX4_hours 32 = .ok (.ifCond .ne 16, 3) := by decide +kernel
theorem dX4_hours_35 : decode cX4_hours 35 = .ok (.iload_n 2, 1) := by decide +kernel
theorem dX4_hours_36 : decode cX4_hours 36 = .ok (.aload_n 0, 1) := by decide +kernel
theorem dX4_hours_37 : decode cX4_hours 37 = .ok (.invokevirtual 116, 3) := by decide +kernel
theorem dX4_hours_40 : decode cX4_hours 40 = .ok (.iadd, 1) := by decide +kernel
theorem dX4_hours_41 : decode cX4_hours 41 = .ok (.istore_n 2, 1) := by decide +kernel
theorem dX4_hours_42 : decode cX4_hours 42 = .ok (.iinc 3 1, 3) := by decide +kernel
theorem dX4_hours_45 : decode cX4_hours 45 = .ok (.goto (-22), 3) := by decide +kernel
theorem dX4_hours_48 : decode cX4_hours 48 = .ok (.iload_n 2, 1) := by decide +kernel
theorem dX4_hours_49 : decode cX4_hours 49 = .ok (.ireturn, 1) := by decide +kernel
theorem dX4_below_0 : decode cX4_below 0 = .ok (.aload_n 0, 1) := by decide +kernel
theorem dX4_below_1 : decode cX4_below 1 = .ok (.iconst 0, 1) := by decide +kernel
theorem dX4_below_2 : decode cX4_below 2 = .ok (.putfield 45, 3) := by decide +kernel
theorem dX4_below_5 : decode cX4_below 5 = .ok (.aload_n 0, 1) := by decide +kernel
theorem dX4_below_6 : decode cX4_below 6 = .ok (.getfield 85, 3) := by decide +kernel
theorem dX4_below_9 : decode cX4_below 9 = .ok (.ireturn, 1) := by decide +kernel
set_option maxRecDepth 20000 in
theorem ggX4_board_X4_in : GoodIn wsX4_board wsX4_in := goodIn_r _ [7] (by decide +kernel) (by decide +kernel)
set_option maxRecDepth 20000 in
theorem gX4_board_X4_in : GoodIn wsX4_board (va_wsS RX4 52 yX4_in wsX4_in) := goodIn_app (goodIn_of _ (by decide +kernel)) ggX4_board_X4_in
theorem dX4_board_0 : decode cX4_board 0 = .ok (.aload_n 0, 1) := by decide +kernel
theorem dX4_board_1 : decode cX4_board 1 = .ok (.iconst 0, 1) := by decide +kernel
theorem dX4_board_2 : decode cX4_board 2 = .ok (.putfield 45, 3) := by decide +kernel
theorem dX4_board_5 : decode cX4_board 5 = .ok (.iload_n 1, 1) := by decide +kernel
theorem dX4_board_6 : decode cX4_board 6 = .ok (.iconst 0, 1) := by decide +kernel
theorem dX4_board_7 : decode cX4_board 7 = .ok (.aload_n 0, 1) := by decide +kernel
theorem dX4_board_8 : decode cX4_board 8 = .ok (.getfield 85, 3) := by decide +kernel
theorem dX4_board_11 : decode cX4_board 11 = .ok (.iconst 1, 1) := by decide +kernel
theorem dX4_board_12 : decode cX4_board 12 = .ok (.isub, 1) := by decide +kernel
theorem dX4_board_13 : decode cX4_board 13 = .ok (.invokestatic 52, 3) := by decide +kernel
theorem dX4_board_16 : decode cX4_board 16 = .ok (.ifCond .eq 12, 3) := by decide +kernel
theorem dX4_board_19 : decode cX4_board 19 = .ok (.aload_n 0, 1) := by decide +kernel
theorem dX4_board_20 : decode cX4_board 20 = .ok (.getfield 39, 3) := by decide +kernel
theorem dX4_board_23 : decode cX4_board 23 = .ok (.iload_n 1, 1) := by decide +kernel
theorem dX4_board_24 : decode cX4_board 24 = .ok (.iaload, 1) := by decide +kernel
theorem dX4_board_25 : decode cX4_board 25 = .ok (.goto 4, 3) := by decide +kernel
theorem dX4_board_28 : decode cX4_board 28 = .ok (.iconst (-1), 1) := by decide +kernel
theorem dX4_board_29 : decode cX4_board 29 = .ok (.ireturn, 1) := by decide +kernel
set_option maxRecDepth 20000 in
theorem ggX4_lampOf_X4_isMiner : GoodIn wsX4_lampOf wsX4_isMiner := goodIn_r _ [7, 8, 9, 10, 6, 11, 12, 13, 14, 15, 16, 17, 18, 19, 20, 21, 22, 23, 24, 25, 26, 27, 28] (by decide +kernel) (by decide +kernel)
set_option maxRecDepth 20000 in
theorem gX4_lampOf_X4_isMiner : GoodIn wsX4_lampOf (wsV RX4 75 RX4 yX4_isMiner wsX4_isMiner) := goodIn_app (goodIn_of _ (by decide +kernel)) ggX4_lampOf_X4_isMiner
theorem dX4_lampOf_0 : decode cX4_lampOf 0 = .ok (.aload_n 0, 1) := by decide +kernel
theorem dX4_lampOf_1 : decode cX4_lampOf 1 = .ok (.aload_n 0, 1) := by decide +kernel
theorem dX4_lampOf_2 : decode cX4_lampOf 2 = .ok (.iload_n 1, 1) := by decide +kernel
theorem dX4_lampOf_3 : decode cX4_lampOf 3 = .ok (.invokevirtual 75, 3) := by decide +kernel
theorem dX4_lampOf_6 : decode cX4_lampOf 6 = .ok (.ifCond .eq 7, 3) := by decide +kernel
theorem dX4_lampOf_9 : decode cX4_lampOf 9 = .ok (.iconst 0, 1) := by decide +kernel
theorem dX4_lampOf_10 : decode cX4_lampOf 10 = .ok (.goto 4, 3) := by decide +kernel
theorem dX4_lampOf_13 : decode cX4_lampOf 13 = .ok (.iconst 1, 1) := by decide +kernel
theorem dX4_lampOf_14 : decode cX4_lampOf 14 = .ok (.putfield 45, 3) := by decide +kernel
theorem dX4_lampOf_17 : decode cX4_lampOf 17 = .ok (.aload_n 0, 1) := by decide +kernel
theorem dX4_lampOf_18 : decode cX4_lampOf 18 = .ok (.getfield 45, 3) := by decide +kernel
theorem dX4_lampOf_21 : decode cX4_lampOf 21 = .ok (.ifCond .le 7, 3) := by decide +kernel
theorem dX4_lampOf_24 : decode cX4_lampOf 24 = .ok (.iconst 0, 1) := by decide +kernel
theorem dX4_lampOf_25 : decode cX4_lampOf 25 = .ok (.goto 9, 3) := by decide +kernel
theorem dX4_lampOf_28 : decode cX4_lampOf 28 = .ok (.aload_n 0, 1) := by decide +kernel
theorem dX4_lampOf_29 : decode cX4_lampOf 29 = .ok (.getfield 33, 3) := by decide +kernel
theorem dX4_lampOf_32 : decode cX4_lampOf 32 = .ok (.iload_n 1, 1) := by decide +kernel
theorem dX4_lampOf_33 : decode cX4_lampOf 33 = .ok (.iaload, 1) := by decide +kernel
theorem dX4_lampOf_34 : decode cX4_lampOf 34 = .ok (.ireturn, 1) := by decide +kernel
set_option maxRecDepth 20000 in
theorem ggX4_hoursBelow_X4_isMiner : GoodIn wsX4_hoursBelow wsX4_isMiner := goodIn_r _ [9, 10, 11, 12, 8, 13, 14, 15, 16, 17, 18, 19, 20, 21, 22, 23, 24, 25, 26, 27, 28, 29, 30] (by decide +kernel) (by decide +kernel)
set_option maxRecDepth 20000 in
theorem gX4_hoursBelow_X4_isMiner : GoodIn wsX4_hoursBelow (wsV RX4 75 RX4 yX4_isMiner wsX4_isMiner) := goodIn_app (goodIn_of _ (by decide +kernel)) ggX4_hoursBelow_X4_isMiner
theorem dX4_hoursBelow_0 : decode cX4_hoursBelow 0 = .ok (.aload_n 0, 1) := by decide +kernel
theorem dX4_hoursBelow_1 : decode cX4_hoursBelow 1 = .ok (.aload_n 0, 1) := by decide +kernel
theorem dX4_hoursBelow_2 : decode cX4_hoursBelow 2 = .ok (.iload_n 1, 1) := by decide +kernel
theorem dX4_hoursBelow_3 : decode cX4_hoursBelow 3 = .ok (.invokevirtual 75, 3) := by decide +kernel
theorem dX4_hoursBelow_6 : decode cX4_hoursBelow 6 = .ok (.ifCond .eq 7, 3) := by decide +kernel
theorem dX4_hoursBelow_9 : decode cX4_hoursBelow 9 = .ok (.iconst 0, 1) := by decide +kernel
theorem dX4_hoursBelow_10 : decode cX4_hoursBelow 10 = .ok (.goto 4, 3) := by decide +kernel
theorem dX4_hoursBelow_13 : decode cX4_hoursBelow 13 = .ok (.iconst 1, 1) := by decide +kernel
theorem dX4_hoursBelow_14 : decode cX4_hoursBelow 14 = .ok (.putfield 45, 3) := by decide +kernel
theorem dX4_hoursBelow_17 : decode cX4_hoursBelow 17 = .ok (.aload_n 0, 1) := by decide +kernel
theorem dX4_hoursBelow_18 : decode cX4_hoursBelow 18 = .ok (.getfield 45, 3) := by decide +kernel
theorem dX4_hoursBelow_21 : decode cX4_hoursBelow 21 = .ok (.ifCond .le 7, 3) := by decide +kernel
theorem dX4_hoursBelow_24 : decode cX4_hoursBelow 24 = .ok (.iconst 0, 1) := by decide +kernel
theorem dX4_hoursBelow_25 : decode cX4_hoursBelow 25 = .ok (.goto 28, 3) := by decide +kernel
theorem dX4_hoursBelow_28 : decode cX4_hoursBelow 28 = .ok (.aload_n 0, 1) := by decide +kernel
theorem dX4_hoursBelow_29 : decode cX4_hoursBelow 29 = .ok (.getfield 33, 3) := by decide +kernel
theorem dX4_hoursBelow_32 : decode cX4_hoursBelow 32 = .ok (.iload_n 1, 1) := by decide +kernel
theorem dX4_hoursBelow_33 : decode cX4_hoursBelow 33 = .ok (.iaload, 1) := by decide +kernel
theorem dX4_hoursBelow_34 : decode cX4_hoursBelow 34 = .ok (.iconst (-1), 1) := by decide +kernel
theorem dX4_hoursBelow_35 : decode cX4_hoursBelow 35 = .ok (.if_icmp .ne 7, 3) := by decide +kernel
theorem dX4_hoursBelow_38 : decode cX4_hoursBelow 38 = .ok (.iconst (-1), 1) := by decide +kernel
theorem dX4_hoursBelow_39 : decode cX4_hoursBelow 39 = .ok (.goto 14, 3) := by decide +kernel
theorem dX4_hoursBelow_42 : decode cX4_hoursBelow 42 = .ok (.aload_n 0, 1) := by decide +kernel
theorem dX4_hoursBelow_43 : decode cX4_hoursBelow 43 = .ok (.getfield 82, 3) := by decide +kernel
theorem dX4_hoursBelow_46 : decode cX4_hoursBelow 46 = .ok (.aload_n 0, 1) := by decide +kernel
theorem dX4_hoursBelow_47 : decode cX4_hoursBelow 47 = .ok (.getfield 36, 3) := by decide +kernel
theorem dX4_hoursBelow_50 : decode cX4_hoursBelow 50 = .ok (.iload_n 1, 1) := by decide +kernel
theorem dX4_hoursBelow_51 : decode cX4_hoursBelow 51 = .ok (.iaload, 1) := by decide +kernel
theorem dX4_hoursBelow_52 : decode cX4_hoursBelow 52 = .ok (.isub, 1) := by decide +kernel
theorem dX4_hoursBelow_53 : decode cX4_hoursBelow 53 = .ok (.ireturn, 1) := by decide +kernel
set_option maxRecDepth 20000 in
theorem ggX4_placeOf_X4_isLamp : GoodIn wsX4_placeOf wsX4_isLamp := goodIn_r _ [7, 8, 9, 10, 6, 11, 12, 13, 14, 15, 16, 17, 18, 19, 20, 21, 22, 23, 24, 25, 26, 27, 28] (by decide +kernel) (by decide +kernel)
set_option maxRecDepth 20000 in
theorem gX4_placeOf_X4_isLamp : GoodIn wsX4_placeOf (wsV RX4 99 RX4 yX4_isLamp wsX4_isLamp) := goodIn_app (goodIn_of _ (by decide +kernel)) ggX4_placeOf_X4_isLamp
theorem dX4_placeOf_0 : decode cX4_placeOf 0 = .ok (.aload_n 0, 1) := by decide +kernel
theorem dX4_placeOf_1 : decode cX4_placeOf 1 = .ok (.aload_n 0, 1) := by decide +kernel
theorem dX4_placeOf_2 : decode cX4_placeOf 2 = .ok (.iload_n 1, 1) := by decide +kernel
theorem dX4_placeOf_3 : decode cX4_placeOf 3 = .ok (.invokevirtual 99, 3) := by decide +kernel
theorem dX4_placeOf_6 : decode cX4_placeOf 6 = .ok (.ifCond .eq 7, 3) := by decide +kernel
theorem dX4_placeOf_9 : decode cX4_placeOf 9 = .ok (.iconst 0, 1) := by decide +kernel
theorem dX4_placeOf_10 : decode cX4_placeOf 10 = .ok (.goto 4, 3) := by decide +kernel
theorem dX4_placeOf_13 : decode cX4_placeOf 13 = .ok (.iconst 1, 1) := by decide +kernel
theorem dX4_placeOf_14 : decode cX4_placeOf 14 = .ok (.putfield 45, 3) := by decide +kernel
theorem dX4_placeOf_17 : decode cX4_placeOf 17 = .ok (.aload_n 0, 1) := by decide +kernel
theorem dX4_placeOf_18 : decode cX4_placeOf 18 = .ok (.getfield 45, 3) := by decide +kernel
theorem dX4_placeOf_21 : decode cX4_placeOf 21 = .ok (.ifCond .le 7, 3) := by decide +kernel
theorem dX4_placeOf_24 : decode cX4_placeOf 24 = .ok (.iconst 0, 1) := by decide +kernel
theorem dX4_placeOf_25 : decode cX4_placeOf 25 = .ok (.goto 9, 3) := by decide +kernel
theorem dX4_placeOf_28 : decode cX4_placeOf 28 = .ok (.aload_n 0, 1) := by decide +kernel
theorem dX4_placeOf_29 : decode cX4_placeOf 29 = .ok (.getfield 13, 3) := by decide +kernel
theorem dX4_placeOf_32 : decode cX4_placeOf 32 = .ok (.iload_n 1, 1) := by decide +kernel
theorem dX4_placeOf_33 : decode cX4_placeOf 33 = .ok (.iaload, 1) := by decide +kernel
theorem dX4_placeOf_34 : decode cX4_placeOf 34 = .ok (.ireturn, 1) := by decide +kernel
set_option maxRecDepth 20000 in
theorem ggX4_chargeOf_X4_isLamp : GoodIn wsX4_chargeOf wsX4_isLamp := goodIn_r _ [7, 8, 9, 10, 6, 11, 12, 13, 14, 15, 16, 17, 18, 19, 20, 21, 22, 23, 24, 25, 26, 27, 28] (by decide +kernel) (by decide +kernel)
set_option maxRecDepth 20000 in
theorem gX4_chargeOf_X4_isLamp : GoodIn wsX4_chargeOf (wsV RX4 99 RX4 yX4_isLamp wsX4_isLamp) := goodIn_app (goodIn_of _ (by decide +kernel)) ggX4_chargeOf_X4_isLamp
theorem dX4_chargeOf_0 : decode cX4_chargeOf 0 = .ok (.aload_n 0, 1) := by decide +kernel
theorem dX4_chargeOf_1 : decode cX4_chargeOf 1 = .ok (.aload_n 0, 1) := by decide +kernel
theorem dX4_chargeOf_2 : decode cX4_chargeOf 2 = .ok (.iload_n 1, 1) := by decide +kernel
theorem dX4_chargeOf_3 : decode cX4_chargeOf 3 = .ok (.invokevirtual 99, 3) := by decide +kernel
theorem dX4_chargeOf_6 : decode cX4_chargeOf 6 = .ok (.ifCond .eq 7, 3) := by decide +kernel
theorem dX4_chargeOf_9 : decode cX4_chargeOf 9 = .ok (.iconst 0, 1) := by decide +kernel
theorem dX4_chargeOf_10 : decode cX4_chargeOf 10 = .ok (.goto 4, 3) := by decide +kernel
theorem dX4_chargeOf_13 : decode cX4_chargeOf 13 = .ok (.iconst 1, 1) := by decide +kernel
theorem dX4_chargeOf_14 : decode cX4_chargeOf 14 = .ok (.putfield 45, 3) := by decide +kernel
theorem dX4_chargeOf_17 : decode cX4_chargeOf 17 = .ok (.aload_n 0, 1) := by decide +kernel
theorem dX4_chargeOf_18 : decode cX4_chargeOf 18 = .ok (.getfield 45, 3) := by decide +kernel
theorem dX4_chargeOf_21 : decode cX4_chargeOf 21 = .ok (.ifCond .le 7, 3) := by decide +kernel
theorem dX4_chargeOf_24 : decode cX4_chargeOf 24 = .ok (.dconst 0, 1) := by decide +kernel
theorem dX4_chargeOf_25 : decode cX4_chargeOf 25 = .ok (.goto 9, 3) := by decide +kernel
theorem dX4_chargeOf_28 : decode cX4_chargeOf 28 = .ok (.aload_n 0, 1) := by decide +kernel
theorem dX4_chargeOf_29 : decode cX4_chargeOf 29 = .ok (.getfield 23, 3) := by decide +kernel
theorem dX4_chargeOf_32 : decode cX4_chargeOf 32 = .ok (.iload_n 1, 1) := by decide +kernel
theorem dX4_chargeOf_33 : decode cX4_chargeOf 33 = .ok (.daload, 1) := by decide +kernel
theorem dX4_chargeOf_34 : decode cX4_chargeOf 34 = .ok (.dreturn, 1) := by decide +kernel
set_option maxRecDepth 20000 in
theorem ggX4_capacityOf_X4_isLamp : GoodIn wsX4_capacityOf wsX4_isLamp := goodIn_r _ [7, 8, 9, 10, 6, 11, 12, 13, 14, 15, 16, 17, 18, 19, 20, 21, 22, 23, 24, 25, 26, 27, 28] (by decide +kernel) (by decide +kernel)
set_option maxRecDepth 20000 in
theorem gX4_capacityOf_X4_isLamp : GoodIn wsX4_capacityOf (wsV RX4 99 RX4 yX4_isLamp wsX4_isLamp) := goodIn_app (goodIn_of _ (by decide +kernel)) ggX4_capacityOf_X4_isLamp
theorem dX4_capacityOf_0 : decode cX4_capacityOf 0 = .ok (.aload_n 0, 1) := by decide +kernel
theorem dX4_capacityOf_1 : decode cX4_capacityOf 1 = .ok (.aload_n 0, 1) := by decide +kernel
theorem dX4_capacityOf_2 : decode cX4_capacityOf 2 = .ok (.iload_n 1, 1) := by decide +kernel
theorem dX4_capacityOf_3 : decode cX4_capacityOf 3 = .ok (.invokevirtual 99, 3) := by decide +kernel
theorem dX4_capacityOf_6 : decode cX4_capacityOf 6 = .ok (.ifCond .eq 7, 3) := by decide +kernel
theorem dX4_capacityOf_9 : decode cX4_capacityOf 9 = .ok (.iconst 0, 1) := by decide +kernel
theorem dX4_capacityOf_10 : decode cX4_capacityOf 10 = .ok (.goto 4, 3) := by decide +kernel
theorem dX4_capacityOf_13 : decode cX4_capacityOf 13 = .ok (.iconst 1, 1) := by decide +kernel
theorem dX4_capacityOf_14 : decode cX4_capacityOf 14 = .ok (.putfield 45, 3) := by decide +kernel
theorem dX4_capacityOf_17 : decode cX4_capacityOf 17 = .ok (.aload_n 0, 1) := by decide +kernel
theorem dX4_capacityOf_18 : decode cX4_capacityOf 18 = .ok (.getfield 45, 3) := by decide +kernel
theorem dX4_capacityOf_21 : decode cX4_capacityOf 21 = .ok (.ifCond .le 7, 3) := by decide +kernel
theorem dX4_capacityOf_24 : decode cX4_capacityOf 24 = .ok (.dconst 0, 1) := by decide +kernel
theorem dX4_capacityOf_25 : decode cX4_capacityOf 25 = .ok (.goto 9, 3) := by decide +kernel
theorem dX4_capacityOf_28 : decode cX4_capacityOf 28 = .ok (.aload_n 0, 1) := by decide +kernel
theorem dX4_capacityOf_29 : decode cX4_capacityOf 29 = .ok (.getfield 27, 3) := by decide +kernel
theorem dX4_capacityOf_32 : decode cX4_capacityOf 32 = .ok (.iload_n 1, 1) := by decide +kernel
theorem dX4_capacityOf_33 : decode cX4_capacityOf 33 = .ok (.daload, 1) := by decide +kernel
theorem dX4_capacityOf_34 : decode cX4_capacityOf 34 = .ok (.dreturn, 1) := by decide +kernel
set_option maxRecDepth 20000 in
theorem ggX4_turnsOf_X4_isLamp : GoodIn wsX4_turnsOf wsX4_isLamp := goodIn_r _ [7, 8, 9, 10, 6, 11, 12, 13, 14, 15, 16, 17, 18, 19, 20, 21, 22, 23, 24, 25, 26, 27, 28] (by decide +kernel) (by decide +kernel)
set_option maxRecDepth 20000 in
theorem gX4_turnsOf_X4_isLamp : GoodIn wsX4_turnsOf (wsV RX4 99 RX4 yX4_isLamp wsX4_isLamp) := goodIn_app (goodIn_of _ (by decide +kernel)) ggX4_turnsOf_X4_isLamp
theorem dX4_turnsOf_0 : decode cX4_turnsOf 0 = .ok (.aload_n 0, 1) := by decide +kernel
theorem dX4_turnsOf_1 : decode cX4_turnsOf 1 = .ok (.aload_n 0, 1) := by decide +kernel
theorem dX4_turnsOf_2 : decode cX4_turnsOf 2 = .ok (.iload_n 1, 1) := by decide +kernel
theorem dX4_turnsOf_3 : decode cX4_turnsOf 3 = .ok (.invokevirtual 99, 3) := by decide +kernel
theorem dX4_turnsOf_6 : decode cX4_turnsOf 6 = .ok (.ifCond .eq 7, 3) := by decide +kernel
theorem dX4_turnsOf_9 : decode cX4_turnsOf 9 = .ok (.iconst 0, 1) := by decide +kernel
theorem dX4_turnsOf_10 : decode cX4_turnsOf 10 = .ok (.goto 4, 3) := by decide +kernel
theorem dX4_turnsOf_13 : decode cX4_turnsOf 13 = .ok (.iconst 1, 1) := by decide +kernel
theorem dX4_turnsOf_14 : decode cX4_turnsOf 14 = .ok (.putfield 45, 3) := by decide +kernel
theorem dX4_turnsOf_17 : decode cX4_turnsOf 17 = .ok (.aload_n 0, 1) := by decide +kernel
theorem dX4_turnsOf_18 : decode cX4_turnsOf 18 = .ok (.getfield 45, 3) := by decide +kernel
theorem dX4_turnsOf_21 : decode cX4_turnsOf 21 = .ok (.ifCond .le 7, 3) := by decide +kernel
theorem dX4_turnsOf_24 : decode cX4_turnsOf 24 = .ok (.iconst 0, 1) := by decide +kernel
theorem dX4_turnsOf_25 : decode cX4_turnsOf 25 = .ok (.goto 9, 3) := by decide +kernel
theorem dX4_turnsOf_28 : decode cX4_turnsOf 28 = .ok (.aload_n 0, 1) := by decide +kernel
theorem dX4_turnsOf_29 : decode cX4_turnsOf 29 = .ok (.getfield 16, 3) := by decide +kernel
theorem dX4_turnsOf_32 : decode cX4_turnsOf 32 = .ok (.iload_n 1, 1) := by decide +kernel
theorem dX4_turnsOf_33 : decode cX4_turnsOf 33 = .ok (.iaload, 1) := by decide +kernel
theorem dX4_turnsOf_34 : decode cX4_turnsOf 34 = .ok (.ireturn, 1) := by decide +kernel
set_option maxRecDepth 20000 in
theorem ggX4_ready_X4_in : GoodIn wsX4_ready wsX4_in := goodIn_r _ [7] (by decide +kernel) (by decide +kernel)
set_option maxRecDepth 20000 in
theorem gX4_ready_X4_in : GoodIn wsX4_ready (va_wsS RX4 52 yX4_in wsX4_in) := goodIn_app (goodIn_of _ (by decide +kernel)) ggX4_ready_X4_in
set_option maxRecDepth 20000 in
theorem ggX4_ready_X4_isReady : GoodIn wsX4_ready wsX4_isReady := goodIn_r _ [11, 12, 13, 14, 15, 16, 17, 18, 19, 20, 21, 22, 23, 24, 25, 26, 27, 28, 29, 30, 31] (by decide +kernel) (by decide +kernel)
set_option maxRecDepth 20000 in
theorem gX4_ready_X4_isReady : GoodIn wsX4_ready (wsV RX4 71 RX4 yX4_isReady wsX4_isReady) := goodIn_app (goodIn_of _ (by decide +kernel)) ggX4_ready_X4_isReady
theorem dX4_ready_0 : decode cX4_ready 0 = .ok (.aload_n 0, 1) := by decide +kernel
theorem dX4_ready_1 : decode cX4_ready 1 = .ok (.iload_n 1, 1) := by decide +kernel
theorem dX4_ready_2 : decode cX4_ready 2 = .ok (.iconst 0, 1) := by decide +kernel
theorem dX4_ready_3 : decode cX4_ready 3 = .ok (.iconst 2, 1) := by decide +kernel
theorem dX4_ready_4 : decode cX4_ready 4 = .ok (.invokestatic 52, 3) := by decide +kernel
theorem dX4_ready_7 : decode cX4_ready 7 = .ok (.ifCond .eq 7, 3) := by decide +kernel
theorem dX4_ready_10 : decode cX4_ready 10 = .ok (.iconst 0, 1) := by decide +kernel
theorem dX4_ready_11 : decode cX4_ready 11 = .ok (.goto 4, 3) := by decide +kernel
theorem dX4_ready_14 : decode cX4_ready 14 = .ok (.iconst 1, 1) := by decide +kernel
theorem dX4_ready_15 : decode cX4_ready 15 = .ok (.putfield 45, 3) := by decide +kernel
theorem dX4_ready_18 : decode cX4_ready 18 = .ok (.iconst 0, 1) := by decide +kernel
theorem dX4_ready_19 : decode cX4_ready 19 = .ok (.istore_n 2, 1) := by decide +kernel
theorem dX4_ready_20 : decode cX4_ready 20 = .ok (.iconst 0, 1) := by decide +kernel
theorem dX4_ready_21 : decode cX4_ready 21 = .ok (.istore_n 3, 1) := by decide +kernel
theorem dX4_ready_22 : decode cX4_ready 22 = .ok (.iload_n 3, 1) := by decide +kernel
theorem dX4_ready_23 : decode cX4_ready 23 = .ok (.aload_n 0, 1) := by decide +kernel
theorem dX4_ready_24 : decode cX4_ready 24 = .ok (.getfield 49, 3) := by decide +kernel
theorem dX4_ready_27 : decode cX4_ready 27 = .ok (.if_icmp .ge 42, 3) := by decide +kernel
theorem dX4_ready_30 : decode cX4_ready 30 = .ok (.aload_n 0, 1) := by decide +kernel
theorem dX4_ready_31 : decode cX4_ready 31 = .ok (.getfield 45, 3) := by decide +kernel
theorem dX4_ready_34 : decode cX4_ready 34 = .ok (.ifCond .ne 35, 3) := by decide +kernel
theorem dX4_ready_37 : decode cX4_ready 37 = .ok (.iload_n 2, 1) := by decide +kernel
theorem dX4_ready_38 : decode cX4_ready 38 = .ok (.aload_n 0, 1) := by decide +kernel
theorem dX4_ready_39 : decode cX4_ready 39 = .ok (.getfield 7, 3) := by decide +kernel
theorem dX4_ready_42 : decode cX4_ready 42 = .ok (.iload_n 3, 1) := by decide +kernel
theorem dX4_ready_43 : decode cX4_ready 43 = .ok (.iaload, 1) := by decide +kernel
theorem dX4_ready_44 : decode cX4_ready 44 = .ok (.iload_n 1, 1) := by decide +kernel
theorem dX4_ready_45 : decode cX4_ready 45 = .ok (.if_icmp .ne 15, 3) := by decide +kernel
theorem dX4_ready_48 : decode cX4_ready 48 = .ok (.aload_n 0, 1) := by decide +kernel
theorem dX4_ready_49 : decode cX4_ready 49 = .ok (.iload_n 3, 1) := by decide +kernel
theorem dX4_ready_50 : decode cX4_ready 50 = .ok (.invokevirtual 71, 3) := by decide +kernel
theorem dX4_ready_53 : decode cX4_ready 53 = .ok (.ifCond .eq 7, 3) := by decide +kernel
theorem dX4_ready_56 : decode cX4_ready 56 = .ok (.iconst 1, 1) := by decide +kernel
theorem dX4_ready_57 : decode cX4_ready 57 = .ok (.goto 4, 3) := by decide +kernel
theorem dX4_ready_60 : decode cX4_ready 60 = .ok (.iconst 0, 1) := by decide +kernel
theorem dX4_ready_61 : decode cX4_ready 61 = .ok (.iadd, 1) := by decide +kernel
theorem dX4_ready_62 : decode cX4_ready 62 = .ok (.istore_n 2, 1) := by decide +kernel
theorem dX4_ready_63 : decode cX4_ready 63 = .ok (.iinc 3 1, 3) := by decide +kernel
theorem dX4_ready_66 : decode cX4_ready 66 = .ok (.goto (-44), 3) := by decide +kernel
theorem dX4_ready_69 : decode cX4_ready 69 = .ok (.iload_n 2, 1) := by decide +kernel
theorem dX4_ready_70 : decode cX4_ready 70 = .ok (.ireturn, 1) := by decide +kernel
theorem dX4_spares_0 : decode cX4_spares 0 = .ok (.aload_n 0, 1) := by decide +kernel
theorem dX4_spares_1 : decode cX4_spares 1 = .ok (.iconst 0, 1) := by decide +kernel
theorem dX4_spares_2 : decode cX4_spares 2 = .ok (.putfield 45, 3) := by decide +kernel
theorem dX4_spares_5 : decode cX4_spares 5 = .ok (.iconst 0, 1) := by decide +kernel
theorem dX4_spares_6 : decode cX4_spares 6 = .ok (.istore_n 1, 1) := by decide +kernel
theorem dX4_spares_7 : decode cX4_spares 7 = .ok (.iconst 0, 1) := by decide +kernel
theorem dX4_spares_8 : decode cX4_spares 8 = .ok (.istore_n 2, 1) := by decide +kernel
theorem dX4_spares_9 : decode cX4_spares 9 = .ok (.iload_n 2, 1) := by decide +kernel
theorem dX4_spares_10 : decode cX4_spares 10 = .ok (.aload_n 0, 1) := by decide +kernel
theorem dX4_spares_11 : decode cX4_spares 11 = .ok (.getfield 85, 3) := by decide +kernel
theorem dX4_spares_14 : decode cX4_spares 14 = .ok (.if_icmp .ge 47, 3) := by decide +kernel
theorem dX4_spares_17 : decode cX4_spares 17 = .ok (.iload_n 1, 1) := by decide +kernel
theorem dX4_spares_18 : decode cX4_spares 18 = .ok (.aload_n 0, 1) := by decide +kernel
theorem dX4_spares_19 : decode cX4_spares 19 = .ok (.getfield 7, 3) := by decide +kernel
theorem dX4_spares_22 : decode cX4_spares 22 = .ok (.aload_n 0, 1) := by decide +kernel
theorem dX4_spares_23 : decode cX4_spares 23 = .ok (.getfield 33, 3) := by decide +kernel
theorem dX4_spares_26 : decode cX4_spares 26 = .ok (.aload_n 0, 1) := by decide +kernel
theorem dX4_spares_27 : decode cX4_spares 27 = .ok (.getfield 39, 3) := by decide +kernel
theorem dX4_spares_30 : decode cX4_spares 30 = .ok (.iload_n 2, 1) := by decide +kernel
theorem dX4_spares_31 : decode cX4_spares 31 = .ok (.iaload, 1) := by decide +kernel
theorem dX4_spares_32 : decode cX4_spares 32 = .ok (.iaload, 1) := by decide +kernel
theorem dX4_spares_33 : decode cX4_spares 33 = .ok (.iaload, 1) := by decide +kernel
theorem dX4_spares_34 : decode cX4_spares 34 = .ok (.aload_n 0, 1) := by decide +kernel
theorem dX4_spares_35 : decode cX4_spares 35 = .ok (.getfield 30, 3) := by decide +kernel
theorem dX4_spares_38 : decode cX4_spares 38 = .ok (.aload_n 0, 1) := by decide +kernel
theorem dX4_spares_39 : decode cX4_spares 39 = .ok (.getfield 39, 3) := by decide +kernel
theorem dX4_spares_42 : decode cX4_spares 42 = .ok (.iload_n 2, 1) := by decide +kernel
theorem dX4_spares_43 : decode cX4_spares 43 = .ok (.iaload, 1) := by decide +kernel
theorem dX4_spares_44 : decode cX4_spares 44 = .ok (.iaload, 1) := by decide +kernel
theorem dX4_spares_45 : decode cX4_spares 45 = .ok (.if_icmp .le 7, 3) := by decide +kernel
theorem dX4_spares_48 : decode cX4_spares 48 = .ok (.iconst 1, 1) := by decide +kernel
theorem dX4_spares_49 : decode cX4_spares 49 = .ok (.goto 4, 3) := by decide +kernel
theorem dX4_spares_52 : decode cX4_spares 52 = .ok (.iconst 0, 1) := by decide +kernel
theorem dX4_spares_53 : decode cX4_spares 53 = .ok (.iadd, 1) := by decide +kernel
theorem dX4_spares_54 : decode cX4_spares 54 = .ok (.istore_n 1, 1) := by decide +kernel
theorem dX4_spares_55 : decode cX4_spares 55 = .ok (.iinc 2 1, 3) := by decide +kernel
theorem dX4_spares_58 : decode cX4_spares 58 = .ok (.goto (-49), 3) := by decide +kernel
theorem dX4_spares_61 : decode cX4_spares 61 = .ok (.iload_n 1, 1) := by decide +kernel
theorem dX4_spares_62 : decode cX4_spares 62 = .ok (.ireturn, 1) := by decide +kernel
set_option maxRecDepth 20000 in
theorem ggX4_alarm_X4_in : GoodIn wsX4_alarm wsX4_in := goodIn_r _ [7] (by decide +kernel) (by decide +kernel)
set_option maxRecDepth 20000 in
theorem gX4_alarm_X4_in : GoodIn wsX4_alarm (va_wsS RX4 52 yX4_in wsX4_in) := goodIn_app (goodIn_of _ (by decide +kernel)) ggX4_alarm_X4_in
theorem dX4_alarm_0 : decode cX4_alarm 0 = .ok (.aload_n 0, 1) := by decide +kernel
theorem dX4_alarm_1 : decode cX4_alarm 1 = .ok (.iconst 0, 1) := by decide +kernel
theorem dX4_alarm_2 : decode cX4_alarm 2 = .ok (.putfield 45, 3) := by decide +kernel
theorem dX4_alarm_5 : decode cX4_alarm 5 = .ok (.iload_n 1, 1) := by decide +kernel
theorem dX4_alarm_6 : decode cX4_alarm 6 = .ok (.iconst 0, 1) := by decide +kernel
theorem dX4_alarm_7 : decode cX4_alarm 7 = .ok (.aload_n 0, 1) := by decide +kernel
theorem dX4_alarm_8 : decode cX4_alarm 8 = .ok (.getfield 88, 3) := by decide +kernel
theorem dX4_alarm_11 : decode cX4_alarm 11 = .ok (.iconst 1, 1) := by decide +kernel
theorem dX4_alarm_12 : decode cX4_alarm 12 = .ok (.isub, 1) := by decide +kernel
theorem dX4_alarm_13 : decode cX4_alarm 13 = .ok (.invokestatic 52, 3) := by decide +kernel
theorem dX4_alarm_16 : decode cX4_alarm 16 = .ok (.ifCond .eq 12, 3) := by decide +kernel
theorem dX4_alarm_19 : decode cX4_alarm 19 = .ok (.aload_n 0, 1) := by decide +kernel
theorem dX4_alarm_20 : decode cX4_alarm 20 = .ok (.getfield 42, 3) := by decide +kernel
theorem dX4_alarm_23 : decode cX4_alarm 23 = .ok (.iload_n 1, 1) := by decide +kernel
theorem dX4_alarm_24 : decode cX4_alarm 24 = .ok (.iaload, 1) := by decide +kernel
theorem dX4_alarm_25 : decode cX4_alarm 25 = .ok (.goto 4, 3) := by decide +kernel
theorem dX4_alarm_28 : decode cX4_alarm 28 = .ok (.iconst (-1), 1) := by decide +kernel
theorem dX4_alarm_29 : decode cX4_alarm 29 = .ok (.ireturn, 1) := by decide +kernel
set_option maxRecDepth 20000 in
theorem ggX4_lightLeft_X4_isMiner : GoodIn wsX4_lightLeft wsX4_isMiner := goodIn_r _ [8, 9, 10, 11, 7, 12, 13, 14, 15, 16, 17, 18, 19, 20, 21, 22, 23, 24, 25, 26, 27, 28, 29] (by decide +kernel) (by decide +kernel)
set_option maxRecDepth 20000 in
theorem gX4_lightLeft_X4_isMiner : GoodIn wsX4_lightLeft (wsV RX4 75 RX4 yX4_isMiner wsX4_isMiner) := goodIn_app (goodIn_of _ (by decide +kernel)) ggX4_lightLeft_X4_isMiner
theorem dX4_lightLeft_0 : decode cX4_lightLeft 0 = .ok (.aload_n 0, 1) := by decide +kernel
theorem dX4_lightLeft_1 : decode cX4_lightLeft 1 = .ok (.aload_n 0, 1) := by decide +kernel
theorem dX4_lightLeft_2 : decode cX4_lightLeft 2 = .ok (.iload_n 1, 1) := by decide +kernel
theorem dX4_lightLeft_3 : decode cX4_lightLeft 3 = .ok (.invokevirtual 75, 3) := by decide +kernel
theorem dX4_lightLeft_6 : decode cX4_lightLeft 6 = .ok (.ifCond .eq 7, 3) := by decide +kernel
theorem dX4_lightLeft_9 : decode cX4_lightLeft 9 = .ok (.iconst 0, 1) := by decide +kernel
theorem dX4_lightLeft_10 : decode cX4_lightLeft 10 = .ok (.goto 4, 3) := by decide +kernel
theorem dX4_lightLeft_13 : decode cX4_lightLeft 13 = .ok (.iconst 1, 1) := by decide +kernel
theorem dX4_lightLeft_14 : decode cX4_lightLeft 14 = .ok (.putfield 45, 3) := by decide +kernel
theorem dX4_lightLeft_17 : decode cX4_lightLeft 17 = .ok (.aload_n 0, 1) := by decide +kernel
theorem dX4_lightLeft_18 : decode cX4_lightLeft 18 = .ok (.getfield 45, 3) := by decide +kernel
theorem dX4_lightLeft_21 : decode cX4_lightLeft 21 = .ok (.ifCond .le 7, 3) := by decide +kernel
theorem dX4_lightLeft_24 : decode cX4_lightLeft 24 = .ok (.iconst 0, 1) := by decide +kernel
theorem dX4_lightLeft_25 : decode cX4_lightLeft 25 = .ok (.goto 29, 3) := by decide +kernel
theorem dX4_lightLeft_28 : decode cX4_lightLeft 28 = .ok (.aload_n 0, 1) := by decide +kernel
theorem dX4_lightLeft_29 : decode cX4_lightLeft 29 = .ok (.getfield 33, 3) := by decide +kernel
theorem dX4_lightLeft_32 : decode cX4_lightLeft 32 = .ok (.iload_n 1, 1) := by decide +kernel
theorem dX4_lightLeft_33 : decode cX4_lightLeft 33 = .ok (.iaload, 1) := by decide +kernel
theorem dX4_lightLeft_34 : decode cX4_lightLeft 34 = .ok (.iconst (-1), 1) := by decide +kernel
theorem dX4_lightLeft_35 : decode cX4_lightLeft 35 = .ok (.if_icmp .ne 7, 3) := by decide +kernel
theorem dX4_lightLeft_38 : decode cX4_lightLeft 38 = .ok (.iconst (-1), 1) := by decide +kernel
theorem dX4_lightLeft_39 : decode cX4_lightLeft 39 = .ok (.goto 15, 3) := by decide +kernel
theorem dX4_lightLeft_42 : decode cX4_lightLeft 42 = .ok (.aload_n 0, 1) := by decide +kernel
theorem dX4_lightLeft_43 : decode cX4_lightLeft 43 = .ok (.getfield 23, 3) := by decide +kernel
theorem dX4_lightLeft_46 : decode cX4_lightLeft 46 = .ok (.aload_n 0, 1) := by decide +kernel
theorem dX4_lightLeft_47 : decode cX4_lightLeft 47 = .ok (.getfield 33, 3) := by decide +kernel
theorem dX4_lightLeft_50 : decode cX4_lightLeft 50 = .ok (.iload_n 1, 1) := by decide +kernel
theorem dX4_lightLeft_51 : decode cX4_lightLeft 51 = .ok (.iaload, 1) := by decide +kernel
theorem dX4_lightLeft_52 : decode cX4_lightLeft 52 = .ok (.daload, 1) := by decide +kernel
theorem dX4_lightLeft_53 : decode cX4_lightLeft 53 = .ok (.d2i, 1) := by decide +kernel
theorem dX4_lightLeft_54 : decode cX4_lightLeft 54 = .ok (.ireturn, 1) := by decide +kernel
theorem dX4_rackCharge_0 : decode cX4_rackCharge 0 = .ok (.aload_n 0, 1) := by decide +kernel
theorem dX4_rackCharge_1 : decode cX4_rackCharge 1 = .ok (.iconst 0, 1) := by decide +kernel
theorem dX4_rackCharge_2 : decode cX4_rackCharge 2 = .ok (.putfield 45, 3) := by decide +kernel
theorem dX4_rackCharge_5 : decode cX4_rackCharge 5 = .ok (.dconst 0, 1) := by decide +kernel
theorem dX4_rackCharge_6 : decode cX4_rackCharge 6 = .ok (.dstore_n 1, 1) := by decide +kernel
theorem dX4_rackCharge_7 : decode cX4_rackCharge 7 = .ok (.dconst 0, 1) := by decide +kernel
theorem dX4_rackCharge_8 : decode cX4_rackCharge 8 = .ok (.dstore_n 3, 1) := by decide +kernel
theorem dX4_rackCharge_9 : decode cX4_rackCharge 9 = .ok (.iconst 0, 1) := by decide +kernel
theorem dX4_rackCharge_10 : decode cX4_rackCharge 10 = .ok (.istore 5, 2) := by decide +kernel
theorem dX4_rackCharge_12 : decode cX4_rackCharge 12 = .ok (.iload 5, 2) := by decide +kernel
theorem dX4_rackCharge_14 : decode cX4_rackCharge 14 = .ok (.aload_n 0, 1) := by decide +kernel
theorem dX4_rackCharge_15 : decode cX4_rackCharge 15 = .ok (.getfield 49, 3) := by decide +kernel
theorem dX4_rackCharge_18 : decode cX4_rackCharge 18 = .ok (.if_icmp .ge 57, 3) := by decide +kernel
theorem dX4_rackCharge_21 : decode cX4_rackCharge 21 = .ok (.dload_n 1, 1) := by decide +kernel
theorem dX4_rackCharge_22 : decode cX4_rackCharge 22 = .ok (.aload_n 0, 1) := by decide +kernel
theorem dX4_rackCharge_23 : decode cX4_rackCharge 23 = .ok (.getfield 13, 3) := by decide +kernel
theorem dX4_rackCharge_26 : decode cX4_rackCharge 26 = .ok (.iload 5, 2) := by decide +kernel
theorem dX4_rackCharge_28 : decode cX4_rackCharge 28 = .ok (.iaload, 1) := by decide +kernel
theorem dX4_rackCharge_29 : decode cX4_rackCharge 29 = .ok (.ifCond .ne 13, 3) := by decide +kernel
theorem dX4_rackCharge_32 : decode cX4_rackCharge 32 = .ok (.aload_n 0, 1) := by decide +kernel
theorem dX4_rackCharge_33 : decode cX4_rackCharge 33 = .ok (.getfield 23, 3) := by decide +kernel
theorem dX4_rackCharge_36 : decode cX4_rackCharge 36 = .ok (.iload 5, 2) := by decide +kernel
theorem dX4_rackCharge_38 : decode cX4_rackCharge 38 = .ok (.daload, 1) := by decide +kernel
theorem dX4_rackCharge_39 : decode cX4_rackCharge 39 = .ok (.goto 4, 3) := by decide +kernel
theorem dX4_rackCharge_42 : decode cX4_rackCharge 42 = .ok (.dconst 0, 1) := by decide +kernel
theorem dX4_rackCharge_43 : decode cX4_rackCharge 43 = .ok (.dadd, 1) := by decide +kernel
theorem dX4_rackCharge_44 : decode cX4_rackCharge 44 = .ok (.dstore_n 1, 1) := by decide +kernel
theorem dX4_rackCharge_45 : decode cX4_rackCharge 45 = .ok (.dload_n 3, 1) := by decide +kernel
theorem dX4_rackCharge_46 : decode cX4_rackCharge 46 = .ok (.aload_n 0, 1) := by decide +kernel
theorem dX4_rackCharge_47 : decode cX4_rackCharge 47 = .ok (.getfield 13, 3) := by decide +kernel
theorem dX4_rackCharge_50 : decode cX4_rackCharge 50 = .ok (.iload 5, 2) := by decide +kernel
theorem dX4_rackCharge_52 : decode cX4_rackCharge 52 = .ok (.iaload, 1) := by decide +kernel
theorem dX4_rackCharge_53 : decode cX4_rackCharge 53 = .ok (.ifCond .ne 13, 3) := by decide +kernel
theorem dX4_rackCharge_56 : decode cX4_rackCharge 56 = .ok (.aload_n 0, 1) := by decide +kernel
theorem dX4_rackCharge_57 : decode cX4_rackCharge 57 = .ok (.getfield 27, 3) := by decide +kernel
theorem dX4_rackCharge_60 : decode cX4_rackCharge 60 = .ok (.iload 5, 2) := by decide +kernel
theorem dX4_rackCharge_62 : decode cX4_rackCharge 62 = .ok (.daload, 1) := by decide +kernel
theorem dX4_rackCharge_63 : decode cX4_rackCharge 63 = .ok (.goto 4, 3) := by decide +kernel
theorem dX4_rackCharge_66 : decode cX4_rackCharge 66 = .ok (.dconst 0, 1) := by decide +kernel
theorem dX4_rackCharge_67 : decode cX4_rackCharge 67 = .ok (.dadd, 1) := by decide +kernel
theorem dX4_rackCharge_68 : decode cX4_rackCharge 68 = .ok (.dstore_n 3, 1) := by decide +kernel
theorem dX4_rackCharge_69 : decode cX4_rackCharge 69 = .ok (.iinc 5 1, 3) := by decide +kernel
theorem dX4_rackCharge_72 : decode cX4_rackCharge 72 = .ok (.goto (-60), 3) := by decide +kernel
theorem dX4_rackCharge_75 : decode cX4_rackCharge 75 = .ok (.dload_n 3, 1) := by decide +kernel
theorem dX4_rackCharge_76 : decode cX4_rackCharge 76 = .ok (.dconst 0, 1) := by decide +kernel
theorem dX4_rackCharge_77 : decode cX4_rackCharge 77 = .ok (.dcmp .l, 1) := by decide +kernel
theorem dX4_rackCharge_78 : decode cX4_rackCharge 78 = .ok (.ifCond .ne 7, 3) := by decide +kernel
theorem dX4_rackCharge_81 : decode cX4_rackCharge 81 = .ok (.iconst 0, 1) := by decide +kernel
theorem dX4_rackCharge_82 : decode cX4_rackCharge 82 = .ok (.goto 11, 3) := by decide +kernel
theorem dX4_rackCharge_85 : decode cX4_rackCharge 85 = .ok (.dload_n 1, 1) := by decide +kernel
theorem dX4_rackCharge_86 : decode cX4_rackCharge 86 = .ok (.dload_n 3, 1) := by decide +kernel
theorem dX4_rackCharge_87 : decode cX4_rackCharge 87 = .ok (.ddiv, 1) := by decide +kernel
theorem dX4_rackCharge_88 : decode cX4_rackCharge 88 = .ok (.ldc2_w 120, 3) := by decide +kernel
theorem dX4_rackCharge_91 : decode cX4_rackCharge 91 = .ok (.dmul, 1) := by decide +kernel
theorem dX4_rackCharge_92 : decode cX4_rackCharge 92 = .ok (.d2i, 1) := by decide +kernel
theorem dX4_rackCharge_93 : decode cX4_rackCharge 93 = .ok (.ireturn, 1) := by decide +kernel
