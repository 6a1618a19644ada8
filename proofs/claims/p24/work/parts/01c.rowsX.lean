theorem dX0_init_0 : decode cX0_init 0 = .ok (.aload_n 0, 1) := by decide +kernel
theorem dX0_init_1 : decode cX0_init 1 = .ok (.invokespecial 3, 3) := by decide +kernel
theorem dX0_init_4 : decode cX0_init 4 = .ok (.aload_n 0, 1) := by decide +kernel
theorem dX0_init_5 : decode cX0_init 5 = .ok (.iconst 2, 1) := by decide +kernel
theorem dX0_init_6 : decode cX0_init 6 = .ok (.newarray .int, 2) := by decide +kernel
theorem dX0_init_8 : decode cX0_init 8 = .ok (.putfield 9, 3) := by decide +kernel
theorem dX0_init_11 : decode cX0_init 11 = .ok (.aload_n 0, 1) := by decide +kernel
theorem dX0_init_12 : decode cX0_init 12 = .ok (.iconst 2, 1) := by decide +kernel
theorem dX0_init_13 : decode cX0_init 13 = .ok (.newarray .int, 2) := by decide +kernel
theorem dX0_init_15 : decode cX0_init 15 = .ok (.putfield 15, 3) := by decide +kernel
theorem dX0_init_18 : decode cX0_init 18 = .ok (.aload_n 0, 1) := by decide +kernel
theorem dX0_init_19 : decode cX0_init 19 = .ok (.iconst 2, 1) := by decide +kernel
theorem dX0_init_20 : decode cX0_init 20 = .ok (.newarray .int, 2) := by decide +kernel
theorem dX0_init_22 : decode cX0_init 22 = .ok (.putfield 18, 3) := by decide +kernel
theorem dX0_init_25 : decode cX0_init 25 = .ok (.aload_n 0, 1) := by decide +kernel
theorem dX0_init_26 : decode cX0_init 26 = .ok (.iconst 2, 1) := by decide +kernel
theorem dX0_init_27 : decode cX0_init 27 = .ok (.newarray .int, 2) := by decide +kernel
theorem dX0_init_29 : decode cX0_init 29 = .ok (.putfield 21, 3) := by decide +kernel
theorem dX0_init_32 : decode cX0_init 32 = .ok (.iconst 0, 1) := by decide +kernel
theorem dX0_init_33 : decode cX0_init 33 = .ok (.istore_n 1, 1) := by decide +kernel
theorem dX0_init_34 : decode cX0_init 34 = .ok (.iload_n 1, 1) := by decide +kernel
theorem dX0_init_35 : decode cX0_init 35 = .ok (.iconst 2, 1) := by decide +kernel
theorem dX0_init_36 : decode cX0_init 36 = .ok (.if_icmp .ge 17, 3) := by decide +kernel
theorem dX0_init_39 : decode cX0_init 39 = .ok (.aload_n 0, 1) := by decide +kernel
theorem dX0_init_40 : decode cX0_init 40 = .ok (.getfield 21, 3) := by decide +kernel
theorem dX0_init_43 : decode cX0_init 43 = .ok (.iload_n 1, 1) := by decide +kernel
theorem dX0_init_44 : decode cX0_init 44 = .ok (.ldc 24, 2) := by decide +kernel
theorem dX0_init_46 : decode cX0_init 46 = .ok (.iastore, 1) := by decide +kernel
theorem dX0_init_47 : decode cX0_init 47 = .ok (.iinc 1 1, 3) := by decide +kernel
theorem dX0_init_50 : decode cX0_init 50 = .ok (.goto (-16), 3) := by decide +kernel
theorem dX0_init_53 : decode cX0_init 53 = .ok (.return_, 1) := by decide +kernel
set_option maxRecDepth 20000 in
theorem ggX0_choose_X4_numberIn : GoodIn wsX0_choose wsX4_numberIn := goodIn_r _ [5] (by decide +kernel) (by decide +kernel)
set_option maxRecDepth 20000 in
theorem gX0_choose_X4_numberIn_n25 : GoodIn wsX0_choose (wsX4_numberIn) := ggX0_choose_X4_numberIn
set_option maxRecDepth 20000 in
theorem ggX0_choose_X0_lets : GoodIn wsX0_choose wsX0_lets := goodIn_r _ [10, 11, 12, 13, 14, 15, 16] (by decide +kernel) (by decide +kernel)
set_option maxRecDepth 20000 in
theorem gX0_choose_X0_lets : GoodIn wsX0_choose (wsV RX0 29 RX0 yX0_lets wsX0_lets) := goodIn_app (goodIn_of _ (by decide +kernel)) ggX0_choose_X0_lets
theorem dX0_choose_0 : decode cX0_choose 0 = .ok (.iload_n 2, 1) := by decide +kernel
theorem dX0_choose_1 : decode cX0_choose 1 = .ok (.iconst (-1), 1) := by decide +kernel
theorem dX0_choose_2 : decode cX0_choose 2 = .ok (.if_icmp .eq 32, 3) := by decide +kernel
theorem dX0_choose_5 : decode cX0_choose 5 = .ok (.aload_n 0, 1) := by decide +kernel
theorem dX0_choose_6 : decode cX0_choose 6 = .ok (.iload_n 1, 1) := by decide +kernel
theorem dX0_choose_7 : decode cX0_choose 7 = .ok (.iload_n 2, 1) := by decide +kernel
theorem dX0_choose_8 : decode cX0_choose 8 = .ok (.aload_n 0, 1) := by decide +kernel
theorem dX0_choose_9 : decode cX0_choose 9 = .ok (.getfield 9, 3) := by decide +kernel
theorem dX0_choose_12 : decode cX0_choose 12 = .ok (.iload_n 1, 1) := by decide +kernel
theorem dX0_choose_13 : decode cX0_choose 13 = .ok (.iaload, 1) := by decide +kernel
theorem dX0_choose_14 : decode cX0_choose 14 = .ok (.invokestatic 25, 3) := by decide +kernel
theorem dX0_choose_17 : decode cX0_choose 17 = .ok (.invokevirtual 29, 3) := by decide +kernel
theorem dX0_choose_20 : decode cX0_choose 20 = .ok (.ifCond .eq 14, 3) := by decide +kernel
theorem dX0_choose_23 : decode cX0_choose 23 = .ok (.iload_n 2, 1) := by decide +kernel
theorem dX0_choose_24 : decode cX0_choose 24 = .ok (.aload_n 0, 1) := by decide +kernel
theorem dX0_choose_25 : decode cX0_choose 25 = .ok (.getfield 21, 3) := by decide +kernel
theorem dX0_choose_28 : decode cX0_choose 28 = .ok (.iload_n 1, 1) := by decide +kernel
theorem dX0_choose_29 : decode cX0_choose 29 = .ok (.iaload, 1) := by decide +kernel
theorem dX0_choose_30 : decode cX0_choose 30 = .ok (.iand, 1) := by decide +kernel
theorem dX0_choose_31 : decode cX0_choose 31 = .ok (.goto 4, 3) := by decide +kernel
theorem dX0_choose_34 : decode cX0_choose 34 = .ok (.iconst (-1), 1) := by decide +kernel
theorem dX0_choose_35 : decode cX0_choose 35 = .ok (.ireturn, 1) := by decide +kernel
theorem dX0_lets_0 : decode cX0_lets 0 = .ok (.aload_n 0, 1) := by decide +kernel
theorem dX0_lets_1 : decode cX0_lets 1 = .ok (.getfield 15, 3) := by decide +kernel
theorem dX0_lets_4 : decode cX0_lets 4 = .ok (.iload_n 1, 1) := by decide +kernel
theorem dX0_lets_5 : decode cX0_lets 5 = .ok (.iaload, 1) := by decide +kernel
theorem dX0_lets_6 : decode cX0_lets 6 = .ok (.lookupswitch 58 #[(1, 26), (2, 42)], 26) := by decide +kernel
theorem dX0_lets_32 : decode cX0_lets 32 = .ok (.iload_n 2, 1) := by decide +kernel
theorem dX0_lets_33 : decode cX0_lets 33 = .ok (.aload_n 0, 1) := by decide +kernel
theorem dX0_lets_34 : decode cX0_lets 34 = .ok (.getfield 18, 3) := by decide +kernel
theorem dX0_lets_37 : decode cX0_lets 37 = .ok (.iload_n 1, 1) := by decide +kernel
theorem dX0_lets_38 : decode cX0_lets 38 = .ok (.iaload, 1) := by decide +kernel
theorem dX0_lets_39 : decode cX0_lets 39 = .ok (.if_icmp .ge 7, 3) := by decide +kernel
theorem dX0_lets_42 : decode cX0_lets 42 = .ok (.iconst 1, 1) := by decide +kernel
theorem dX0_lets_43 : decode cX0_lets 43 = .ok (.goto 4, 3) := by decide +kernel
theorem dX0_lets_46 : decode cX0_lets 46 = .ok (.iconst 0, 1) := by decide +kernel
theorem dX0_lets_47 : decode cX0_lets 47 = .ok (.ireturn, 1) := by decide +kernel
theorem dX0_lets_48 : decode cX0_lets 48 = .ok (.iload_n 2, 1) := by decide +kernel
theorem dX0_lets_49 : decode cX0_lets 49 = .ok (.aload_n 0, 1) := by decide +kernel
theorem dX0_lets_50 : decode cX0_lets 50 = .ok (.getfield 18, 3) := by decide +kernel
theorem dX0_lets_53 : decode cX0_lets 53 = .ok (.iload_n 1, 1) := by decide +kernel
theorem dX0_lets_54 : decode cX0_lets 54 = .ok (.iaload, 1) := by decide +kernel
theorem dX0_lets_55 : decode cX0_lets 55 = .ok (.if_icmp .lt 7, 3) := by decide +kernel
theorem dX0_lets_58 : decode cX0_lets 58 = .ok (.iconst 1, 1) := by decide +kernel
theorem dX0_lets_59 : decode cX0_lets 59 = .ok (.goto 4, 3) := by decide +kernel
theorem dX0_lets_62 : decode cX0_lets 62 = .ok (.iconst 0, 1) := by decide +kernel
theorem dX0_lets_63 : decode cX0_lets 63 = .ok (.ireturn, 1) := by decide +kernel
theorem dX0_lets_64 : decode cX0_lets 64 = .ok (.iconst 1, 1) := by decide +kernel
theorem dX0_lets_65 : decode cX0_lets 65 = .ok (.ireturn, 1) := by decide +kernel
theorem dX1_init_0 : decode cX1_init 0 = .ok (.aload_n 0, 1) := by decide +kernel
theorem dX1_init_1 : decode cX1_init 1 = .ok (.invokespecial 3, 3) := by decide +kernel
theorem dX1_init_4 : decode cX1_init 4 = .ok (.aload_n 0, 1) := by decide +kernel
theorem dX1_init_5 : decode cX1_init 5 = .ok (.bipush 24, 2) := by decide +kernel
theorem dX1_init_7 : decode cX1_init 7 = .ok (.newarray .int, 2) := by decide +kernel
theorem dX1_init_9 : decode cX1_init 9 = .ok (.putfield 9, 3) := by decide +kernel
theorem dX1_init_12 : decode cX1_init 12 = .ok (.aload_n 0, 1) := by decide +kernel
theorem dX1_init_13 : decode cX1_init 13 = .ok (.iconst 0, 1) := by decide +kernel
theorem dX1_init_14 : decode cX1_init 14 = .ok (.putfield 15, 3) := by decide +kernel
theorem dX1_init_17 : decode cX1_init 17 = .ok (.aload_n 0, 1) := by decide +kernel
theorem dX1_init_18 : decode cX1_init 18 = .ok (.bipush 51, 2) := by decide +kernel
theorem dX1_init_20 : decode cX1_init 20 = .ok (.newarray .int, 2) := by decide +kernel
theorem dX1_init_22 : decode cX1_init 22 = .ok (.putfield 19, 3) := by decide +kernel
theorem dX1_init_25 : decode cX1_init 25 = .ok (.aload_n 0, 1) := by decide +kernel
theorem dX1_init_26 : decode cX1_init 26 = .ok (.sipush 612, 3) := by decide +kernel
theorem dX1_init_29 : decode cX1_init 29 = .ok (.newarray .int, 2) := by decide +kernel
theorem dX1_init_31 : decode cX1_init 31 = .ok (.putfield 22, 3) := by decide +kernel
theorem dX1_init_34 : decode cX1_init 34 = .ok (.aload_n 0, 1) := by decide +kernel
theorem dX1_init_35 : decode cX1_init 35 = .ok (.sipush 612, 3) := by decide +kernel
theorem dX1_init_38 : decode cX1_init 38 = .ok (.newarray .int, 2) := by decide +kernel
theorem dX1_init_40 : decode cX1_init 40 = .ok (.putfield 25, 3) := by decide +kernel
theorem dX1_init_43 : decode cX1_init 43 = .ok (.aload_n 0, 1) := by decide +kernel
theorem dX1_init_44 : decode cX1_init 44 = .ok (.sipush 612, 3) := by decide +kernel
theorem dX1_init_47 : decode cX1_init 47 = .ok (.newarray .int, 2) := by decide +kernel
theorem dX1_init_49 : decode cX1_init 49 = .ok (.putfield 28, 3) := by decide +kernel
theorem dX1_init_52 : decode cX1_init 52 = .ok (.aload_n 0, 1) := by decide +kernel
theorem dX1_init_53 : decode cX1_init 53 = .ok (.sipush 1224, 3) := by decide +kernel
theorem dX1_init_56 : decode cX1_init 56 = .ok (.newarray .int, 2) := by decide +kernel
theorem dX1_init_58 : decode cX1_init 58 = .ok (.putfield 31, 3) := by decide +kernel
theorem dX1_init_61 : decode cX1_init 61 = .ok (.iconst 0, 1) := by decide +kernel
theorem dX1_init_62 : decode cX1_init 62 = .ok (.istore_n 1, 1) := by decide +kernel
theorem dX1_init_63 : decode cX1_init 63 = .ok (.iload_n 1, 1) := by decide +kernel
theorem dX1_init_64 : decode cX1_init 64 = .ok (.bipush 24, 2) := by decide +kernel
theorem dX1_init_66 : decode cX1_init 66 = .ok (.if_icmp .ge 23, 3) := by decide +kernel
theorem dX1_init_69 : decode cX1_init 69 = .ok (.aload_n 0, 1) := by decide +kernel
theorem dX1_init_70 : decode cX1_init 70 = .ok (.getfield 9, 3) := by decide +kernel
theorem dX1_init_73 : decode cX1_init 73 = .ok (.iload_n 1, 1) := by decide +kernel
theorem dX1_init_74 : decode cX1_init 74 = .ok (.iconst (-1), 1) := by decide +kernel
theorem dX1_init_75 : decode cX1_init 75 = .ok (.iastore, 1) := by decide +kernel
theorem dX1_init_76 : decode cX1_init 76 = .ok (.aload_n 0, 1) := by decide +kernel
theorem dX1_init_77 : decode cX1_init 77 = .ok (.getfield 31, 3) := by decide +kernel
theorem dX1_init_80 : decode cX1_init 80 = .ok (.iload_n 1, 1) := by decide +kernel
theorem dX1_init_81 : decode cX1_init 81 = .ok (.iconst (-1), 1) := by decide +kernel
theorem dX1_init_82 : decode cX1_init 82 = .ok (.iastore, 1) := by decide +kernel
theorem dX1_init_83 : decode cX1_init 83 = .ok (.iinc 1 1, 3) := by decide +kernel
theorem dX1_init_86 : decode cX1_init 86 = .ok (.goto (-23), 3) := by decide +kernel
theorem dX1_init_89 : decode cX1_init 89 = .ok (.return_, 1) := by decide +kernel
theorem dX1_openChanges_0 : decode cX1_openChanges 0 = .ok (.aload_n 0, 1) := by decide +kernel
theorem dX1_openChanges_1 : decode cX1_openChanges 1 = .ok (.getfield 19, 3) := by decide +kernel
theorem dX1_openChanges_4 : decode cX1_openChanges 4 = .ok (.aload_n 0, 1) := by decide +kernel
theorem dX1_openChanges_5 : decode cX1_openChanges 5 = .ok (.getfield 15, 3) := by decide +kernel
theorem dX1_openChanges_8 : decode cX1_openChanges 8 = .ok (.iaload, 1) := by decide +kernel
theorem dX1_openChanges_9 : decode cX1_openChanges 9 = .ok (.ireturn, 1) := by decide +kernel
set_option maxRecDepth 20000 in
theorem ggX1_change_X4_placeOf : GoodIn wsX1_change wsX4_placeOf := goodIn_r _ [9] (by decide +kernel) (by decide +kernel)
set_option maxRecDepth 20000 in
theorem gX1_change_X4_placeOf_n34 : GoodIn wsX1_change (wsX4_placeOf) := ggX1_change_X4_placeOf
theorem dX1_change_0 : decode cX1_change 0 = .ok (.aload_n 0, 1) := by decide +kernel
theorem dX1_change_1 : decode cX1_change 1 = .ok (.getfield 15, 3) := by decide +kernel
theorem dX1_change_4 : decode cX1_change 4 = .ok (.bipush 12, 2) := by decide +kernel
theorem dX1_change_6 : decode cX1_change 6 = .ok (.imul, 1) := by decide +kernel
theorem dX1_change_7 : decode cX1_change 7 = .ok (.aload_n 0, 1) := by decide +kernel
theorem dX1_change_8 : decode cX1_change 8 = .ok (.getfield 19, 3) := by decide +kernel
theorem dX1_change_11 : decode cX1_change 11 = .ok (.aload_n 0, 1) := by decide +kernel
theorem dX1_change_12 : decode cX1_change 12 = .ok (.getfield 15, 3) := by decide +kernel
theorem dX1_change_15 : decode cX1_change 15 = .ok (.iaload, 1) := by decide +kernel
theorem dX1_change_16 : decode cX1_change 16 = .ok (.iadd, 1) := by decide +kernel
theorem dX1_change_17 : decode cX1_change 17 = .ok (.istore 4, 2) := by decide +kernel
theorem dX1_change_19 : decode cX1_change 19 = .ok (.aload_n 0, 1) := by decide +kernel
theorem dX1_change_20 : decode cX1_change 20 = .ok (.getfield 22, 3) := by decide +kernel
theorem dX1_change_23 : decode cX1_change 23 = .ok (.iload 4, 2) := by decide +kernel
theorem dX1_change_25 : decode cX1_change 25 = .ok (.iload_n 1, 1) := by decide +kernel
theorem dX1_change_26 : decode cX1_change 26 = .ok (.iastore, 1) := by decide +kernel
theorem dX1_change_27 : decode cX1_change 27 = .ok (.aload_n 0, 1) := by decide +kernel
theorem dX1_change_28 : decode cX1_change 28 = .ok (.getfield 25, 3) := by decide +kernel
theorem dX1_change_31 : decode cX1_change 31 = .ok (.iload 4, 2) := by decide +kernel
theorem dX1_change_33 : decode cX1_change 33 = .ok (.iload_n 2, 1) := by decide +kernel
theorem dX1_change_34 : decode cX1_change 34 = .ok (.iastore, 1) := by decide +kernel
theorem dX1_change_35 : decode cX1_change 35 = .ok (.aload_n 0, 1) := by decide +kernel
theorem dX1_change_36 : decode cX1_change 36 = .ok (.getfield 28, 3) := by decide +kernel
theorem dX1_change_39 : decode cX1_change 39 = .ok (.iload 4, 2) := by decide +kernel
theorem dX1_change_41 : decode cX1_change 41 = .ok (.iload_n 3, 1) := by decide +kernel
theorem dX1_change_42 : decode cX1_change 42 = .ok (.iastore, 1) := by decide +kernel
theorem dX1_change_43 : decode cX1_change 43 = .ok (.aload_n 0, 1) := by decide +kernel
theorem dX1_change_44 : decode cX1_change 44 = .ok (.getfield 19, 3) := by decide +kernel
theorem dX1_change_47 : decode cX1_change 47 = .ok (.aload_n 0, 1) := by decide +kernel
theorem dX1_change_48 : decode cX1_change 48 = .ok (.getfield 15, 3) := by decide +kernel
theorem dX1_change_51 : decode cX1_change 51 = .ok (.dup2, 1) := by decide +kernel
theorem dX1_change_52 : decode cX1_change 52 = .ok (.iaload, 1) := by decide +kernel
theorem dX1_change_53 : decode cX1_change 53 = .ok (.iconst 1, 1) := by decide +kernel
theorem dX1_change_54 : decode cX1_change 54 = .ok (.iadd, 1) := by decide +kernel
theorem dX1_change_55 : decode cX1_change 55 = .ok (.iastore, 1) := by decide +kernel
theorem dX1_change_56 : decode cX1_change 56 = .ok (.iload_n 2, 1) := by decide +kernel
theorem dX1_change_57 : decode cX1_change 57 = .ok (.iconst (-1), 1) := by decide +kernel
theorem dX1_change_58 : decode cX1_change 58 = .ok (.if_icmp .ne 7, 3) := by decide +kernel
theorem dX1_change_61 : decode cX1_change 61 = .ok (.iconst 0, 1) := by decide +kernel
theorem dX1_change_62 : decode cX1_change 62 = .ok (.goto 4, 3) := by decide +kernel
theorem dX1_change_65 : decode cX1_change 65 = .ok (.iload_n 2, 1) := by decide +kernel
theorem dX1_change_66 : decode cX1_change 66 = .ok (.istore 5, 2) := by decide +kernel
theorem dX1_change_68 : decode cX1_change 68 = .ok (.iload_n 2, 1) := by decide +kernel
theorem dX1_change_69 : decode cX1_change 69 = .ok (.iconst (-1), 1) := by decide +kernel
theorem dX1_change_70 : decode cX1_change 70 = .ok (.if_icmp .ne 8, 3) := by decide +kernel
theorem dX1_change_73 : decode cX1_change 73 = .ok (.bipush 12, 2) := by decide +kernel
theorem dX1_change_75 : decode cX1_change 75 = .ok (.goto 6, 3) := by decide +kernel
theorem dX1_change_78 : decode cX1_change 78 = .ok (.iload_n 2, 1) := by decide +kernel
theorem dX1_change_79 : decode cX1_change 79 = .ok (.iconst 1, 1) := by decide +kernel
theorem dX1_change_80 : decode cX1_change 80 = .ok (.iadd, 1) := by decide +kernel
theorem dX1_change_81 : decode cX1_change 81 = .ok (.istore 6, 2) := by decide +kernel
theorem dX1_change_83 : decode cX1_change 83 = .ok (.iload 5, 2) := by decide +kernel
theorem dX1_change_85 : decode cX1_change 85 = .ok (.istore 7, 2) := by decide +kernel
theorem dX1_change_87 : decode cX1_change 87 = .ok (.iload 7, 2) := by decide +kernel
theorem dX1_change_89 : decode cX1_change 89 = .ok (.iload 6, 2) := by decide +kernel
theorem dX1_change_91 : decode cX1_change 91 = .ok (.if_icmp .ge 21, 3) := by decide +kernel
theorem dX1_change_94 : decode cX1_change 94 = .ok (.aload_n 0, 1) := by decide +kernel
theorem dX1_change_95 : decode cX1_change 95 = .ok (.getfield 9, 3) := by decide +kernel
theorem dX1_change_98 : decode cX1_change 98 = .ok (.iload_n 1, 1) := by decide +kernel
theorem dX1_change_99 : decode cX1_change 99 = .ok (.iload 7, 2) := by decide +kernel
theorem dX1_change_101 : decode cX1_change 101 = .ok (.invokestatic 34, 3) := by decide +kernel
theorem dX1_change_104 : decode cX1_change 104 = .ok (.iload_n 3, 1) := by decide +kernel
theorem dX1_change_105 : decode cX1_change 105 = .ok (.iastore, 1) := by decide +kernel
theorem dX1_change_106 : decode cX1_change 106 = .ok (.iinc 7 1, 3) := by decide +kernel
theorem dX1_change_109 : decode cX1_change 109 = .ok (.goto (-22), 3) := by decide +kernel
theorem dX1_change_112 : decode cX1_change 112 = .ok (.return_, 1) := by decide +kernel
theorem dX1_close_0 : decode cX1_close 0 = .ok (.aload_n 0, 1) := by decide +kernel
theorem dX1_close_1 : decode cX1_close 1 = .ok (.dup, 1) := by decide +kernel
theorem dX1_close_2 : decode cX1_close 2 = .ok (.getfield 15, 3) := by decide +kernel
theorem dX1_close_5 : decode cX1_close 5 = .ok (.iconst 1, 1) := by decide +kernel
theorem dX1_close_6 : decode cX1_close 6 = .ok (.iadd, 1) := by decide +kernel
theorem dX1_close_7 : decode cX1_close 7 = .ok (.putfield 15, 3) := by decide +kernel
theorem dX1_close_10 : decode cX1_close 10 = .ok (.aload_n 0, 1) := by decide +kernel
theorem dX1_close_11 : decode cX1_close 11 = .ok (.getfield 9, 3) := by decide +kernel
theorem dX1_close_14 : decode cX1_close 14 = .ok (.iconst 0, 1) := by decide +kernel
theorem dX1_close_15 : decode cX1_close 15 = .ok (.aload_n 0, 1) := by decide +kernel
theorem dX1_close_16 : decode cX1_close 16 = .ok (.getfield 31, 3) := by decide +kernel
theorem dX1_close_19 : decode cX1_close 19 = .ok (.aload_n 0, 1) := by decide +kernel
theorem dX1_close_20 : decode cX1_close 20 = .ok (.getfield 15, 3) := by decide +kernel
theorem dX1_close_23 : decode cX1_close 23 = .ok (.bipush 24, 2) := by decide +kernel
theorem dX1_close_25 : decode cX1_close 25 = .ok (.imul, 1) := by decide +kernel
theorem dX1_close_26 : decode cX1_close 26 = .ok (.bipush 24, 2) := by decide +kernel
theorem dX1_close_28 : decode cX1_close 28 = .ok (.invokestatic 38, 3) := by decide +kernel
theorem dX1_close_31 : decode cX1_close 31 = .ok (.return_, 1) := by decide +kernel
theorem dX1_undo_0 : decode cX1_undo 0 = .ok (.aload_n 0, 1) := by decide +kernel
theorem dX1_undo_1 : decode cX1_undo 1 = .ok (.getfield 19, 3) := by decide +kernel
theorem dX1_undo_4 : decode cX1_undo 4 = .ok (.aload_n 0, 1) := by decide +kernel
theorem dX1_undo_5 : decode cX1_undo 5 = .ok (.getfield 15, 3) := by decide +kernel
theorem dX1_undo_8 : decode cX1_undo 8 = .ok (.iconst 0, 1) := by decide +kernel
theorem dX1_undo_9 : decode cX1_undo 9 = .ok (.iastore, 1) := by decide +kernel
theorem dX1_undo_10 : decode cX1_undo 10 = .ok (.aload_n 0, 1) := by decide +kernel
theorem dX1_undo_11 : decode cX1_undo 11 = .ok (.getfield 31, 3) := by decide +kernel
theorem dX1_undo_14 : decode cX1_undo 14 = .ok (.aload_n 0, 1) := by decide +kernel
theorem dX1_undo_15 : decode cX1_undo 15 = .ok (.getfield 15, 3) := by decide +kernel
theorem dX1_undo_18 : decode cX1_undo 18 = .ok (.bipush 24, 2) := by decide +kernel
theorem dX1_undo_20 : decode cX1_undo 20 = .ok (.imul, 1) := by decide +kernel
theorem dX1_undo_21 : decode cX1_undo 21 = .ok (.aload_n 0, 1) := by decide +kernel
theorem dX1_undo_22 : decode cX1_undo 22 = .ok (.getfield 9, 3) := by decide +kernel
theorem dX1_undo_25 : decode cX1_undo 25 = .ok (.iconst 0, 1) := by decide +kernel
theorem dX1_undo_26 : decode cX1_undo 26 = .ok (.bipush 24, 2) := by decide +kernel
theorem dX1_undo_28 : decode cX1_undo 28 = .ok (.invokestatic 38, 3) := by decide +kernel
theorem dX1_undo_31 : decode cX1_undo 31 = .ok (.return_, 1) := by decide +kernel
theorem dX1_rowAsOf_0 : decode cX1_rowAsOf 0 = .ok (.aload_n 0, 1) := by decide +kernel
theorem dX1_rowAsOf_1 : decode cX1_rowAsOf 1 = .ok (.getfield 31, 3) := by decide +kernel
theorem dX1_rowAsOf_4 : decode cX1_rowAsOf 4 = .ok (.iload_n 1, 1) := by decide +kernel
theorem dX1_rowAsOf_5 : decode cX1_rowAsOf 5 = .ok (.bipush 24, 2) := by decide +kernel
theorem dX1_rowAsOf_7 : decode cX1_rowAsOf 7 = .ok (.imul, 1) := by decide +kernel
theorem dX1_rowAsOf_8 : decode cX1_rowAsOf 8 = .ok (.iload_n 2, 1) := by decide +kernel
theorem dX1_rowAsOf_9 : decode cX1_rowAsOf 9 = .ok (.iadd, 1) := by decide +kernel
theorem dX1_rowAsOf_10 : decode cX1_rowAsOf 10 = .ok (.iaload, 1) := by decide +kernel
theorem dX1_rowAsOf_11 : decode cX1_rowAsOf 11 = .ok (.ireturn, 1) := by decide +kernel
theorem dX2_init_0 : decode cX2_init 0 = .ok (.aload_n 0, 1) := by decide +kernel
theorem dX2_init_1 : decode cX2_init 1 = .ok (.invokespecial 3, 3) := by decide +kernel
theorem dX2_init_4 : decode cX2_init 4 = .ok (.aload_n 0, 1) := by decide +kernel
theorem dX2_init_5 : decode cX2_init 5 = .ok (.bipush 24, 2) := by decide +kernel
theorem dX2_init_7 : decode cX2_init 7 = .ok (.newarray .int, 2) := by decide +kernel
theorem dX2_init_9 : decode cX2_init 9 = .ok (.putfield 9, 3) := by decide +kernel
theorem dX2_init_12 : decode cX2_init 12 = .ok (.aload_n 0, 1) := by decide +kernel
theorem dX2_init_13 : decode cX2_init 13 = .ok (.iconst 2, 1) := by decide +kernel
theorem dX2_init_14 : decode cX2_init 14 = .ok (.newarray .int, 2) := by decide +kernel
theorem dX2_init_16 : decode cX2_init 16 = .ok (.putfield 15, 3) := by decide +kernel
theorem dX2_init_19 : decode cX2_init 19 = .ok (.aload_n 0, 1) := by decide +kernel
theorem dX2_init_20 : decode cX2_init 20 = .ok (.aconst_null, 1) := by decide +kernel
theorem dX2_init_21 : decode cX2_init 21 = .ok (.putfield 18, 3) := by decide +kernel
theorem dX2_init_24 : decode cX2_init 24 = .ok (.aload_n 0, 1) := by decide +kernel
theorem dX2_init_25 : decode cX2_init 25 = .ok (.iconst 0, 1) := by decide +kernel
theorem dX2_init_26 : decode cX2_init 26 = .ok (.putfield 22, 3) := by decide +kernel
theorem dX2_init_29 : decode cX2_init 29 = .ok (.aload_n 0, 1) := by decide +kernel
theorem dX2_init_30 : decode cX2_init 30 = .ok (.iconst 0, 1) := by decide +kernel
theorem dX2_init_31 : decode cX2_init 31 = .ok (.putfield 26, 3) := by decide +kernel
theorem dX2_init_34 : decode cX2_init 34 = .ok (.iconst 0, 1) := by decide +kernel
theorem dX2_init_35 : decode cX2_init 35 = .ok (.istore_n 1, 1) := by decide +kernel
theorem dX2_init_36 : decode cX2_init 36 = .ok (.iload_n 1, 1) := by decide +kernel
theorem dX2_init_37 : decode cX2_init 37 = .ok (.bipush 24, 2) := by decide +kernel
theorem dX2_init_39 : decode cX2_init 39 = .ok (.if_icmp .ge 16, 3) := by decide +kernel
theorem dX2_init_42 : decode cX2_init 42 = .ok (.aload_n 0, 1) := by decide +kernel
theorem dX2_init_43 : decode cX2_init 43 = .ok (.getfield 9, 3) := by decide +kernel
theorem dX2_init_46 : decode cX2_init 46 = .ok (.iload_n 1, 1) := by decide +kernel
theorem dX2_init_47 : decode cX2_init 47 = .ok (.iconst (-1), 1) := by decide +kernel
theorem dX2_init_48 : decode cX2_init 48 = .ok (.iastore, 1) := by decide +kernel
theorem dX2_init_49 : decode cX2_init 49 = .ok (.iinc 1 1, 3) := by decide +kernel
theorem dX2_init_52 : decode cX2_init 52 = .ok (.goto (-16), 3) := by decide +kernel
theorem dX2_init_55 : decode cX2_init 55 = .ok (.iconst 0, 1) := by decide +kernel
theorem dX2_init_56 : decode cX2_init 56 = .ok (.istore_n 1, 1) := by decide +kernel
theorem dX2_init_57 : decode cX2_init 57 = .ok (.iload_n 1, 1) := by decide +kernel
theorem dX2_init_58 : decode cX2_init 58 = .ok (.iconst 2, 1) := by decide +kernel
theorem dX2_init_59 : decode cX2_init 59 = .ok (.if_icmp .ge 16, 3) := by decide +kernel
theorem dX2_init_62 : decode cX2_init 62 = .ok (.aload_n 0, 1) := by decide +kernel
theorem dX2_init_63 : decode cX2_init 63 = .ok (.getfield 15, 3) := by decide +kernel
theorem dX2_init_66 : decode cX2_init 66 = .ok (.iload_n 1, 1) := by decide +kernel
theorem dX2_init_67 : decode cX2_init 67 = .ok (.iconst (-1), 1) := by decide +kernel
theorem dX2_init_68 : decode cX2_init 68 = .ok (.iastore, 1) := by decide +kernel
theorem dX2_init_69 : decode cX2_init 69 = .ok (.iinc 1 1, 3) := by decide +kernel
theorem dX2_init_72 : decode cX2_init 72 = .ok (.goto (-15), 3) := by decide +kernel
theorem dX2_init_75 : decode cX2_init 75 = .ok (.return_, 1) := by decide +kernel
set_option maxRecDepth 20000 in
theorem ggX2_follow_X2_forgetTables : GoodIn wsX2_follow wsX2_forgetTables := goodIn_r _ [8, 9, 10, 11, 12, 13, 14] (by decide +kernel) (by decide +kernel)
set_option maxRecDepth 20000 in
theorem gX2_follow_X2_forgetTables : GoodIn wsX2_follow (wsV RX2 29 RX2 yX2_forgetTables wsX2_forgetTables) := goodIn_app (goodIn_of _ (by decide +kernel)) ggX2_follow_X2_forgetTables
theorem dX2_follow_0 : decode cX2_follow 0 = .ok (.aload_n 0, 1) := by decide +kernel
theorem dX2_follow_1 : decode cX2_follow 1 = .ok (.aload_n 1, 1) := by decide +kernel
theorem dX2_follow_2 : decode cX2_follow 2 = .ok (.putfield 18, 3) := by decide +kernel
theorem dX2_follow_5 : decode cX2_follow 5 = .ok (.aload_n 0, 1) := by decide +kernel
theorem dX2_follow_6 : decode cX2_follow 6 = .ok (.iconst 1, 1) := by decide +kernel
theorem dX2_follow_7 : decode cX2_follow 7 = .ok (.putfield 22, 3) := by decide +kernel
theorem dX2_follow_10 : decode cX2_follow 10 = .ok (.aload_n 0, 1) := by decide +kernel
theorem dX2_follow_11 : decode cX2_follow 11 = .ok (.iload_n 2, 1) := by decide +kernel
theorem dX2_follow_12 : decode cX2_follow 12 = .ok (.putfield 26, 3) := by decide +kernel
theorem dX2_follow_15 : decode cX2_follow 15 = .ok (.aload_n 0, 1) := by decide +kernel
theorem dX2_follow_16 : decode cX2_follow 16 = .ok (.invokevirtual 29, 3) := by decide +kernel
theorem dX2_follow_19 : decode cX2_follow 19 = .ok (.return_, 1) := by decide +kernel
set_option maxRecDepth 20000 in
theorem ggX2_leave_X2_forgetTables : GoodIn wsX2_leave wsX2_forgetTables := goodIn_r _ [7, 8, 9, 10, 11, 12, 13] (by decide +kernel) (by decide +kernel)
set_option maxRecDepth 20000 in
theorem gX2_leave_X2_forgetTables : GoodIn wsX2_leave (wsV RX2 29 RX2 yX2_forgetTables wsX2_forgetTables) := goodIn_app (goodIn_of _ (by decide +kernel)) ggX2_leave_X2_forgetTables
theorem dX2_leave_0 : decode cX2_leave 0 = .ok (.aload_n 0, 1) := by decide +kernel
theorem dX2_leave_1 : decode cX2_leave 1 = .ok (.aconst_null, 1) := by decide +kernel
theorem dX2_leave_2 : decode cX2_leave 2 = .ok (.putfield 18, 3) := by decide +kernel
theorem dX2_leave_5 : decode cX2_leave 5 = .ok (.aload_n 0, 1) := by decide +kernel
theorem dX2_leave_6 : decode cX2_leave 6 = .ok (.iconst 0, 1) := by decide +kernel
theorem dX2_leave_7 : decode cX2_leave 7 = .ok (.putfield 22, 3) := by decide +kernel
theorem dX2_leave_10 : decode cX2_leave 10 = .ok (.aload_n 0, 1) := by decide +kernel
theorem dX2_leave_11 : decode cX2_leave 11 = .ok (.invokevirtual 29, 3) := by decide +kernel
theorem dX2_leave_14 : decode cX2_leave 14 = .ok (.return_, 1) := by decide +kernel
theorem dX2_forgetTables_0 : decode cX2_forgetTables 0 = .ok (.iconst 0, 1) := by decide +kernel
theorem dX2_forgetTables_1 : decode cX2_forgetTables 1 = .ok (.istore_n 1, 1) := by decide +kernel
theorem dX2_forgetTables_2 : decode cX2_forgetTables 2 = .ok (.iload_n 1, 1) := by decide +kernel
theorem dX2_forgetTables_3 : decode cX2_forgetTables 3 = .ok (.iconst 2, 1) := by decide +kernel
theorem dX2_forgetTables_4 : decode cX2_forgetTables 4 = .ok (.if_icmp .ge 16, 3) := by decide +kernel
theorem dX2_forgetTables_7 : decode cX2_forgetTables 7 = .ok (.aload_n 0, 1) := by decide +kernel
theorem dX2_forgetTables_8 : decode cX2_forgetTables 8 = .ok (.getfield 15, 3) := by decide +kernel
theorem dX2_forgetTables_11 : decode cX2_forgetTables 11 = .ok (.iload_n 1, 1) := by decide +kernel
theorem dX2_forgetTables_12 : decode cX2_forgetTables 12 = .ok (.iconst (-1), 1) := by decide +kernel
theorem dX2_forgetTables_13 : decode cX2_forgetTables 13 = .ok (.iastore, 1) := by decide +kernel
theorem dX2_forgetTables_14 : decode cX2_forgetTables 14 = .ok (.iinc 1 1, 3) := by decide +kernel
theorem dX2_forgetTables_17 : decode cX2_forgetTables 17 = .ok (.goto (-15), 3) := by decide +kernel
theorem dX2_forgetTables_20 : decode cX2_forgetTables 20 = .ok (.return_, 1) := by decide +kernel
theorem dX2_holdsLog_0 : decode cX2_holdsLog 0 = .ok (.aload_n 0, 1) := by decide +kernel
theorem dX2_holdsLog_1 : decode cX2_holdsLog 1 = .ok (.getfield 22, 3) := by decide +kernel
theorem dX2_holdsLog_4 : decode cX2_holdsLog 4 = .ok (.iconst 1, 1) := by decide +kernel
theorem dX2_holdsLog_5 : decode cX2_holdsLog 5 = .ok (.if_icmp .eq 11, 3) := by decide +kernel
theorem dX2_holdsLog_8 : decode cX2_holdsLog 8 = .ok (.aload_n 0, 1) := by decide +kernel
theorem dX2_holdsLog_9 : decode cX2_holdsLog 9 = .ok (.getfield 22, 3) := by decide +kernel
theorem dX2_holdsLog_12 : decode cX2_holdsLog 12 = .ok (.iconst 2, 1) := by decide +kernel
theorem dX2_holdsLog_13 : decode cX2_holdsLog 13 = .ok (.if_icmp .ne 7, 3) := by decide +kernel
theorem dX2_holdsLog_16 : decode cX2_holdsLog 16 = .ok (.iconst 1, 1) := by decide +kernel
theorem dX2_holdsLog_17 : decode cX2_holdsLog 17 = .ok (.goto 4, 3) := by decide +kernel
theorem dX2_holdsLog_20 : decode cX2_holdsLog 20 = .ok (.iconst 0, 1) := by decide +kernel
theorem dX2_holdsLog_21 : decode cX2_holdsLog 21 = .ok (.ireturn, 1) := by decide +kernel
set_option maxRecDepth 20000 in
theorem ggX2_commitsBehind_X2_holdsLog : GoodIn wsX2_commitsBehind wsX2_holdsLog := goodIn_r _ [6, 7, 8, 9, 10, 11, 12] (by decide +kernel) (by decide +kernel)
set_option maxRecDepth 20000 in
theorem gX2_commitsBehind_X2_holdsLog : GoodIn wsX2_commitsBehind (wsV RX2 32 RX2 yX2_holdsLog wsX2_holdsLog) := goodIn_app (goodIn_of _ (by decide +kernel)) ggX2_commitsBehind_X2_holdsLog
theorem dX2_commitsBehind_0 : decode cX2_commitsBehind 0 = .ok (.aload_n 0, 1) := by decide +kernel
theorem dX2_commitsBehind_1 : decode cX2_commitsBehind 1 = .ok (.invokevirtual 32, 3) := by decide +kernel
theorem dX2_commitsBehind_4 : decode cX2_commitsBehind 4 = .ok (.ifCond .eq 12, 3) := by decide +kernel
theorem dX2_commitsBehind_7 : decode cX2_commitsBehind 7 = .ok (.iload_n 1, 1) := by decide +kernel
theorem dX2_commitsBehind_8 : decode cX2_commitsBehind 8 = .ok (.aload_n 0, 1) := by decide +kernel
theorem dX2_commitsBehind_9 : decode cX2_commitsBehind 9 = .ok (.getfield 26, 3) := by decide +kernel
theorem dX2_commitsBehind_12 : decode cX2_commitsBehind 12 = .ok (.isub, 1) := by decide +kernel
theorem dX2_commitsBehind_13 : decode cX2_commitsBehind 13 = .ok (.goto 4, 3) := by decide +kernel
theorem dX2_commitsBehind_16 : decode cX2_commitsBehind 16 = .ok (.iconst 0, 1) := by decide +kernel
theorem dX2_commitsBehind_17 : decode cX2_commitsBehind 17 = .ok (.ireturn, 1) := by decide +kernel
theorem dX2_takesChangesOf_0 : decode cX2_takesChangesOf 0 = .ok (.aload_n 0, 1) := by decide +kernel
theorem dX2_takesChangesOf_1 : decode cX2_takesChangesOf 1 = .ok (.getfield 15, 3) := by decide +kernel
theorem dX2_takesChangesOf_4 : decode cX2_takesChangesOf 4 = .ok (.iload_n 1, 1) := by decide +kernel
theorem dX2_takesChangesOf_5 : decode cX2_takesChangesOf 5 = .ok (.iaload, 1) := by decide +kernel
theorem dX2_takesChangesOf_6 : decode cX2_takesChangesOf 6 = .ok (.iconst (-1), 1) := by decide +kernel
theorem dX2_takesChangesOf_7 : decode cX2_takesChangesOf 7 = .ok (.if_icmp .eq 17, 3) := by decide +kernel
theorem dX2_takesChangesOf_10 : decode cX2_takesChangesOf 10 = .ok (.aload_n 0, 1) := by decide +kernel
theorem dX2_takesChangesOf_11 : decode cX2_takesChangesOf 11 = .ok (.getfield 15, 3) := by decide +kernel
theorem dX2_takesChangesOf_14 : decode cX2_takesChangesOf 14 = .ok (.iload_n 1, 1) := by decide +kernel
theorem dX2_takesChangesOf_15 : decode cX2_takesChangesOf 15 = .ok (.iaload, 1) := by decide +kernel
theorem dX2_takesChangesOf_16 : decode cX2_takesChangesOf 16 = .ok (.iload_n 2, 1) := by decide +kernel
theorem dX2_takesChangesOf_17 : decode cX2_takesChangesOf 17 = .ok (.if_icmp .ge 7, 3) := by decide +kernel
theorem dX2_takesChangesOf_20 : decode cX2_takesChangesOf 20 = .ok (.iconst 1, 1) := by decide +kernel
theorem dX2_takesChangesOf_21 : decode cX2_takesChangesOf 21 = .ok (.goto 4, 3) := by decide +kernel
theorem dX2_takesChangesOf_24 : decode cX2_takesChangesOf 24 = .ok (.iconst 0, 1) := by decide +kernel
theorem dX2_takesChangesOf_25 : decode cX2_takesChangesOf 25 = .ok (.ireturn, 1) := by decide +kernel
theorem dX2_accept_0 : decode cX2_accept 0 = .ok (.aload_n 1, 1) := by decide +kernel
theorem dX2_accept_1 : decode cX2_accept 1 = .ok (.iconst 0, 1) := by decide +kernel
theorem dX2_accept_2 : decode cX2_accept 2 = .ok (.aload_n 0, 1) := by decide +kernel
theorem dX2_accept_3 : decode cX2_accept 3 = .ok (.getfield 9, 3) := by decide +kernel
theorem dX2_accept_6 : decode cX2_accept 6 = .ok (.iconst 0, 1) := by decide +kernel
theorem dX2_accept_7 : decode cX2_accept 7 = .ok (.bipush 24, 2) := by decide +kernel
theorem dX2_accept_9 : decode cX2_accept 9 = .ok (.invokestatic 36, 3) := by decide +kernel
theorem dX2_accept_12 : decode cX2_accept 12 = .ok (.aload_n 0, 1) := by decide +kernel
theorem dX2_accept_13 : decode cX2_accept 13 = .ok (.dup, 1) := by decide +kernel
theorem dX2_accept_14 : decode cX2_accept 14 = .ok (.getfield 26, 3) := by decide +kernel
theorem dX2_accept_17 : decode cX2_accept 17 = .ok (.iconst 1, 1) := by decide +kernel
theorem dX2_accept_18 : decode cX2_accept 18 = .ok (.iadd, 1) := by decide +kernel
theorem dX2_accept_19 : decode cX2_accept 19 = .ok (.putfield 26, 3) := by decide +kernel
theorem dX2_accept_22 : decode cX2_accept 22 = .ok (.return_, 1) := by decide +kernel
theorem dX3_init_0 : decode cX3_init 0 = .ok (.aload_n 0, 1) := by decide +kernel
theorem dX3_init_1 : decode cX3_init 1 = .ok (.invokespecial 3, 3) := by decide +kernel
theorem dX3_init_4 : decode cX3_init 4 = .ok (.aload_n 0, 1) := by decide +kernel
theorem dX3_init_5 : decode cX3_init 5 = .ok (.bipush 24, 2) := by decide +kernel
theorem dX3_init_7 : decode cX3_init 7 = .ok (.newarray .int, 2) := by decide +kernel
theorem dX3_init_9 : decode cX3_init 9 = .ok (.putfield 9, 3) := by decide +kernel
theorem dX3_init_12 : decode cX3_init 12 = .ok (.aload_n 0, 1) := by decide +kernel
theorem dX3_init_13 : decode cX3_init 13 = .ok (.bipush 24, 2) := by decide +kernel
theorem dX3_init_15 : decode cX3_init 15 = .ok (.newarray .int, 2) := by decide +kernel
theorem dX3_init_17 : decode cX3_init 17 = .ok (.putfield 15, 3) := by decide +kernel
theorem dX3_init_20 : decode cX3_init 20 = .ok (.return_, 1) := by decide +kernel
set_option maxRecDepth 20000 in
theorem ggX3_applies_X2_takesChangesOf : GoodIn wsX3_applies wsX2_takesChangesOf := goodIn_r _ [11, 12, 40, 41, 42, 43, 44] (by decide +kernel) (by decide +kernel)
set_option maxRecDepth 20000 in
theorem gX3_applies_X2_takesChangesOf : GoodIn wsX3_applies (wsV RX3 45 RX2 yX2_takesChangesOf wsX2_takesChangesOf) := goodIn_app (goodIn_of _ (by decide +kernel)) ggX3_applies_X2_takesChangesOf
set_option maxRecDepth 20000 in
theorem ggX3_applies_X3_takeAll : GoodIn wsX3_applies wsX3_takeAll := goodIn_r _ [17, 18, 19, 20, 16, 21, 1, 6, 22, 23, 24, 25, 26, 27, 28, 29, 30, 31, 32, 33, 34, 35, 36, 37, 38, 39, 52, 53, 54, 55, 56, 57] (by decide +kernel) (by decide +kernel)
set_option maxRecDepth 20000 in
theorem gX3_applies_X3_takeAll : GoodIn wsX3_applies (wsV RX3 49 RX3 yX3_takeAll wsX3_takeAll) := goodIn_app (goodIn_of _ (by decide +kernel)) ggX3_applies_X3_takeAll
set_option maxRecDepth 20000 in
theorem ggX3_applies_X3_follows : GoodIn wsX3_applies wsX3_follows := goodIn_r _ [21, 1, 6, 22, 23, 24, 25, 26, 27, 28, 29, 30, 31, 32, 33, 34, 35, 36, 37, 38, 39, 52, 53, 54, 55, 56, 57] (by decide +kernel) (by decide +kernel)
set_option maxRecDepth 20000 in
theorem gX3_applies_X3_follows : GoodIn wsX3_applies (wsV RX3 56 RX3 yX3_follows wsX3_follows) := goodIn_app (goodIn_of _ (by decide +kernel)) ggX3_applies_X3_follows
theorem dX3_applies_0 : decode cX3_applies 0 = .ok (.aload_n 3, 1) := by decide +kernel
theorem dX3_applies_1 : decode cX3_applies 1 = .ok (.getfield 18, 3) := by decide +kernel
theorem dX3_applies_4 : decode cX3_applies 4 = .ok (.istore 4, 2) := by decide +kernel
theorem dX3_applies_6 : decode cX3_applies 6 = .ok (.aload_n 1, 1) := by decide +kernel
theorem dX3_applies_7 : decode cX3_applies 7 = .ok (.getfield 24, 3) := by decide +kernel
theorem dX3_applies_10 : decode cX3_applies 10 = .ok (.iload 4, 2) := by decide +kernel
theorem dX3_applies_12 : decode cX3_applies 12 = .ok (.bipush 24, 2) := by decide +kernel
theorem dX3_applies_14 : decode cX3_applies 14 = .ok (.imul, 1) := by decide +kernel
theorem dX3_applies_15 : decode cX3_applies 15 = .ok (.aload_n 0, 1) := by decide +kernel
theorem dX3_applies_16 : decode cX3_applies 16 = .ok (.getfield 9, 3) := by decide +kernel
theorem dX3_applies_19 : decode cX3_applies 19 = .ok (.iconst 0, 1) := by decide +kernel
theorem dX3_applies_20 : decode cX3_applies 20 = .ok (.bipush 24, 2) := by decide +kernel
theorem dX3_applies_22 : decode cX3_applies 22 = .ok (.invokestatic 29, 3) := by decide +kernel
theorem dX3_applies_25 : decode cX3_applies 25 = .ok (.aload_n 3, 1) := by decide +kernel
theorem dX3_applies_26 : decode cX3_applies 26 = .ok (.getfield 35, 3) := by decide +kernel
theorem dX3_applies_29 : decode cX3_applies 29 = .ok (.iconst 0, 1) := by decide +kernel
theorem dX3_applies_30 : decode cX3_applies 30 = .ok (.aload_n 0, 1) := by decide +kernel
theorem dX3_applies_31 : decode cX3_applies 31 = .ok (.getfield 15, 3) := by decide +kernel
theorem dX3_applies_34 : decode cX3_applies 34 = .ok (.iconst 0, 1) := by decide +kernel
theorem dX3_applies_35 : decode cX3_applies 35 = .ok (.bipush 24, 2) := by decide +kernel
theorem dX3_applies_37 : decode cX3_applies 37 = .ok (.invokestatic 29, 3) := by decide +kernel
theorem dX3_applies_40 : decode cX3_applies 40 = .ok (.iconst 0, 1) := by decide +kernel
theorem dX3_applies_41 : decode cX3_applies 41 = .ok (.istore 5, 2) := by decide +kernel
theorem dX3_applies_43 : decode cX3_applies 43 = .ok (.iload 5, 2) := by decide +kernel
theorem dX3_applies_45 : decode cX3_applies 45 = .ok (.aload_n 1, 1) := by decide +kernel
theorem dX3_applies_46 : decode cX3_applies 46 = .ok (.getfield 36, 3) := by decide +kernel
theorem dX3_applies_49 : decode cX3_applies 49 = .ok (.iload 4, 2) := by decide +kernel
theorem dX3_applies_51 : decode cX3_applies 51 = .ok (.iaload, 1) := by decide +kernel
theorem dX3_applies_52 : decode cX3_applies 52 = .ok (.if_icmp .ge 90, 3) := by decide +kernel
theorem dX3_applies_55 : decode cX3_applies 55 = .ok (.iload 4, 2) := by decide +kernel
theorem dX3_applies_57 : decode cX3_applies 57 = .ok (.bipush 12, 2) := by decide +kernel
theorem dX3_applies_59 : decode cX3_applies 59 = .ok (.imul, 1) := by decide +kernel
theorem dX3_applies_60 : decode cX3_applies 60 = .ok (.iload 5, 2) := by decide +kernel
theorem dX3_applies_62 : decode cX3_applies 62 = .ok (.iadd, 1) := by decide +kernel
theorem dX3_applies_63 : decode cX3_applies 63 = .ok (.istore 6, 2) := by decide +kernel
theorem dX3_applies_65 : decode cX3_applies 65 = .ok (.aload_n 1, 1) := by decide +kernel
theorem dX3_applies_66 : decode cX3_applies 66 = .ok (.getfield 39, 3) := by decide +kernel
theorem dX3_applies_69 : decode cX3_applies 69 = .ok (.iload 6, 2) := by decide +kernel
theorem dX3_applies_71 : decode cX3_applies 71 = .ok (.iaload, 1) := by decide +kernel
theorem dX3_applies_72 : decode cX3_applies 72 = .ok (.istore 7, 2) := by decide +kernel
theorem dX3_applies_74 : decode cX3_applies 74 = .ok (.aload_n 1, 1) := by decide +kernel
theorem dX3_applies_75 : decode cX3_applies 75 = .ok (.getfield 42, 3) := by decide +kernel
theorem dX3_applies_78 : decode cX3_applies 78 = .ok (.iload 6, 2) := by decide +kernel
theorem dX3_applies_80 : decode cX3_applies 80 = .ok (.iaload, 1) := by decide +kernel
theorem dX3_applies_81 : decode cX3_applies 81 = .ok (.istore 8, 2) := by decide +kernel
theorem dX3_applies_83 : decode cX3_applies 83 = .ok (.aload_n 3, 1) := by decide +kernel
theorem dX3_applies_84 : decode cX3_applies 84 = .ok (.iload 7, 2) := by decide +kernel
theorem dX3_applies_86 : decode cX3_applies 86 = .ok (.iload 4, 2) := by decide +kernel
theorem dX3_applies_88 : decode cX3_applies 88 = .ok (.iconst 1, 1) := by decide +kernel
theorem dX3_applies_89 : decode cX3_applies 89 = .ok (.iadd, 1) := by decide +kernel
theorem dX3_applies_90 : decode cX3_applies 90 = .ok (.invokevirtual 45, 3) := by decide +kernel
theorem dX3_applies_93 : decode cX3_applies 93 = .ok (.ifCond .ne 6, 3) := by decide +kernel
theorem dX3_applies_96 : decode cX3_applies 96 = .ok (.goto 40, 3) := by decide +kernel
theorem dX3_applies_99 : decode cX3_applies 99 = .ok (.iload 8, 2) := by decide +kernel
theorem dX3_applies_101 : decode cX3_applies 101 = .ok (.iconst (-1), 1) := by decide +kernel
theorem dX3_applies_102 : decode cX3_applies 102 = .ok (.if_icmp .ne 13, 3) := by decide +kernel
theorem dX3_applies_105 : decode cX3_applies 105 = .ok (.aload_n 0, 1) := by decide +kernel
theorem dX3_applies_106 : decode cX3_applies 106 = .ok (.aload_n 2, 1) := by decide +kernel
theorem dX3_applies_107 : decode cX3_applies 107 = .ok (.iload 7, 2) := by decide +kernel
theorem dX3_applies_109 : decode cX3_applies 109 = .ok (.invokevirtual 49, 3) := by decide +kernel
theorem dX3_applies_112 : decode cX3_applies 112 = .ok (.goto 24, 3) := by decide +kernel
theorem dX3_applies_115 : decode cX3_applies 115 = .ok (.aload_n 0, 1) := by decide +kernel
theorem dX3_applies_116 : decode cX3_applies 116 = .ok (.aload_n 2, 1) := by decide +kernel
theorem dX3_applies_117 : decode cX3_applies 117 = .ok (.iload 7, 2) := by decide +kernel
theorem dX3_applies_119 : decode cX3_applies 119 = .ok (.iload 8, 2) := by decide +kernel
theorem dX3_applies_121 : decode cX3_applies 121 = .ok (.aload_n 1, 1) := by decide +kernel
theorem dX3_applies_122 : decode cX3_applies 122 = .ok (.getfield 53, 3) := by decide +kernel
theorem dX3_applies_125 : decode cX3_applies 125 = .ok (.iload 6, 2) := by decide +kernel
theorem dX3_applies_127 : decode cX3_applies 127 = .ok (.iaload, 1) := by decide +kernel
theorem dX3_applies_128 : decode cX3_applies 128 = .ok (.invokevirtual 56, 3) := by decide +kernel
theorem dX3_applies_131 : decode cX3_applies 131 = .ok (.ifCond .ne 5, 3) := by decide +kernel
theorem dX3_applies_134 : decode cX3_applies 134 = .ok (.iconst 0, 1) := by decide +kernel
theorem dX3_applies_135 : decode cX3_applies 135 = .ok (.ireturn, 1) := by decide +kernel
theorem dX3_applies_136 : decode cX3_applies 136 = .ok (.iinc 5 1, 3) := by decide +kernel
theorem dX3_applies_139 : decode cX3_applies 139 = .ok (.goto (-96), 3) := by decide +kernel
theorem dX3_applies_142 : decode cX3_applies 142 = .ok (.iconst 1, 1) := by decide +kernel
theorem dX3_applies_143 : decode cX3_applies 143 = .ok (.ireturn, 1) := by decide +kernel
set_option maxRecDepth 20000 in
theorem ggX3_takeAll_X3_follows : GoodIn wsX3_takeAll wsX3_follows := goodIn_r _ [5, 6, 7, 8, 9, 10, 11, 12, 13, 14, 15, 16, 17, 18, 19, 20, 21, 22, 23, 24, 25, 26, 27, 28, 29, 30, 31] (by decide +kernel) (by decide +kernel)
set_option maxRecDepth 20000 in
theorem gX3_takeAll_X3_follows : GoodIn wsX3_takeAll (wsV RX3 56 RX3 yX3_follows wsX3_follows) := goodIn_app (goodIn_of _ (by decide +kernel)) ggX3_takeAll_X3_follows
theorem dX3_takeAll_0 : decode cX3_takeAll 0 = .ok (.iconst 0, 1) := by decide +kernel
theorem dX3_takeAll_1 : decode cX3_takeAll 1 = .ok (.istore_n 3, 1) := by decide +kernel
theorem dX3_takeAll_2 : decode cX3_takeAll 2 = .ok (.iload_n 3, 1) := by decide +kernel
theorem dX3_takeAll_3 : decode cX3_takeAll 3 = .ok (.bipush 12, 2) := by decide +kernel
theorem dX3_takeAll_5 : decode cX3_takeAll 5 = .ok (.if_icmp .ge 18, 3) := by decide +kernel
theorem dX3_takeAll_8 : decode cX3_takeAll 8 = .ok (.aload_n 0, 1) := by decide +kernel
theorem dX3_takeAll_9 : decode cX3_takeAll 9 = .ok (.aload_n 1, 1) := by decide +kernel
theorem dX3_takeAll_10 : decode cX3_takeAll 10 = .ok (.iload_n 2, 1) := by decide +kernel
theorem dX3_takeAll_11 : decode cX3_takeAll 11 = .ok (.iload_n 3, 1) := by decide +kernel
theorem dX3_takeAll_12 : decode cX3_takeAll 12 = .ok (.iconst (-1), 1) := by decide +kernel
theorem dX3_takeAll_13 : decode cX3_takeAll 13 = .ok (.invokevirtual 56, 3) := by decide +kernel
theorem dX3_takeAll_16 : decode cX3_takeAll 16 = .ok (.pop, 1) := by decide +kernel
theorem dX3_takeAll_17 : decode cX3_takeAll 17 = .ok (.iinc 3 1, 3) := by decide +kernel
theorem dX3_takeAll_20 : decode cX3_takeAll 20 = .ok (.goto (-18), 3) := by decide +kernel
theorem dX3_takeAll_23 : decode cX3_takeAll 23 = .ok (.return_, 1) := by decide +kernel
set_option maxRecDepth 20000 in
theorem ggX3_follows_X4_placeOf : GoodIn wsX3_follows wsX4_placeOf := goodIn_r _ [5] (by decide +kernel) (by decide +kernel)
set_option maxRecDepth 20000 in
theorem gX3_follows_X4_placeOf_n60 : GoodIn wsX3_follows (wsX4_placeOf) := ggX3_follows_X4_placeOf
set_option maxRecDepth 20000 in
theorem ggX3_follows_X0_choose : GoodIn wsX3_follows wsX0_choose := goodIn_r _ [10, 11, 12, 13, 4, 14, 15, 16, 17, 9, 18, 19, 20, 23, 24, 25, 26] (by decide +kernel) (by decide +kernel)
set_option maxRecDepth 20000 in
theorem gX3_follows_X0_choose : GoodIn wsX3_follows (wsV RX3 64 RX0 yX0_choose wsX0_choose) := goodIn_app (goodIn_of _ (by decide +kernel)) ggX3_follows_X0_choose
theorem dX3_follows_0 : decode cX3_follows 0 = .ok (.iload_n 2, 1) := by decide +kernel
theorem dX3_follows_1 : decode cX3_follows 1 = .ok (.iload_n 3, 1) := by decide +kernel
theorem dX3_follows_2 : decode cX3_follows 2 = .ok (.invokestatic 60, 3) := by decide +kernel
theorem dX3_follows_5 : decode cX3_follows 5 = .ok (.istore 5, 2) := by decide +kernel
theorem dX3_follows_7 : decode cX3_follows 7 = .ok (.aload_n 1, 1) := by decide +kernel
theorem dX3_follows_8 : decode cX3_follows 8 = .ok (.iload_n 2, 1) := by decide +kernel
theorem dX3_follows_9 : decode cX3_follows 9 = .ok (.aload_n 0, 1) := by decide +kernel
theorem dX3_follows_10 : decode cX3_follows 10 = .ok (.getfield 9, 3) := by decide +kernel
theorem dX3_follows_13 : decode cX3_follows 13 = .ok (.iload 5, 2) := by decide +kernel
theorem dX3_follows_15 : decode cX3_follows 15 = .ok (.iaload, 1) := by decide +kernel
theorem dX3_follows_16 : decode cX3_follows 16 = .ok (.invokevirtual 64, 3) := by decide +kernel
theorem dX3_follows_19 : decode cX3_follows 19 = .ok (.istore 6, 2) := by decide +kernel
theorem dX3_follows_21 : decode cX3_follows 21 = .ok (.aload_n 1, 1) := by decide +kernel
theorem dX3_follows_22 : decode cX3_follows 22 = .ok (.iload_n 2, 1) := by decide +kernel
theorem dX3_follows_23 : decode cX3_follows 23 = .ok (.iload 4, 2) := by decide +kernel
theorem dX3_follows_25 : decode cX3_follows 25 = .ok (.invokevirtual 64, 3) := by decide +kernel
theorem dX3_follows_28 : decode cX3_follows 28 = .ok (.istore 7, 2) := by decide +kernel
theorem dX3_follows_30 : decode cX3_follows 30 = .ok (.iload 6, 2) := by decide +kernel
theorem dX3_follows_32 : decode cX3_follows 32 = .ok (.iconst (-1), 1) := by decide +kernel
theorem dX3_follows_33 : decode cX3_follows 33 = .ok (.if_icmp .ne 13, 3) := by decide +kernel
theorem dX3_follows_36 : decode cX3_follows 36 = .ok (.iload 7, 2) := by decide +kernel
theorem dX3_follows_38 : decode cX3_follows 38 = .ok (.iconst (-1), 1) := by decide +kernel
theorem dX3_follows_39 : decode cX3_follows 39 = .ok (.if_icmp .eq 7, 3) := by decide +kernel
theorem dX3_follows_42 : decode cX3_follows 42 = .ok (.iconst 1, 1) := by decide +kernel
theorem dX3_follows_43 : decode cX3_follows 43 = .ok (.goto 4, 3) := by decide +kernel
theorem dX3_follows_46 : decode cX3_follows 46 = .ok (.iconst 0, 1) := by decide +kernel
theorem dX3_follows_47 : decode cX3_follows 47 = .ok (.istore 8, 2) := by decide +kernel
theorem dX3_follows_49 : decode cX3_follows 49 = .ok (.iload 8, 2) := by decide +kernel
theorem dX3_follows_51 : decode cX3_follows 51 = .ok (.ifCond .eq 16, 3) := by decide +kernel
theorem dX3_follows_54 : decode cX3_follows 54 = .ok (.aload_n 0, 1) := by decide +kernel
theorem dX3_follows_55 : decode cX3_follows 55 = .ok (.getfield 15, 3) := by decide +kernel
theorem dX3_follows_58 : decode cX3_follows 58 = .ok (.iload 5, 2) := by decide +kernel
theorem dX3_follows_60 : decode cX3_follows 60 = .ok (.iaload, 1) := by decide +kernel
theorem dX3_follows_61 : decode cX3_follows 61 = .ok (.iconst (-1), 1) := by decide +kernel
theorem dX3_follows_62 : decode cX3_follows 62 = .ok (.if_icmp .eq 5, 3) := by decide +kernel
theorem dX3_follows_65 : decode cX3_follows 65 = .ok (.iconst 0, 1) := by decide +kernel
theorem dX3_follows_66 : decode cX3_follows 66 = .ok (.ireturn, 1) := by decide +kernel
theorem dX3_follows_67 : decode cX3_follows 67 = .ok (.iload 8, 2) := by decide +kernel
theorem dX3_follows_69 : decode cX3_follows 69 = .ok (.ifCond .ne 9, 3) := by decide +kernel
theorem dX3_follows_72 : decode cX3_follows 72 = .ok (.iload 6, 2) := by decide +kernel
theorem dX3_follows_74 : decode cX3_follows 74 = .ok (.iconst (-1), 1) := by decide +kernel
theorem dX3_follows_75 : decode cX3_follows 75 = .ok (.if_icmp .eq 12, 3) := by decide +kernel
theorem dX3_follows_78 : decode cX3_follows 78 = .ok (.aload_n 0, 1) := by decide +kernel
theorem dX3_follows_79 : decode cX3_follows 79 = .ok (.getfield 15, 3) := by decide +kernel
theorem dX3_follows_82 : decode cX3_follows 82 = .ok (.iload 5, 2) := by decide +kernel
theorem dX3_follows_84 : decode cX3_follows 84 = .ok (.iload 7, 2) := by decide +kernel
theorem dX3_follows_86 : decode cX3_follows 86 = .ok (.iastore, 1) := by decide +kernel
theorem dX3_follows_87 : decode cX3_follows 87 = .ok (.aload_n 0, 1) := by decide +kernel
theorem dX3_follows_88 : decode cX3_follows 88 = .ok (.getfield 9, 3) := by decide +kernel
theorem dX3_follows_91 : decode cX3_follows 91 = .ok (.iload 5, 2) := by decide +kernel
theorem dX3_follows_93 : decode cX3_follows 93 = .ok (.iload 4, 2) := by decide +kernel
theorem dX3_follows_95 : decode cX3_follows 95 = .ok (.iastore, 1) := by decide +kernel
theorem dX3_follows_96 : decode cX3_follows 96 = .ok (.iconst 1, 1) := by decide +kernel
theorem dX3_follows_97 : decode cX3_follows 97 = .ok (.ireturn, 1) := by decide +kernel
set_option maxRecDepth 20000 in
theorem ggX4_init_X1_init : GoodIn wsX4_init wsX1_init := goodIn_r _ [23, 24, 2, 3, 25, 26, 27, 28, 29, 30, 31, 32, 56, 57, 58, 59, 60, 61, 62] (by decide +kernel) (by decide +kernel)
set_option maxRecDepth 20000 in
theorem gX4_init_X1_init : GoodIn wsX4_init (wsX1_init) := ggX4_init_X1_init
set_option maxRecDepth 20000 in
theorem ggX4_init_X3_init : GoodIn wsX4_init wsX3_init := goodIn_r _ [34, 35, 2, 3, 25, 36, 37, 68, 69] (by decide +kernel) (by decide +kernel)
set_option maxRecDepth 20000 in
theorem gX4_init_X3_init_n30 : GoodIn wsX4_init (wsX3_init) := ggX4_init_X3_init
set_option maxRecDepth 20000 in
theorem ggX4_init_X0_init : GoodIn wsX4_init wsX0_init := goodIn_r _ [40, 41, 2, 3, 25, 42, 43, 44, 45, 46, 70, 71, 72, 73] (by decide +kernel) (by decide +kernel)
set_option maxRecDepth 20000 in
theorem gX4_init_X0_init : GoodIn wsX4_init (wsX0_init) := ggX4_init_X0_init
set_option maxRecDepth 20000 in
theorem ggX4_init_X2_init : GoodIn wsX4_init wsX2_init := goodIn_r _ [49, 50, 2, 3, 25, 51, 52, 53, 54, 55, 74, 75, 76, 77, 78] (by decide +kernel) (by decide +kernel)
set_option maxRecDepth 20000 in
theorem gX4_init_X2_init : GoodIn wsX4_init (wsX2_init) := ggX4_init_X2_init
theorem dX4_init_0 : decode cX4_init 0 = .ok (.aload_n 0, 1) := by decide +kernel
theorem dX4_init_1 : decode cX4_init 1 = .ok (.invokespecial 3, 3) := by decide +kernel
theorem dX4_init_4 : decode cX4_init 4 = .ok (.aload_n 0, 1) := by decide +kernel
theorem dX4_init_5 : decode cX4_init 5 = .ok (.new 9, 3) := by decide +kernel
theorem dX4_init_8 : decode cX4_init 8 = .ok (.dup, 1) := by decide +kernel
theorem dX4_init_9 : decode cX4_init 9 = .ok (.invokespecial 11, 3) := by decide +kernel
theorem dX4_init_12 : decode cX4_init 12 = .ok (.putfield 12, 3) := by decide +kernel
theorem dX4_init_15 : decode cX4_init 15 = .ok (.aload_n 0, 1) := by decide +kernel
theorem dX4_init_16 : decode cX4_init 16 = .ok (.iconst 3, 1) := by decide +kernel
theorem dX4_init_17 : decode cX4_init 17 = .ok (.anewarray 16, 3) := by decide +kernel
theorem dX4_init_20 : decode cX4_init 20 = .ok (.putfield 18, 3) := by decide +kernel
theorem dX4_init_23 : decode cX4_init 23 = .ok (.aload_n 0, 1) := by decide +kernel
theorem dX4_init_24 : decode cX4_init 24 = .ok (.iconst 3, 1) := by decide +kernel
theorem dX4_init_25 : decode cX4_init 25 = .ok (.anewarray 22, 3) := by decide +kernel
theorem dX4_init_28 : decode cX4_init 28 = .ok (.putfield 24, 3) := by decide +kernel
theorem dX4_init_31 : decode cX4_init 31 = .ok (.aload_n 0, 1) := by decide +kernel
theorem dX4_init_32 : decode cX4_init 32 = .ok (.new 28, 3) := by decide +kernel
theorem dX4_init_35 : decode cX4_init 35 = .ok (.dup, 1) := by decide +kernel
theorem dX4_init_36 : decode cX4_init 36 = .ok (.invokespecial 30, 3) := by decide +kernel
theorem dX4_init_39 : decode cX4_init 39 = .ok (.putfield 31, 3) := by decide +kernel
theorem dX4_init_42 : decode cX4_init 42 = .ok (.aload_n 0, 1) := by decide +kernel
theorem dX4_init_43 : decode cX4_init 43 = .ok (.bipush 20, 2) := by decide +kernel
theorem dX4_init_45 : decode cX4_init 45 = .ok (.putfield 35, 3) := by decide +kernel
theorem dX4_init_48 : decode cX4_init 48 = .ok (.iconst 0, 1) := by decide +kernel
theorem dX4_init_49 : decode cX4_init 49 = .ok (.istore_n 1, 1) := by decide +kernel
theorem dX4_init_50 : decode cX4_init 50 = .ok (.iload_n 1, 1) := by decide +kernel
theorem dX4_init_51 : decode cX4_init 51 = .ok (.iconst 3, 1) := by decide +kernel
theorem dX4_init_52 : decode cX4_init 52 = .ok (.if_icmp .ge 22, 3) := by decide +kernel
theorem dX4_init_55 : decode cX4_init 55 = .ok (.aload_n 0, 1) := by decide +kernel
theorem dX4_init_56 : decode cX4_init 56 = .ok (.getfield 18, 3) := by decide +kernel
theorem dX4_init_59 : decode cX4_init 59 = .ok (.iload_n 1, 1) := by decide +kernel
theorem dX4_init_60 : decode cX4_init 60 = .ok (.new 16, 3) := by decide +kernel
theorem dX4_init_63 : decode cX4_init 63 = .ok (.dup, 1) := by decide +kernel
theorem dX4_init_64 : decode cX4_init 64 = .ok (.invokespecial 39, 3) := by decide +kernel
theorem dX4_init_67 : decode cX4_init 67 = .ok (.aastore, 1) := by decide +kernel
theorem dX4_init_68 : decode cX4_init 68 = .ok (.iinc 1 1, 3) := by decide +kernel
theorem dX4_init_71 : decode cX4_init 71 = .ok (.goto (-21), 3) := by decide +kernel
theorem dX4_init_74 : decode cX4_init 74 = .ok (.iconst 0, 1) := by decide +kernel
theorem dX4_init_75 : decode cX4_init 75 = .ok (.istore_n 1, 1) := by decide +kernel
theorem dX4_init_76 : decode cX4_init 76 = .ok (.iload_n 1, 1) := by decide +kernel
theorem dX4_init_77 : decode cX4_init 77 = .ok (.iconst 3, 1) := by decide +kernel
theorem dX4_init_78 : decode cX4_init 78 = .ok (.if_icmp .ge 22, 3) := by decide +kernel
theorem dX4_init_81 : decode cX4_init 81 = .ok (.aload_n 0, 1) := by decide +kernel
theorem dX4_init_82 : decode cX4_init 82 = .ok (.getfield 24, 3) := by decide +kernel
theorem dX4_init_85 : decode cX4_init 85 = .ok (.iload_n 1, 1) := by decide +kernel
theorem dX4_init_86 : decode cX4_init 86 = .ok (.new 22, 3) := by decide +kernel
theorem dX4_init_89 : decode cX4_init 89 = .ok (.dup, 1) := by decide +kernel
theorem dX4_init_90 : decode cX4_init 90 = .ok (.invokespecial 40, 3) := by decide +kernel
theorem dX4_init_93 : decode cX4_init 93 = .ok (.aastore, 1) := by decide +kernel
theorem dX4_init_94 : decode cX4_init 94 = .ok (.iinc 1 1, 3) := by decide +kernel
theorem dX4_init_97 : decode cX4_init 97 = .ok (.goto (-21), 3) := by decide +kernel
theorem dX4_init_100 : decode cX4_init 100 = .ok (.return_, 1) := by decide +kernel
set_option maxRecDepth 20000 in
theorem ggX4_put_X4_checkKey : GoodIn wsX4_put wsX4_checkKey := goodIn_ca (goodIn_r _ [5, 6, 7, 8, 9, 4, 10] (by decide +kernel) (by decide +kernel)) (goodIn_sub (fun _ h => List.mem_cons_of_mem _ (List.mem_append_left _ (List.mem_append_left _ (List.mem_append_right _ h)))) (by decide +kernel))
set_option maxRecDepth 20000 in
theorem gX4_put_X4_checkKey : GoodIn wsX4_put (va_wsS RX4 41 yX4_checkKey wsX4_checkKey) := goodIn_app (goodIn_of _ (by decide +kernel)) ggX4_put_X4_checkKey
set_option maxRecDepth 20000 in
theorem ggX4_put_X4_checkNumber : GoodIn wsX4_put wsX4_checkNumber := goodIn_ca (goodIn_r _ [13, 14, 15] (by decide +kernel) (by decide +kernel)) (goodIn_sub (fun _ h => List.mem_cons_of_mem _ (List.mem_append_left _ (List.mem_append_right _ h))) (by decide +kernel))
set_option maxRecDepth 20000 in
theorem gX4_put_X4_checkNumber : GoodIn wsX4_put (va_wsS RX4 45 yX4_checkNumber wsX4_checkNumber) := goodIn_app (goodIn_of _ (by decide +kernel)) ggX4_put_X4_checkNumber
set_option maxRecDepth 20000 in
theorem ggX4_put_X4_checkRoomForChange : GoodIn wsX4_put wsX4_checkRoomForChange := goodIn_ca (goodIn_r _ [19, 20, 21, 1, 22, 23, 24, 25, 26, 27, 28, 43, 44, 45, 46, 47, 48, 49, 50, 51, 52, 53, 54] (by decide +kernel) (by decide +kernel)) (goodIn_sub (fun _ h => List.mem_cons_of_mem _ (List.mem_append_right _ h)) (by decide +kernel))
set_option maxRecDepth 20000 in
theorem gX4_put_X4_checkRoomForChange : GoodIn wsX4_put (wsV RX4 49 RX4 yX4_checkRoomForChange wsX4_checkRoomForChange) := goodIn_app (goodIn_of _ (by decide +kernel)) ggX4_put_X4_checkRoomForChange
set_option maxRecDepth 20000 in
theorem ggX4_put_X4_placeOf : GoodIn wsX4_put wsX4_placeOf := goodIn_r _ [31] (by decide +kernel) (by decide +kernel)
set_option maxRecDepth 20000 in
theorem gX4_put_X4_placeOf : GoodIn wsX4_put (va_wsS RX4 56 yX4_placeOf wsX4_placeOf) := goodIn_app (goodIn_of _ (by decide +kernel)) ggX4_put_X4_placeOf
set_option maxRecDepth 20000 in
theorem ggX4_put_X4_rowOf : GoodIn wsX4_put wsX4_rowOf := goodIn_r _ [34] (by decide +kernel) (by decide +kernel)
set_option maxRecDepth 20000 in
theorem gX4_put_X4_rowOf : GoodIn wsX4_put (va_wsS RX4 60 yX4_rowOf wsX4_rowOf) := goodIn_app (goodIn_of _ (by decide +kernel)) ggX4_put_X4_rowOf
set_option maxRecDepth 20000 in
theorem ggX4_put_X1_change : GoodIn wsX4_put wsX1_change := goodIn_r _ [38, 28, 27, 39, 40, 41, 42, 30, 4, 31, 48, 49, 50, 51, 52, 53, 54] (by decide +kernel) (by decide +kernel)
set_option maxRecDepth 20000 in
theorem gX4_put_X1_change : GoodIn wsX4_put (wsV RX4 64 RX1 yX1_change wsX1_change) := goodIn_app (goodIn_of _ (by decide +kernel)) ggX4_put_X1_change
theorem dX4_put_0 : decode cX4_put 0 = .ok (.iload_n 1, 1) := by decide +kernel
theorem dX4_put_1 : decode cX4_put 1 = .ok (.iload_n 2, 1) := by decide +kernel
theorem dX4_put_2 : decode cX4_put 2 = .ok (.invokestatic 41, 3) := by decide +kernel
theorem dX4_put_5 : decode cX4_put 5 = .ok (.iload_n 3, 1) := by decide +kernel
theorem dX4_put_6 : decode cX4_put 6 = .ok (.invokestatic 45, 3) := by decide +kernel
theorem dX4_put_9 : decode cX4_put 9 = .ok (.iload 4, 2) := by decide +kernel
theorem dX4_put_11 : decode cX4_put 11 = .ok (.invokestatic 45, 3) := by decide +kernel
theorem dX4_put_14 : decode cX4_put 14 = .ok (.iload 5, 2) := by decide +kernel
theorem dX4_put_16 : decode cX4_put 16 = .ok (.invokestatic 45, 3) := by decide +kernel
theorem dX4_put_19 : decode cX4_put 19 = .ok (.aload_n 0, 1) := by decide +kernel
theorem dX4_put_20 : decode cX4_put 20 = .ok (.invokevirtual 49, 3) := by decide +kernel
theorem dX4_put_23 : decode cX4_put 23 = .ok (.aload_n 0, 1) := by decide +kernel
theorem dX4_put_24 : decode cX4_put 24 = .ok (.getfield 12, 3) := by decide +kernel
theorem dX4_put_27 : decode cX4_put 27 = .ok (.getfield 52, 3) := by decide +kernel
theorem dX4_put_30 : decode cX4_put 30 = .ok (.iload_n 1, 1) := by decide +kernel
theorem dX4_put_31 : decode cX4_put 31 = .ok (.iload_n 2, 1) := by decide +kernel
theorem dX4_put_32 : decode cX4_put 32 = .ok (.invokestatic 56, 3) := by decide +kernel
theorem dX4_put_35 : decode cX4_put 35 = .ok (.iaload, 1) := by decide +kernel
theorem dX4_put_36 : decode cX4_put 36 = .ok (.iconst (-1), 1) := by decide +kernel
theorem dX4_put_37 : decode cX4_put 37 = .ok (.if_icmp .ne 7, 3) := by decide +kernel
theorem dX4_put_40 : decode cX4_put 40 = .ok (.iconst 1, 1) := by decide +kernel
theorem dX4_put_41 : decode cX4_put 41 = .ok (.goto 4, 3) := by decide +kernel
theorem dX4_put_44 : decode cX4_put 44 = .ok (.iconst 0, 1) := by decide +kernel
theorem dX4_put_45 : decode cX4_put 45 = .ok (.istore 6, 2) := by decide +kernel
theorem dX4_put_47 : decode cX4_put 47 = .ok (.aload_n 0, 1) := by decide +kernel
theorem dX4_put_48 : decode cX4_put 48 = .ok (.getfield 12, 3) := by decide +kernel
theorem dX4_put_51 : decode cX4_put 51 = .ok (.iload_n 1, 1) := by decide +kernel
theorem dX4_put_52 : decode cX4_put 52 = .ok (.iload_n 2, 1) := by decide +kernel
theorem dX4_put_53 : decode cX4_put 53 = .ok (.iload_n 3, 1) := by decide +kernel
theorem dX4_put_54 : decode cX4_put 54 = .ok (.iload 4, 2) := by decide +kernel
theorem dX4_put_56 : decode cX4_put 56 = .ok (.iload 5, 2) := by decide +kernel
theorem dX4_put_58 : decode cX4_put 58 = .ok (.invokestatic 60, 3) := by decide +kernel
theorem dX4_put_61 : decode cX4_put 61 = .ok (.invokevirtual 64, 3) := by decide +kernel
theorem dX4_put_64 : decode cX4_put 64 = .ok (.iload 6, 2) := by decide +kernel
theorem dX4_put_66 : decode cX4_put 66 = .ok (.ireturn, 1) := by decide +kernel
set_option maxRecDepth 20000 in
theorem ggX4_take_X4_checkKey : GoodIn wsX4_take wsX4_checkKey := goodIn_ca (goodIn_r _ [7, 8, 9, 10, 11, 6, 12] (by decide +kernel) (by decide +kernel)) (goodIn_sub (fun _ h => List.mem_cons_of_mem _ (List.mem_append_right _ h)) (by decide +kernel))
set_option maxRecDepth 20000 in
theorem gX4_take_X4_checkKey : GoodIn wsX4_take (va_wsS RX4 41 yX4_checkKey wsX4_checkKey) := goodIn_app (goodIn_of _ (by decide +kernel)) ggX4_take_X4_checkKey
set_option maxRecDepth 20000 in
theorem ggX4_take_X4_checkRoomForChange : GoodIn wsX4_take wsX4_checkRoomForChange := goodIn_ca (goodIn_r _ [16, 1, 2, 3, 17, 18, 19, 20, 21, 22, 23, 35, 36, 37, 38, 39, 40, 41, 42, 43, 44, 45, 46] (by decide +kernel) (by decide +kernel)) (goodIn_sub (fun _ h => List.mem_cons_of_mem _ (List.mem_append_left _ (List.mem_append_right _ h))) (by decide +kernel))
set_option maxRecDepth 20000 in
theorem gX4_take_X4_checkRoomForChange : GoodIn wsX4_take (wsV RX4 49 RX4 yX4_checkRoomForChange wsX4_checkRoomForChange) := goodIn_app (goodIn_of _ (by decide +kernel)) ggX4_take_X4_checkRoomForChange
set_option maxRecDepth 20000 in
theorem ggX4_take_X4_placeOf : GoodIn wsX4_take wsX4_placeOf := goodIn_r _ [26] (by decide +kernel) (by decide +kernel)
set_option maxRecDepth 20000 in
theorem gX4_take_X4_placeOf : GoodIn wsX4_take (va_wsS RX4 56 yX4_placeOf wsX4_placeOf) := goodIn_app (goodIn_of _ (by decide +kernel)) ggX4_take_X4_placeOf
set_option maxRecDepth 20000 in
theorem ggX4_take_X1_change : GoodIn wsX4_take wsX1_change := goodIn_r _ [30, 23, 22, 31, 32, 33, 34, 25, 6, 26, 40, 41, 42, 43, 44, 45, 46] (by decide +kernel) (by decide +kernel)
set_option maxRecDepth 20000 in
theorem gX4_take_X1_change : GoodIn wsX4_take (wsV RX4 64 RX1 yX1_change wsX1_change) := goodIn_app (goodIn_of _ (by decide +kernel)) ggX4_take_X1_change
theorem dX4_take_0 : decode cX4_take 0 = .ok (.iload_n 1, 1) := by decide +kernel
theorem dX4_take_1 : decode cX4_take 1 = .ok (.iload_n 2, 1) := by decide +kernel
theorem dX4_take_2 : decode cX4_take 2 = .ok (.invokestatic 41, 3) := by decide +kernel
theorem dX4_take_5 : decode cX4_take 5 = .ok (.aload_n 0, 1) := by decide +kernel
theorem dX4_take_6 : decode cX4_take 6 = .ok (.invokevirtual 49, 3) := by decide +kernel
theorem dX4_take_9 : decode cX4_take 9 = .ok (.aload_n 0, 1) := by decide +kernel
theorem dX4_take_10 : decode cX4_take 10 = .ok (.getfield 12, 3) := by decide +kernel
theorem dX4_take_13 : decode cX4_take 13 = .ok (.getfield 52, 3) := by decide +kernel
theorem dX4_take_16 : decode cX4_take 16 = .ok (.iload_n 1, 1) := by decide +kernel
theorem dX4_take_17 : decode cX4_take 17 = .ok (.iload_n 2, 1) := by decide +kernel
theorem dX4_take_18 : decode cX4_take 18 = .ok (.invokestatic 56, 3) := by decide +kernel
theorem dX4_take_21 : decode cX4_take 21 = .ok (.iaload, 1) := by decide +kernel
theorem dX4_take_22 : decode cX4_take 22 = .ok (.iconst (-1), 1) := by decide +kernel
theorem dX4_take_23 : decode cX4_take 23 = .ok (.if_icmp .ne 13, 3) := by decide +kernel
theorem dX4_take_26 : decode cX4_take 26 = .ok (.new 68, 3) := by decide +kernel
theorem dX4_take_29 : decode cX4_take 29 = .ok (.dup, 1) := by decide +kernel
theorem dX4_take_30 : decode cX4_take 30 = .ok (.ldc 70, 2) := by decide +kernel
theorem dX4_take_32 : decode cX4_take 32 = .ok (.invokespecial 72, 3) := by decide +kernel
theorem dX4_take_35 : decode cX4_take 35 = .ok (.athrow, 1) := by decide +kernel
theorem dX4_take_36 : decode cX4_take 36 = .ok (.aload_n 0, 1) := by decide +kernel
theorem dX4_take_37 : decode cX4_take 37 = .ok (.getfield 12, 3) := by decide +kernel
theorem dX4_take_40 : decode cX4_take 40 = .ok (.iload_n 1, 1) := by decide +kernel
theorem dX4_take_41 : decode cX4_take 41 = .ok (.iload_n 2, 1) := by decide +kernel
theorem dX4_take_42 : decode cX4_take 42 = .ok (.iconst (-1), 1) := by decide +kernel
theorem dX4_take_43 : decode cX4_take 43 = .ok (.invokevirtual 64, 3) := by decide +kernel
theorem dX4_take_46 : decode cX4_take 46 = .ok (.return_, 1) := by decide +kernel
set_option maxRecDepth 20000 in
theorem ggX4_truncate_X4_checkTable : GoodIn wsX4_truncate wsX4_checkTable := goodIn_ca (goodIn_r _ [5, 6, 7] (by decide +kernel) (by decide +kernel)) (goodIn_sub (fun _ h => List.mem_cons_of_mem _ (List.mem_append_left _ (List.mem_append_right _ h))) (by decide +kernel))
set_option maxRecDepth 20000 in
theorem gX4_truncate_X4_checkTable : GoodIn wsX4_truncate (va_wsS RX4 75 yX4_checkTable wsX4_checkTable) := goodIn_app (goodIn_of _ (by decide +kernel)) ggX4_truncate_X4_checkTable
set_option maxRecDepth 20000 in
theorem ggX4_truncate_X4_checkRoomForChange : GoodIn wsX4_truncate wsX4_checkRoomForChange := goodIn_ca (goodIn_r _ [11, 12, 13, 1, 14, 15, 16, 17, 18, 19, 20, 32, 33, 34, 35, 36, 37, 38, 39, 40, 41, 42, 43] (by decide +kernel) (by decide +kernel)) (goodIn_sub (fun _ h => List.mem_cons_of_mem _ (List.mem_append_right _ h)) (by decide +kernel))
set_option maxRecDepth 20000 in
theorem gX4_truncate_X4_checkRoomForChange : GoodIn wsX4_truncate (wsV RX4 49 RX4 yX4_checkRoomForChange wsX4_checkRoomForChange) := goodIn_app (goodIn_of _ (by decide +kernel)) ggX4_truncate_X4_checkRoomForChange
set_option maxRecDepth 20000 in
theorem ggX4_truncate_X4_placeOf : GoodIn wsX4_truncate wsX4_placeOf := goodIn_r _ [23] (by decide +kernel) (by decide +kernel)
set_option maxRecDepth 20000 in
theorem gX4_truncate_X4_placeOf : GoodIn wsX4_truncate (va_wsS RX4 56 yX4_placeOf wsX4_placeOf) := goodIn_app (goodIn_of _ (by decide +kernel)) ggX4_truncate_X4_placeOf
set_option maxRecDepth 20000 in
theorem ggX4_truncate_X1_change : GoodIn wsX4_truncate wsX1_change := goodIn_r _ [27, 20, 19, 28, 29, 30, 31, 22, 4, 23, 37, 38, 39, 40, 41, 42, 43] (by decide +kernel) (by decide +kernel)
set_option maxRecDepth 20000 in
theorem gX4_truncate_X1_change : GoodIn wsX4_truncate (wsV RX4 64 RX1 yX1_change wsX1_change) := goodIn_app (goodIn_of _ (by decide +kernel)) ggX4_truncate_X1_change
theorem dX4_truncate_0 : decode cX4_truncate 0 = .ok (.iload_n 1, 1) := by decide +kernel
theorem dX4_truncate_1 : decode cX4_truncate 1 = .ok (.invokestatic 75, 3) := by decide +kernel
theorem dX4_truncate_4 : decode cX4_truncate 4 = .ok (.aload_n 0, 1) := by decide +kernel
theorem dX4_truncate_5 : decode cX4_truncate 5 = .ok (.invokevirtual 49, 3) := by decide +kernel
theorem dX4_truncate_8 : decode cX4_truncate 8 = .ok (.iconst 0, 1) := by decide +kernel
theorem dX4_truncate_9 : decode cX4_truncate 9 = .ok (.istore_n 2, 1) := by decide +kernel
theorem dX4_truncate_10 : decode cX4_truncate 10 = .ok (.iconst 0, 1) := by decide +kernel
theorem dX4_truncate_11 : decode cX4_truncate 11 = .ok (.istore_n 3, 1) := by decide +kernel
theorem dX4_truncate_12 : decode cX4_truncate 12 = .ok (.iload_n 3, 1) := by decide +kernel
theorem dX4_truncate_13 : decode cX4_truncate 13 = .ok (.bipush 12, 2) := by decide +kernel
theorem dX4_truncate_15 : decode cX4_truncate 15 = .ok (.if_icmp .ge 29, 3) := by decide +kernel
theorem dX4_truncate_18 : decode cX4_truncate 18 = .ok (.aload_n 0, 1) := by decide +kernel
theorem dX4_truncate_19 : decode cX4_truncate 19 = .ok (.getfield 12, 3) := by decide +kernel
theorem dX4_truncate_22 : decode cX4_truncate 22 = .ok (.getfield 52, 3) := by decide +kernel
theorem dX4_truncate_25 : decode cX4_truncate 25 = .ok (.iload_n 1, 1) := by decide +kernel
theorem dX4_truncate_26 : decode cX4_truncate 26 = .ok (.iload_n 3, 1) := by decide +kernel
theorem dX4_truncate_27 : decode cX4_truncate 27 = .ok (.invokestatic 56, 3) := by decide +kernel
theorem dX4_truncate_30 : decode cX4_truncate 30 = .ok (.iaload, 1) := by decide +kernel
theorem dX4_truncate_31 : decode cX4_truncate 31 = .ok (.iconst (-1), 1) := by decide +kernel
theorem dX4_truncate_32 : decode cX4_truncate 32 = .ok (.if_icmp .eq 6, 3) := by decide +kernel
theorem dX4_truncate_35 : decode cX4_truncate 35 = .ok (.iinc 2 1, 3) := by decide +kernel
theorem dX4_truncate_38 : decode cX4_truncate 38 = .ok (.iinc 3 1, 3) := by decide +kernel
theorem dX4_truncate_41 : decode cX4_truncate 41 = .ok (.goto (-29), 3) := by decide +kernel
theorem dX4_truncate_44 : decode cX4_truncate 44 = .ok (.aload_n 0, 1) := by decide +kernel
theorem dX4_truncate_45 : decode cX4_truncate 45 = .ok (.getfield 12, 3) := by decide +kernel
theorem dX4_truncate_48 : decode cX4_truncate 48 = .ok (.iload_n 1, 1) := by decide +kernel
theorem dX4_truncate_49 : decode cX4_truncate 49 = .ok (.iconst (-1), 1) := by decide +kernel
theorem dX4_truncate_50 : decode cX4_truncate 50 = .ok (.iconst (-1), 1) := by decide +kernel
theorem dX4_truncate_51 : decode cX4_truncate 51 = .ok (.invokevirtual 64, 3) := by decide +kernel
theorem dX4_truncate_54 : decode cX4_truncate 54 = .ok (.iload_n 2, 1) := by decide +kernel
theorem dX4_truncate_55 : decode cX4_truncate 55 = .ok (.ireturn, 1) := by decide +kernel
set_option maxRecDepth 20000 in
theorem ggX4_commit_X1_close : GoodIn wsX4_commit wsX1_close := goodIn_r _ [8, 9, 10, 11, 12, 13, 14, 15, 39, 40, 41, 42, 43, 44, 45] (by decide +kernel) (by decide +kernel)
set_option maxRecDepth 20000 in
theorem gX4_commit_X1_close : GoodIn wsX4_commit (wsV RX4 83 RX1 yX1_close wsX1_close) := goodIn_app (goodIn_of _ (by decide +kernel)) ggX4_commit_X1_close
set_option maxRecDepth 20000 in
theorem ggX4_commit_X4_cutLaggards : GoodIn wsX4_commit wsX4_cutLaggards := goodIn_r _ [20, 21, 3, 22, 23, 24, 25, 26, 27, 28, 29, 30, 31, 32, 33, 34, 35, 36, 37, 38, 39, 40, 41, 42, 43, 44, 45, 46, 47, 48, 49, 50] (by decide +kernel) (by decide +kernel)
set_option maxRecDepth 20000 in
theorem gX4_commit_X4_cutLaggards : GoodIn wsX4_commit (wsV RX4 86 RX4 yX4_cutLaggards wsX4_cutLaggards) := goodIn_app (goodIn_of _ (by decide +kernel)) ggX4_commit_X4_cutLaggards
theorem dX4_commit_0 : decode cX4_commit 0 = .ok (.aload_n 0, 1) := by decide +kernel
theorem dX4_commit_1 : decode cX4_commit 1 = .ok (.getfield 12, 3) := by decide +kernel
theorem dX4_commit_4 : decode cX4_commit 4 = .ok (.getfield 78, 3) := by decide +kernel
theorem dX4_commit_7 : decode cX4_commit 7 = .ok (.bipush 50, 2) := by decide +kernel
theorem dX4_commit_9 : decode cX4_commit 9 = .ok (.if_icmp .lt 13, 3) := by decide +kernel
theorem dX4_commit_12 : decode cX4_commit 12 = .ok (.new 68, 3) := by decide +kernel
theorem dX4_commit_15 : decode cX4_commit 15 = .ok (.dup, 1) := by decide +kernel
theorem dX4_commit_16 : decode cX4_commit 16 = .ok (.ldc 81, 2) := by decide +kernel
theorem dX4_commit_18 : decode cX4_commit 18 = .ok (.invokespecial 72, 3) := by decide +kernel
theorem dX4_commit_21 : decode cX4_commit 21 = .ok (.athrow, 1) := by decide +kernel
theorem dX4_commit_22 : decode cX4_commit 22 = .ok (.aload_n 0, 1) := by decide +kernel
theorem dX4_commit_23 : decode cX4_commit 23 = .ok (.getfield 12, 3) := by decide +kernel
theorem dX4_commit_26 : decode cX4_commit 26 = .ok (.invokevirtual 83, 3) := by decide +kernel
theorem dX4_commit_29 : decode cX4_commit 29 = .ok (.aload_n 0, 1) := by decide +kernel
theorem dX4_commit_30 : decode cX4_commit 30 = .ok (.invokevirtual 86, 3) := by decide +kernel
theorem dX4_commit_33 : decode cX4_commit 33 = .ok (.pop, 1) := by decide +kernel
theorem dX4_commit_34 : decode cX4_commit 34 = .ok (.aload_n 0, 1) := by decide +kernel
theorem dX4_commit_35 : decode cX4_commit 35 = .ok (.getfield 12, 3) := by decide +kernel
theorem dX4_commit_38 : decode cX4_commit 38 = .ok (.getfield 78, 3) := by decide +kernel
theorem dX4_commit_41 : decode cX4_commit 41 = .ok (.ireturn, 1) := by decide +kernel
set_option maxRecDepth 20000 in
theorem ggX4_rollBack_X1_openChanges : GoodIn wsX4_rollBack wsX1_openChanges := goodIn_r _ [6, 7, 8, 24, 25, 26, 27, 28, 29, 30] (by decide +kernel) (by decide +kernel)
set_option maxRecDepth 20000 in
theorem gX4_rollBack_X1_openChanges : GoodIn wsX4_rollBack (wsV RX4 90 RX1 yX1_openChanges wsX1_openChanges) := goodIn_app (goodIn_of _ (by decide +kernel)) ggX4_rollBack_X1_openChanges
set_option maxRecDepth 20000 in
theorem ggX4_rollBack_X1_undo : GoodIn wsX4_rollBack wsX1_undo := goodIn_r _ [12, 7, 8, 13, 14, 15, 16, 17, 18, 24, 25, 26, 27, 28, 29, 30] (by decide +kernel) (by decide +kernel)
set_option maxRecDepth 20000 in
theorem gX4_rollBack_X1_undo : GoodIn wsX4_rollBack (wsV RX4 93 RX1 yX1_undo wsX1_undo) := goodIn_app (goodIn_of _ (by decide +kernel)) ggX4_rollBack_X1_undo
theorem dX4_rollBack_0 : decode cX4_rollBack 0 = .ok (.aload_n 0, 1) := by decide +kernel
theorem dX4_rollBack_1 : decode cX4_rollBack 1 = .ok (.getfield 12, 3) := by decide +kernel
theorem dX4_rollBack_4 : decode cX4_rollBack 4 = .ok (.invokevirtual 90, 3) := by decide +kernel
theorem dX4_rollBack_7 : decode cX4_rollBack 7 = .ok (.istore_n 1, 1) := by decide +kernel
theorem dX4_rollBack_8 : decode cX4_rollBack 8 = .ok (.aload_n 0, 1) := by decide +kernel
theorem dX4_rollBack_9 : decode cX4_rollBack 9 = .ok (.getfield 12, 3) := by decide +kernel
theorem dX4_rollBack_12 : decode cX4_rollBack 12 = .ok (.invokevirtual 93, 3) := by decide +kernel
theorem dX4_rollBack_15 : decode cX4_rollBack 15 = .ok (.iload_n 1, 1) := by decide +kernel
theorem dX4_rollBack_16 : decode cX4_rollBack 16 = .ok (.ireturn, 1) := by decide +kernel
set_option maxRecDepth 20000 in
theorem ggX4_at_X4_checkKey : GoodIn wsX4_at wsX4_checkKey := goodIn_ca (goodIn_r _ [5, 6, 7, 8, 9, 4, 10] (by decide +kernel) (by decide +kernel)) (goodIn_sub (fun _ h => List.mem_cons_of_mem _ (List.mem_append_right _ h)) (by decide +kernel))
set_option maxRecDepth 20000 in
theorem gX4_at_X4_checkKey : GoodIn wsX4_at (va_wsS RX4 41 yX4_checkKey wsX4_checkKey) := goodIn_app (goodIn_of _ (by decide +kernel)) ggX4_at_X4_checkKey
set_option maxRecDepth 20000 in
theorem ggX4_at_X4_checkColumn : GoodIn wsX4_at wsX4_checkColumn := goodIn_ca (goodIn_r _ [13, 6, 7] (by decide +kernel) (by decide +kernel)) (goodIn_sub (fun _ h => List.mem_cons_of_mem _ (List.mem_append_right _ h)) (by decide +kernel))
set_option maxRecDepth 20000 in
theorem gX4_at_X4_checkColumn : GoodIn wsX4_at (va_wsS RX4 96 yX4_checkColumn wsX4_checkColumn) := goodIn_app (goodIn_of _ (by decide +kernel)) ggX4_at_X4_checkColumn
set_option maxRecDepth 20000 in
theorem ggX4_at_X4_placeOf : GoodIn wsX4_at wsX4_placeOf := goodIn_r _ [16] (by decide +kernel) (by decide +kernel)
set_option maxRecDepth 20000 in
theorem gX4_at_X4_placeOf : GoodIn wsX4_at (va_wsS RX4 56 yX4_placeOf wsX4_placeOf) := goodIn_app (goodIn_of _ (by decide +kernel)) ggX4_at_X4_placeOf
set_option maxRecDepth 20000 in
theorem ggX4_at_X4_numberIn : GoodIn wsX4_at wsX4_numberIn := goodIn_r _ [19] (by decide +kernel) (by decide +kernel)
set_option maxRecDepth 20000 in
theorem gX4_at_X4_numberIn : GoodIn wsX4_at (va_wsS RX4 99 yX4_numberIn wsX4_numberIn) := goodIn_app (goodIn_of _ (by decide +kernel)) ggX4_at_X4_numberIn
theorem dX4_at_0 : decode cX4_at 0 = .ok (.iload_n 1, 1) := by decide +kernel
theorem dX4_at_1 : decode cX4_at 1 = .ok (.iload_n 2, 1) := by decide +kernel
theorem dX4_at_2 : decode cX4_at 2 = .ok (.invokestatic 41, 3) := by decide +kernel
theorem dX4_at_5 : decode cX4_at 5 = .ok (.iload_n 3, 1) := by decide +kernel
theorem dX4_at_6 : decode cX4_at 6 = .ok (.invokestatic 96, 3) := by decide +kernel
theorem dX4_at_9 : decode cX4_at 9 = .ok (.aload_n 0, 1) := by decide +kernel
theorem dX4_at_10 : decode cX4_at 10 = .ok (.getfield 12, 3) := by decide +kernel
theorem dX4_at_13 : decode cX4_at 13 = .ok (.getfield 52, 3) := by decide +kernel
theorem dX4_at_16 : decode cX4_at 16 = .ok (.iload_n 1, 1) := by decide +kernel
theorem dX4_at_17 : decode cX4_at 17 = .ok (.iload_n 2, 1) := by decide +kernel
theorem dX4_at_18 : decode cX4_at 18 = .ok (.invokestatic 56, 3) := by decide +kernel
theorem dX4_at_21 : decode cX4_at 21 = .ok (.iaload, 1) := by decide +kernel
theorem dX4_at_22 : decode cX4_at 22 = .ok (.iload_n 3, 1) := by decide +kernel
theorem dX4_at_23 : decode cX4_at 23 = .ok (.invokestatic 99, 3) := by decide +kernel
theorem dX4_at_26 : decode cX4_at 26 = .ok (.ireturn, 1) := by decide +kernel
theorem dX4_commits_0 : decode cX4_commits 0 = .ok (.aload_n 0, 1) := by decide +kernel
theorem dX4_commits_1 : decode cX4_commits 1 = .ok (.getfield 12, 3) := by decide +kernel
theorem dX4_commits_4 : decode cX4_commits 4 = .ok (.getfield 78, 3) := by decide +kernel
theorem dX4_commits_7 : decode cX4_commits 7 = .ok (.ireturn, 1) := by decide +kernel
set_option maxRecDepth 20000 in
theorem ggX4_setLimit_X4_cutLaggards : GoodIn wsX4_setLimit wsX4_cutLaggards := goodIn_r _ [8, 9, 10, 3, 11, 12, 13, 14, 15, 16, 17, 18, 19, 20, 21, 22, 23, 24, 25, 26, 27, 28, 29, 30, 31, 32, 33, 34, 35, 36, 37, 38] (by decide +kernel) (by decide +kernel)
set_option maxRecDepth 20000 in
theorem gX4_setLimit_X4_cutLaggards : GoodIn wsX4_setLimit (wsV RX4 86 RX4 yX4_cutLaggards wsX4_cutLaggards) := goodIn_app (goodIn_of _ (by decide +kernel)) ggX4_setLimit_X4_cutLaggards
theorem dX4_setLimit_0 : decode cX4_setLimit 0 = .ok (.iload_n 1, 1) := by decide +kernel
theorem dX4_setLimit_1 : decode cX4_setLimit 1 = .ok (.ifCond .lt 9, 3) := by decide +kernel
theorem dX4_setLimit_4 : decode cX4_setLimit 4 = .ok (.iload_n 1, 1) := by decide +kernel
theorem dX4_setLimit_5 : decode cX4_setLimit 5 = .ok (.bipush 50, 2) := by decide +kernel
theorem dX4_setLimit_7 : decode cX4_setLimit 7 = .ok (.if_icmp .le 13, 3) := by decide +kernel
theorem dX4_setLimit_10 : decode cX4_setLimit 10 = .ok (.new 102, 3) := by decide +kernel
theorem dX4_setLimit_13 : decode cX4_setLimit 13 = .ok (.dup, 1) := by decide +kernel
theorem dX4_setLimit_14 : decode cX4_setLimit 14 = .ok (.ldc 104, 2) := by decide +kernel
theorem dX4_setLimit_16 : decode cX4_setLimit 16 = .ok (.invokespecial 106, 3) := by decide +kernel
theorem dX4_setLimit_19 : decode cX4_setLimit 19 = .ok (.athrow, 1) := by decide +kernel
theorem dX4_setLimit_20 : decode cX4_setLimit 20 = .ok (.aload_n 0, 1) := by decide +kernel
theorem dX4_setLimit_21 : decode cX4_setLimit 21 = .ok (.iload_n 1, 1) := by decide +kernel
theorem dX4_setLimit_22 : decode cX4_setLimit 22 = .ok (.putfield 35, 3) := by decide +kernel
theorem dX4_setLimit_25 : decode cX4_setLimit 25 = .ok (.aload_n 0, 1) := by decide +kernel
theorem dX4_setLimit_26 : decode cX4_setLimit 26 = .ok (.invokevirtual 86, 3) := by decide +kernel
theorem dX4_setLimit_29 : decode cX4_setLimit 29 = .ok (.ireturn, 1) := by decide +kernel
set_option maxRecDepth 20000 in
theorem ggX4_setCondition_X4_checkPublication : GoodIn wsX4_setCondition wsX4_checkPublication := goodIn_ca (goodIn_r _ [7, 8, 9] (by decide +kernel) (by decide +kernel)) (goodIn_sub (fun _ h => List.mem_cons_of_mem _ (List.mem_append_right _ h)) (by decide +kernel))
set_option maxRecDepth 20000 in
theorem gX4_setCondition_X4_checkPublication : GoodIn wsX4_setCondition (va_wsS RX4 107 yX4_checkPublication wsX4_checkPublication) := goodIn_app (goodIn_of _ (by decide +kernel)) ggX4_setCondition_X4_checkPublication
set_option maxRecDepth 20000 in
theorem ggX4_setCondition_X4_checkTable : GoodIn wsX4_setCondition wsX4_checkTable := goodIn_ca (goodIn_r _ [12, 8, 9] (by decide +kernel) (by decide +kernel)) (goodIn_sub (fun _ h => List.mem_cons_of_mem _ (List.mem_append_right _ h)) (by decide +kernel))
set_option maxRecDepth 20000 in
theorem gX4_setCondition_X4_checkTable : GoodIn wsX4_setCondition (va_wsS RX4 75 yX4_checkTable wsX4_checkTable) := goodIn_app (goodIn_of _ (by decide +kernel)) ggX4_setCondition_X4_checkTable
set_option maxRecDepth 20000 in
theorem ggX4_setCondition_X4_checkColumn : GoodIn wsX4_setCondition wsX4_checkColumn := goodIn_ca (goodIn_r _ [15, 8, 9] (by decide +kernel) (by decide +kernel)) (goodIn_sub (fun _ h => List.mem_cons_of_mem _ (List.mem_append_right _ h)) (by decide +kernel))
set_option maxRecDepth 20000 in
theorem gX4_setCondition_X4_checkColumn : GoodIn wsX4_setCondition (va_wsS RX4 96 yX4_checkColumn wsX4_checkColumn) := goodIn_app (goodIn_of _ (by decide +kernel)) ggX4_setCondition_X4_checkColumn
set_option maxRecDepth 20000 in
theorem ggX4_setCondition_X4_checkNumber : GoodIn wsX4_setCondition wsX4_checkNumber := goodIn_ca (goodIn_r _ [18, 1, 2] (by decide +kernel) (by decide +kernel)) (goodIn_sub (fun _ h => List.mem_cons_of_mem _ (List.mem_append_left _ (List.mem_append_right _ h))) (by decide +kernel))
set_option maxRecDepth 20000 in
theorem gX4_setCondition_X4_checkNumber : GoodIn wsX4_setCondition (va_wsS RX4 45 yX4_checkNumber wsX4_checkNumber) := goodIn_app (goodIn_of _ (by decide +kernel)) ggX4_setCondition_X4_checkNumber
set_option maxRecDepth 20000 in
theorem ggX4_setCondition_X4_forgetCopies : GoodIn wsX4_setCondition wsX4_forgetCopies := goodIn_r _ [22, 23, 24, 25, 26, 27, 28, 33, 34, 35, 36, 37] (by decide +kernel) (by decide +kernel)
set_option maxRecDepth 20000 in
theorem gX4_setCondition_X4_forgetCopies : GoodIn wsX4_setCondition (wsV RX4 121 RX4 yX4_forgetCopies wsX4_forgetCopies) := goodIn_app (goodIn_of _ (by decide +kernel)) ggX4_setCondition_X4_forgetCopies
theorem dX4_setCondition_0 : decode cX4_setCondition 0 = .ok (.iload_n 1, 1) := by decide +kernel
theorem dX4_setCondition_1 : decode cX4_setCondition 1 = .ok (.invokestatic 107, 3) := by decide +kernel
theorem dX4_setCondition_4 : decode cX4_setCondition 4 = .ok (.iload_n 2, 1) := by decide +kernel
theorem dX4_setCondition_5 : decode cX4_setCondition 5 = .ok (.invokestatic 75, 3) := by decide +kernel
theorem dX4_setCondition_8 : decode cX4_setCondition 8 = .ok (.iload_n 3, 1) := by decide +kernel
theorem dX4_setCondition_9 : decode cX4_setCondition 9 = .ok (.invokestatic 96, 3) := by decide +kernel
theorem dX4_setCondition_12 : decode cX4_setCondition 12 = .ok (.iload 4, 2) := by decide +kernel
theorem dX4_setCondition_14 : decode cX4_setCondition 14 = .ok (.ifCond .lt 9, 3) := by decide +kernel
theorem dX4_setCondition_17 : decode cX4_setCondition 17 = .ok (.iload 4, 2) := by decide +kernel
theorem dX4_setCondition_19 : decode cX4_setCondition 19 = .ok (.iconst 2, 1) := by decide +kernel
theorem dX4_setCondition_20 : decode cX4_setCondition 20 = .ok (.if_icmp .le 13, 3) := by decide +kernel
theorem dX4_setCondition_23 : decode cX4_setCondition 23 = .ok (.new 102, 3) := by decide +kernel
theorem dX4_setCondition_26 : decode cX4_setCondition 26 = .ok (.dup, 1) := by decide +kernel
theorem dX4_setCondition_27 : decode cX4_setCondition 27 = .ok (.ldc 110, 2) := by decide +kernel
theorem dX4_setCondition_29 : decode cX4_setCondition 29 = .ok (.invokespecial 106, 3) := by decide +kernel
theorem dX4_setCondition_32 : decode cX4_setCondition 32 = .ok (.athrow, 1) := by decide +kernel
theorem dX4_setCondition_33 : decode cX4_setCondition 33 = .ok (.iload 5, 2) := by decide +kernel
theorem dX4_setCondition_35 : decode cX4_setCondition 35 = .ok (.invokestatic 45, 3) := by decide +kernel
theorem dX4_setCondition_38 : decode cX4_setCondition 38 = .ok (.aload_n 0, 1) := by decide +kernel
theorem dX4_setCondition_39 : decode cX4_setCondition 39 = .ok (.getfield 18, 3) := by decide +kernel
theorem dX4_setCondition_42 : decode cX4_setCondition 42 = .ok (.iload_n 1, 1) := by decide +kernel
theorem dX4_setCondition_43 : decode cX4_setCondition 43 = .ok (.aaload, 1) := by decide +kernel
theorem dX4_setCondition_44 : decode cX4_setCondition 44 = .ok (.astore 6, 2) := by decide +kernel
theorem dX4_setCondition_46 : decode cX4_setCondition 46 = .ok (.aload 6, 2) := by decide +kernel
theorem dX4_setCondition_48 : decode cX4_setCondition 48 = .ok (.getfield 112, 3) := by decide +kernel
theorem dX4_setCondition_51 : decode cX4_setCondition 51 = .ok (.iload_n 2, 1) := by decide +kernel
theorem dX4_setCondition_52 : decode cX4_setCondition 52 = .ok (.iload_n 3, 1) := by decide +kernel
theorem dX4_setCondition_53 : decode cX4_setCondition 53 = .ok (.iastore, 1) := by decide +kernel
theorem dX4_setCondition_54 : decode cX4_setCondition 54 = .ok (.aload 6, 2) := by decide +kernel
theorem dX4_setCondition_56 : decode cX4_setCondition 56 = .ok (.getfield 115, 3) := by decide +kernel
theorem dX4_setCondition_59 : decode cX4_setCondition 59 = .ok (.iload_n 2, 1) := by decide +kernel
theorem dX4_setCondition_60 : decode cX4_setCondition 60 = .ok (.iload 4, 2) := by decide +kernel
theorem dX4_setCondition_62 : decode cX4_setCondition 62 = .ok (.iastore, 1) := by decide +kernel
theorem dX4_setCondition_63 : decode cX4_setCondition 63 = .ok (.aload 6, 2) := by decide +kernel
theorem dX4_setCondition_65 : decode cX4_setCondition 65 = .ok (.getfield 118, 3) := by decide +kernel
theorem dX4_setCondition_68 : decode cX4_setCondition 68 = .ok (.iload_n 2, 1) := by decide +kernel
theorem dX4_setCondition_69 : decode cX4_setCondition 69 = .ok (.iload 5, 2) := by decide +kernel
theorem dX4_setCondition_71 : decode cX4_setCondition 71 = .ok (.iastore, 1) := by decide +kernel
theorem dX4_setCondition_72 : decode cX4_setCondition 72 = .ok (.aload_n 0, 1) := by decide +kernel
theorem dX4_setCondition_73 : decode cX4_setCondition 73 = .ok (.aload 6, 2) := by decide +kernel
theorem dX4_setCondition_75 : decode cX4_setCondition 75 = .ok (.iload_n 2, 1) := by decide +kernel
theorem dX4_setCondition_76 : decode cX4_setCondition 76 = .ok (.invokevirtual 121, 3) := by decide +kernel
theorem dX4_setCondition_79 : decode cX4_setCondition 79 = .ok (.ireturn, 1) := by decide +kernel
set_option maxRecDepth 20000 in
theorem ggX4_setColumns_X4_checkPublication : GoodIn wsX4_setColumns wsX4_checkPublication := goodIn_ca (goodIn_r _ [7, 8, 9] (by decide +kernel) (by decide +kernel)) (goodIn_sub (fun _ h => List.mem_cons_of_mem _ (List.mem_append_right _ h)) (by decide +kernel))
set_option maxRecDepth 20000 in
theorem gX4_setColumns_X4_checkPublication : GoodIn wsX4_setColumns (va_wsS RX4 107 yX4_checkPublication wsX4_checkPublication) := goodIn_app (goodIn_of _ (by decide +kernel)) ggX4_setColumns_X4_checkPublication
set_option maxRecDepth 20000 in
theorem ggX4_setColumns_X4_checkTable : GoodIn wsX4_setColumns wsX4_checkTable := goodIn_ca (goodIn_r _ [12, 8, 9] (by decide +kernel) (by decide +kernel)) (goodIn_sub (fun _ h => List.mem_cons_of_mem _ (List.mem_append_right _ h)) (by decide +kernel))
set_option maxRecDepth 20000 in
theorem gX4_setColumns_X4_checkTable : GoodIn wsX4_setColumns (va_wsS RX4 75 yX4_checkTable wsX4_checkTable) := goodIn_app (goodIn_of _ (by decide +kernel)) ggX4_setColumns_X4_checkTable
set_option maxRecDepth 20000 in
theorem ggX4_setColumns_X4_maskOf : GoodIn wsX4_setColumns wsX4_maskOf := goodIn_r _ [15] (by decide +kernel) (by decide +kernel)
set_option maxRecDepth 20000 in
theorem gX4_setColumns_X4_maskOf : GoodIn wsX4_setColumns (va_wsS RX4 130 yX4_maskOf wsX4_maskOf) := goodIn_app (goodIn_of _ (by decide +kernel)) ggX4_setColumns_X4_maskOf
set_option maxRecDepth 20000 in
theorem ggX4_setColumns_X4_forgetCopies : GoodIn wsX4_setColumns wsX4_forgetCopies := goodIn_r _ [19, 20, 21, 22, 23, 24, 25, 30, 31, 32, 33, 34] (by decide +kernel) (by decide +kernel)
set_option maxRecDepth 20000 in
theorem gX4_setColumns_X4_forgetCopies : GoodIn wsX4_setColumns (wsV RX4 121 RX4 yX4_forgetCopies wsX4_forgetCopies) := goodIn_app (goodIn_of _ (by decide +kernel)) ggX4_setColumns_X4_forgetCopies
theorem dX4_setColumns_0 : decode cX4_setColumns 0 = .ok (.iload_n 1, 1) := by decide +kernel
theorem dX4_setColumns_1 : decode cX4_setColumns 1 = .ok (.invokestatic 107, 3) := by decide +kernel
theorem dX4_setColumns_4 : decode cX4_setColumns 4 = .ok (.iload_n 2, 1) := by decide +kernel
theorem dX4_setColumns_5 : decode cX4_setColumns 5 = .ok (.invokestatic 75, 3) := by decide +kernel
theorem dX4_setColumns_8 : decode cX4_setColumns 8 = .ok (.iload_n 3, 1) := by decide +kernel
theorem dX4_setColumns_9 : decode cX4_setColumns 9 = .ok (.ifCond .lt 9, 3) := by decide +kernel
theorem dX4_setColumns_12 : decode cX4_setColumns 12 = .ok (.iload_n 3, 1) := by decide +kernel
theorem dX4_setColumns_13 : decode cX4_setColumns 13 = .ok (.bipush 7, 2) := by decide +kernel
theorem dX4_setColumns_15 : decode cX4_setColumns 15 = .ok (.if_icmp .le 13, 3) := by decide +kernel
theorem dX4_setColumns_18 : decode cX4_setColumns 18 = .ok (.new 102, 3) := by decide +kernel
theorem dX4_setColumns_21 : decode cX4_setColumns 21 = .ok (.dup, 1) := by decide +kernel
theorem dX4_setColumns_22 : decode cX4_setColumns 22 = .ok (.ldc 125, 2) := by decide +kernel
theorem dX4_setColumns_24 : decode cX4_setColumns 24 = .ok (.invokespecial 106, 3) := by decide +kernel
theorem dX4_setColumns_27 : decode cX4_setColumns 27 = .ok (.athrow, 1) := by decide +kernel
theorem dX4_setColumns_28 : decode cX4_setColumns 28 = .ok (.aload_n 0, 1) := by decide +kernel
theorem dX4_setColumns_29 : decode cX4_setColumns 29 = .ok (.getfield 18, 3) := by decide +kernel
theorem dX4_setColumns_32 : decode cX4_setColumns 32 = .ok (.iload_n 1, 1) := by decide +kernel
theorem dX4_setColumns_33 : decode cX4_setColumns 33 = .ok (.aaload, 1) := by decide +kernel
theorem dX4_setColumns_34 : decode cX4_setColumns 34 = .ok (.astore 4, 2) := by decide +kernel
theorem dX4_setColumns_36 : decode cX4_setColumns 36 = .ok (.aload 4, 2) := by decide +kernel
theorem dX4_setColumns_38 : decode cX4_setColumns 38 = .ok (.getfield 127, 3) := by decide +kernel
theorem dX4_setColumns_41 : decode cX4_setColumns 41 = .ok (.iload_n 2, 1) := by decide +kernel
theorem dX4_setColumns_42 : decode cX4_setColumns 42 = .ok (.iload_n 3, 1) := by decide +kernel
theorem dX4_setColumns_43 : decode cX4_setColumns 43 = .ok (.invokestatic 130, 3) := by decide +kernel
theorem dX4_setColumns_46 : decode cX4_setColumns 46 = .ok (.iastore, 1) := by decide +kernel
theorem dX4_setColumns_47 : decode cX4_setColumns 47 = .ok (.aload_n 0, 1) := by decide +kernel
theorem dX4_setColumns_48 : decode cX4_setColumns 48 = .ok (.aload 4, 2) := by decide +kernel
theorem dX4_setColumns_50 : decode cX4_setColumns 50 = .ok (.iload_n 2, 1) := by decide +kernel
theorem dX4_setColumns_51 : decode cX4_setColumns 51 = .ok (.invokevirtual 121, 3) := by decide +kernel
theorem dX4_setColumns_54 : decode cX4_setColumns 54 = .ok (.ireturn, 1) := by decide +kernel
set_option maxRecDepth 20000 in
theorem ggX4_subscribe_X4_checkSubscriber : GoodIn wsX4_subscribe wsX4_checkSubscriber := goodIn_ca (goodIn_r _ [7, 8, 9] (by decide +kernel) (by decide +kernel)) (goodIn_sub (fun _ h => List.mem_cons_of_mem _ (List.mem_append_right _ h)) (by decide +kernel))
set_option maxRecDepth 20000 in
theorem gX4_subscribe_X4_checkSubscriber : GoodIn wsX4_subscribe (va_wsS RX4 134 yX4_checkSubscriber wsX4_checkSubscriber) := goodIn_app (goodIn_of _ (by decide +kernel)) ggX4_subscribe_X4_checkSubscriber
set_option maxRecDepth 20000 in
theorem ggX4_subscribe_X4_checkPublication : GoodIn wsX4_subscribe wsX4_checkPublication := goodIn_ca (goodIn_r _ [12, 8, 9] (by decide +kernel) (by decide +kernel)) (goodIn_sub (fun _ h => List.mem_cons_of_mem _ (List.mem_append_right _ h)) (by decide +kernel))
set_option maxRecDepth 20000 in
theorem gX4_subscribe_X4_checkPublication : GoodIn wsX4_subscribe (va_wsS RX4 107 yX4_checkPublication wsX4_checkPublication) := goodIn_app (goodIn_of _ (by decide +kernel)) ggX4_subscribe_X4_checkPublication
set_option maxRecDepth 20000 in
theorem ggX4_subscribe_X2_follow : GoodIn wsX4_subscribe wsX2_follow := goodIn_r _ [17, 18, 19, 20, 21, 22, 23, 16, 24, 25, 31, 32, 33, 34, 35] (by decide +kernel) (by decide +kernel)
set_option maxRecDepth 20000 in
theorem gX4_subscribe_X2_follow : GoodIn wsX4_subscribe (wsV RX4 140 RX2 yX2_follow wsX2_follow) := goodIn_app (goodIn_of _ (by decide +kernel)) ggX4_subscribe_X2_follow
theorem dX4_subscribe_0 : decode cX4_subscribe 0 = .ok (.iload_n 1, 1) := by decide +kernel
theorem dX4_subscribe_1 : decode cX4_subscribe 1 = .ok (.invokestatic 134, 3) := by decide +kernel
theorem dX4_subscribe_4 : decode cX4_subscribe 4 = .ok (.iload_n 2, 1) := by decide +kernel
theorem dX4_subscribe_5 : decode cX4_subscribe 5 = .ok (.invokestatic 107, 3) := by decide +kernel
theorem dX4_subscribe_8 : decode cX4_subscribe 8 = .ok (.aload_n 0, 1) := by decide +kernel
theorem dX4_subscribe_9 : decode cX4_subscribe 9 = .ok (.getfield 24, 3) := by decide +kernel
theorem dX4_subscribe_12 : decode cX4_subscribe 12 = .ok (.iload_n 1, 1) := by decide +kernel
theorem dX4_subscribe_13 : decode cX4_subscribe 13 = .ok (.aaload, 1) := by decide +kernel
theorem dX4_subscribe_14 : decode cX4_subscribe 14 = .ok (.astore_n 3, 1) := by decide +kernel
theorem dX4_subscribe_15 : decode cX4_subscribe 15 = .ok (.aload_n 3, 1) := by decide +kernel
theorem dX4_subscribe_16 : decode cX4_subscribe 16 = .ok (.getfield 137, 3) := by decide +kernel
theorem dX4_subscribe_19 : decode cX4_subscribe 19 = .ok (.istore 4, 2) := by decide +kernel
theorem dX4_subscribe_21 : decode cX4_subscribe 21 = .ok (.aload_n 3, 1) := by decide +kernel
theorem dX4_subscribe_22 : decode cX4_subscribe 22 = .ok (.aload_n 0, 1) := by decide +kernel
theorem dX4_subscribe_23 : decode cX4_subscribe 23 = .ok (.getfield 18, 3) := by decide +kernel
theorem dX4_subscribe_26 : decode cX4_subscribe 26 = .ok (.iload_n 2, 1) := by decide +kernel
theorem dX4_subscribe_27 : decode cX4_subscribe 27 = .ok (.aaload, 1) := by decide +kernel
theorem dX4_subscribe_28 : decode cX4_subscribe 28 = .ok (.aload_n 0, 1) := by decide +kernel
theorem dX4_subscribe_29 : decode cX4_subscribe 29 = .ok (.getfield 12, 3) := by decide +kernel
theorem dX4_subscribe_32 : decode cX4_subscribe 32 = .ok (.getfield 78, 3) := by decide +kernel
theorem dX4_subscribe_35 : decode cX4_subscribe 35 = .ok (.invokevirtual 140, 3) := by decide +kernel
theorem dX4_subscribe_38 : decode cX4_subscribe 38 = .ok (.iload 4, 2) := by decide +kernel
theorem dX4_subscribe_40 : decode cX4_subscribe 40 = .ok (.ireturn, 1) := by decide +kernel
set_option maxRecDepth 20000 in
theorem ggX4_drop_X4_checkSubscriber : GoodIn wsX4_drop wsX4_checkSubscriber := goodIn_ca (goodIn_r _ [5, 6, 7] (by decide +kernel) (by decide +kernel)) (goodIn_sub (fun _ h => List.mem_cons_of_mem _ (List.mem_append_right _ h)) (by decide +kernel))
set_option maxRecDepth 20000 in
theorem gX4_drop_X4_checkSubscriber : GoodIn wsX4_drop (va_wsS RX4 134 yX4_checkSubscriber wsX4_checkSubscriber) := goodIn_app (goodIn_of _ (by decide +kernel)) ggX4_drop_X4_checkSubscriber
set_option maxRecDepth 20000 in
theorem ggX4_drop_X2_leave : GoodIn wsX4_drop wsX2_leave := goodIn_r _ [12, 13, 14, 15, 16, 17, 11, 18, 19, 25, 26, 27, 28, 29] (by decide +kernel) (by decide +kernel)
set_option maxRecDepth 20000 in
theorem gX4_drop_X2_leave : GoodIn wsX4_drop (wsV RX4 144 RX2 yX2_leave wsX2_leave) := goodIn_app (goodIn_of _ (by decide +kernel)) ggX4_drop_X2_leave
theorem dX4_drop_0 : decode cX4_drop 0 = .ok (.iload_n 1, 1) := by decide +kernel
theorem dX4_drop_1 : decode cX4_drop 1 = .ok (.invokestatic 134, 3) := by decide +kernel
theorem dX4_drop_4 : decode cX4_drop 4 = .ok (.aload_n 0, 1) := by decide +kernel
theorem dX4_drop_5 : decode cX4_drop 5 = .ok (.getfield 24, 3) := by decide +kernel
theorem dX4_drop_8 : decode cX4_drop 8 = .ok (.iload_n 1, 1) := by decide +kernel
theorem dX4_drop_9 : decode cX4_drop 9 = .ok (.aaload, 1) := by decide +kernel
theorem dX4_drop_10 : decode cX4_drop 10 = .ok (.astore_n 2, 1) := by decide +kernel
theorem dX4_drop_11 : decode cX4_drop 11 = .ok (.aload_n 2, 1) := by decide +kernel
theorem dX4_drop_12 : decode cX4_drop 12 = .ok (.getfield 137, 3) := by decide +kernel
theorem dX4_drop_15 : decode cX4_drop 15 = .ok (.istore_n 3, 1) := by decide +kernel
theorem dX4_drop_16 : decode cX4_drop 16 = .ok (.aload_n 2, 1) := by decide +kernel
theorem dX4_drop_17 : decode cX4_drop 17 = .ok (.invokevirtual 144, 3) := by decide +kernel
theorem dX4_drop_20 : decode cX4_drop 20 = .ok (.iload_n 3, 1) := by decide +kernel
theorem dX4_drop_21 : decode cX4_drop 21 = .ok (.ireturn, 1) := by decide +kernel
set_option maxRecDepth 20000 in
theorem ggX4_copy_X4_checkSubscriber : GoodIn wsX4_copy wsX4_checkSubscriber := goodIn_ca (goodIn_r _ [8, 9, 10] (by decide +kernel) (by decide +kernel)) (goodIn_sub (fun _ h => List.mem_cons_of_mem _ (List.mem_append_right _ h)) (by decide +kernel))
set_option maxRecDepth 20000 in
theorem gX4_copy_X4_checkSubscriber : GoodIn wsX4_copy (va_wsS RX4 134 yX4_checkSubscriber wsX4_checkSubscriber) := goodIn_app (goodIn_of _ (by decide +kernel)) ggX4_copy_X4_checkSubscriber
set_option maxRecDepth 20000 in
theorem ggX4_copy_X4_checkTable : GoodIn wsX4_copy wsX4_checkTable := goodIn_ca (goodIn_r _ [13, 9, 10] (by decide +kernel) (by decide +kernel)) (goodIn_sub (fun _ h => List.mem_cons_of_mem _ (List.mem_append_right _ h)) (by decide +kernel))
set_option maxRecDepth 20000 in
theorem gX4_copy_X4_checkTable : GoodIn wsX4_copy (va_wsS RX4 75 yX4_checkTable wsX4_checkTable) := goodIn_app (goodIn_of _ (by decide +kernel)) ggX4_copy_X4_checkTable
set_option maxRecDepth 20000 in
theorem ggX4_copy_X1_openChanges : GoodIn wsX4_copy wsX1_openChanges := goodIn_r _ [18, 19, 20, 49, 50, 51, 52, 53, 54, 55] (by decide +kernel) (by decide +kernel)
set_option maxRecDepth 20000 in
theorem gX4_copy_X1_openChanges : GoodIn wsX4_copy (wsV RX4 90 RX1 yX1_openChanges wsX1_openChanges) := goodIn_app (goodIn_of _ (by decide +kernel)) ggX4_copy_X1_openChanges
set_option maxRecDepth 20000 in
theorem ggX4_copy_X4_placeOf : GoodIn wsX4_copy wsX4_placeOf := goodIn_r _ [23] (by decide +kernel) (by decide +kernel)
set_option maxRecDepth 20000 in
theorem gX4_copy_X4_placeOf : GoodIn wsX4_copy (va_wsS RX4 56 yX4_placeOf wsX4_placeOf) := goodIn_app (goodIn_of _ (by decide +kernel)) ggX4_copy_X4_placeOf
set_option maxRecDepth 20000 in
theorem ggX4_copy_X0_choose : GoodIn wsX4_copy wsX0_choose := goodIn_r _ [28, 29, 30, 31, 7, 32, 33, 34, 35, 27, 36, 37, 38, 56, 57, 58, 59] (by decide +kernel) (by decide +kernel)
set_option maxRecDepth 20000 in
theorem gX4_copy_X0_choose : GoodIn wsX4_copy (wsV RX4 155 RX0 yX0_choose wsX0_choose) := goodIn_app (goodIn_of _ (by decide +kernel)) ggX4_copy_X0_choose
theorem dX4_copy_0 : decode cX4_copy 0 = .ok (.iload_n 1, 1) := by decide +kernel
theorem dX4_copy_1 : decode cX4_copy 1 = .ok (.invokestatic 134, 3) := by decide +kernel
theorem dX4_copy_4 : decode cX4_copy 4 = .ok (.iload_n 2, 1) := by decide +kernel
theorem dX4_copy_5 : decode cX4_copy 5 = .ok (.invokestatic 75, 3) := by decide +kernel
theorem dX4_copy_8 : decode cX4_copy 8 = .ok (.aload_n 0, 1) := by decide +kernel
theorem dX4_copy_9 : decode cX4_copy 9 = .ok (.getfield 24, 3) := by decide +kernel
theorem dX4_copy_12 : decode cX4_copy 12 = .ok (.iload_n 1, 1) := by decide +kernel
theorem dX4_copy_13 : decode cX4_copy 13 = .ok (.aaload, 1) := by decide +kernel
theorem dX4_copy_14 : decode cX4_copy 14 = .ok (.astore_n 3, 1) := by decide +kernel
theorem dX4_copy_15 : decode cX4_copy 15 = .ok (.aload_n 3, 1) := by decide +kernel
theorem dX4_copy_16 : decode cX4_copy 16 = .ok (.getfield 147, 3) := by decide +kernel
theorem dX4_copy_19 : decode cX4_copy 19 = .ok (.astore 4, 2) := by decide +kernel
theorem dX4_copy_21 : decode cX4_copy 21 = .ok (.aload_n 3, 1) := by decide +kernel
theorem dX4_copy_22 : decode cX4_copy 22 = .ok (.getfield 137, 3) := by decide +kernel
theorem dX4_copy_25 : decode cX4_copy 25 = .ok (.iconst 1, 1) := by decide +kernel
theorem dX4_copy_26 : decode cX4_copy 26 = .ok (.if_icmp .ne 8, 3) := by decide +kernel
theorem dX4_copy_29 : decode cX4_copy 29 = .ok (.aload 4, 2) := by decide +kernel
theorem dX4_copy_31 : decode cX4_copy 31 = .ok (.ifnonnull 13, 3) := by decide +kernel
theorem dX4_copy_34 : decode cX4_copy 34 = .ok (.new 68, 3) := by decide +kernel
theorem dX4_copy_37 : decode cX4_copy 37 = .ok (.dup, 1) := by decide +kernel
theorem dX4_copy_38 : decode cX4_copy 38 = .ok (.ldc 151, 2) := by decide +kernel
theorem dX4_copy_40 : decode cX4_copy 40 = .ok (.invokespecial 72, 3) := by decide +kernel
theorem dX4_copy_43 : decode cX4_copy 43 = .ok (.athrow, 1) := by decide +kernel
theorem dX4_copy_44 : decode cX4_copy 44 = .ok (.aload_n 0, 1) := by decide +kernel
theorem dX4_copy_45 : decode cX4_copy 45 = .ok (.getfield 12, 3) := by decide +kernel
theorem dX4_copy_48 : decode cX4_copy 48 = .ok (.invokevirtual 90, 3) := by decide +kernel
theorem dX4_copy_51 : decode cX4_copy 51 = .ok (.ifCond .le 13, 3) := by decide +kernel
theorem dX4_copy_54 : decode cX4_copy 54 = .ok (.new 68, 3) := by decide +kernel
theorem dX4_copy_57 : decode cX4_copy 57 = .ok (.dup, 1) := by decide +kernel
theorem dX4_copy_58 : decode cX4_copy 58 = .ok (.ldc 153, 2) := by decide +kernel
theorem dX4_copy_60 : decode cX4_copy 60 = .ok (.invokespecial 72, 3) := by decide +kernel
theorem dX4_copy_63 : decode cX4_copy 63 = .ok (.athrow, 1) := by decide +kernel
theorem dX4_copy_64 : decode cX4_copy 64 = .ok (.iconst 0, 1) := by decide +kernel
theorem dX4_copy_65 : decode cX4_copy 65 = .ok (.istore 5, 2) := by decide +kernel
theorem dX4_copy_67 : decode cX4_copy 67 = .ok (.iconst 0, 1) := by decide +kernel
theorem dX4_copy_68 : decode cX4_copy 68 = .ok (.istore 6, 2) := by decide +kernel
theorem dX4_copy_70 : decode cX4_copy 70 = .ok (.iload 6, 2) := by decide +kernel
theorem dX4_copy_72 : decode cX4_copy 72 = .ok (.bipush 12, 2) := by decide +kernel
theorem dX4_copy_74 : decode cX4_copy 74 = .ok (.if_icmp .ge 53, 3) := by decide +kernel
theorem dX4_copy_77 : decode cX4_copy 77 = .ok (.iload_n 2, 1) := by decide +kernel
theorem dX4_copy_78 : decode cX4_copy 78 = .ok (.iload 6, 2) := by decide +kernel
theorem dX4_copy_80 : decode cX4_copy 80 = .ok (.invokestatic 56, 3) := by decide +kernel
theorem dX4_copy_83 : decode cX4_copy 83 = .ok (.istore 7, 2) := by decide +kernel
theorem dX4_copy_85 : decode cX4_copy 85 = .ok (.aload 4, 2) := by decide +kernel
theorem dX4_copy_87 : decode cX4_copy 87 = .ok (.iload_n 2, 1) := by decide +kernel
theorem dX4_copy_88 : decode cX4_copy 88 = .ok (.aload_n 0, 1) := by decide +kernel
theorem dX4_copy_89 : decode cX4_copy 89 = .ok (.getfield 12, 3) := by decide +kernel
theorem dX4_copy_92 : decode cX4_copy 92 = .ok (.getfield 52, 3) := by decide +kernel
theorem dX4_copy_95 : decode cX4_copy 95 = .ok (.iload 7, 2) := by decide +kernel
theorem dX4_copy_97 : decode cX4_copy 97 = .ok (.iaload, 1) := by decide +kernel
theorem dX4_copy_98 : decode cX4_copy 98 = .ok (.invokevirtual 155, 3) := by decide +kernel
theorem dX4_copy_101 : decode cX4_copy 101 = .ok (.istore 8, 2) := by decide +kernel
theorem dX4_copy_103 : decode cX4_copy 103 = .ok (.aload_n 3, 1) := by decide +kernel
theorem dX4_copy_104 : decode cX4_copy 104 = .ok (.getfield 158, 3) := by decide +kernel
theorem dX4_copy_107 : decode cX4_copy 107 = .ok (.iload 7, 2) := by decide +kernel
theorem dX4_copy_109 : decode cX4_copy 109 = .ok (.iload 8, 2) := by decide +kernel
theorem dX4_copy_111 : decode cX4_copy 111 = .ok (.iastore, 1) := by decide +kernel
theorem dX4_copy_112 : decode cX4_copy 112 = .ok (.iload 8, 2) := by decide +kernel
theorem dX4_copy_114 : decode cX4_copy 114 = .ok (.iconst (-1), 1) := by decide +kernel
theorem dX4_copy_115 : decode cX4_copy 115 = .ok (.if_icmp .eq 6, 3) := by decide +kernel
theorem dX4_copy_118 : decode cX4_copy 118 = .ok (.iinc 5 1, 3) := by decide +kernel
theorem dX4_copy_121 : decode cX4_copy 121 = .ok (.iinc 6 1, 3) := by decide +kernel
theorem dX4_copy_124 : decode cX4_copy 124 = .ok (.goto (-54), 3) := by decide +kernel
theorem dX4_copy_127 : decode cX4_copy 127 = .ok (.aload_n 3, 1) := by decide +kernel
theorem dX4_copy_128 : decode cX4_copy 128 = .ok (.getfield 159, 3) := by decide +kernel
theorem dX4_copy_131 : decode cX4_copy 131 = .ok (.iload_n 2, 1) := by decide +kernel
theorem dX4_copy_132 : decode cX4_copy 132 = .ok (.aload_n 0, 1) := by decide +kernel
theorem dX4_copy_133 : decode cX4_copy 133 = .ok (.getfield 12, 3) := by decide +kernel
theorem dX4_copy_136 : decode cX4_copy 136 = .ok (.getfield 78, 3) := by decide +kernel
theorem dX4_copy_139 : decode cX4_copy 139 = .ok (.iastore, 1) := by decide +kernel
theorem dX4_copy_140 : decode cX4_copy 140 = .ok (.iload 5, 2) := by decide +kernel
theorem dX4_copy_142 : decode cX4_copy 142 = .ok (.ireturn, 1) := by decide +kernel
set_option maxRecDepth 20000 in
theorem ggX4_receive_X4_checkSubscriber : GoodIn wsX4_receive wsX4_checkSubscriber := goodIn_ca (goodIn_r _ [11, 12, 13] (by decide +kernel) (by decide +kernel)) (goodIn_sub (fun _ h => List.mem_cons_of_mem _ (List.mem_append_right _ h)) (by decide +kernel))
set_option maxRecDepth 20000 in
theorem gX4_receive_X4_checkSubscriber : GoodIn wsX4_receive (va_wsS RX4 134 yX4_checkSubscriber wsX4_checkSubscriber) := goodIn_app (goodIn_of _ (by decide +kernel)) ggX4_receive_X4_checkSubscriber
set_option maxRecDepth 20000 in
theorem ggX4_receive_X3_applies : GoodIn wsX4_receive wsX3_applies := goodIn_r _ [18, 19, 20, 21, 22, 23, 24, 25, 26, 27, 28, 29, 30, 31, 32, 33, 17, 34, 35, 36, 37, 38, 39, 10, 40, 41, 42, 43, 44, 45, 46, 47, 48, 49, 50, 51, 52, 53, 54, 55, 68, 69, 70, 71, 72, 73, 74, 75, 76, 77, 78, 79, 80, 81, 82, 83, 84, 85] (by decide +kernel) (by decide +kernel)
set_option maxRecDepth 20000 in
theorem gX4_receive_X3_applies : GoodIn wsX4_receive (wsV RX4 167 RX3 yX3_applies wsX3_applies) := goodIn_app (goodIn_of _ (by decide +kernel)) ggX4_receive_X3_applies
set_option maxRecDepth 20000 in
theorem ggX4_receive_X2_accept : GoodIn wsX4_receive wsX2_accept := goodIn_r _ [59, 60, 61, 21, 22, 23, 62, 68, 69, 70, 71, 72] (by decide +kernel) (by decide +kernel)
set_option maxRecDepth 20000 in
theorem gX4_receive_X2_accept : GoodIn wsX4_receive (wsV RX4 172 RX2 yX2_accept wsX2_accept) := goodIn_app (goodIn_of _ (by decide +kernel)) ggX4_receive_X2_accept
theorem dX4_receive_0 : decode cX4_receive 0 = .ok (.iload_n 1, 1) := by decide +kernel
theorem dX4_receive_1 : decode cX4_receive 1 = .ok (.invokestatic 134, 3) := by decide +kernel
theorem dX4_receive_4 : decode cX4_receive 4 = .ok (.iload_n 2, 1) := by decide +kernel
theorem dX4_receive_5 : decode cX4_receive 5 = .ok (.iconst 1, 1) := by decide +kernel
theorem dX4_receive_6 : decode cX4_receive 6 = .ok (.if_icmp .lt 9, 3) := by decide +kernel
theorem dX4_receive_9 : decode cX4_receive 9 = .ok (.iload_n 2, 1) := by decide +kernel
theorem dX4_receive_10 : decode cX4_receive 10 = .ok (.bipush 50, 2) := by decide +kernel
theorem dX4_receive_12 : decode cX4_receive 12 = .ok (.if_icmp .le 13, 3) := by decide +kernel
theorem dX4_receive_15 : decode cX4_receive 15 = .ok (.new 102, 3) := by decide +kernel
theorem dX4_receive_18 : decode cX4_receive 18 = .ok (.dup, 1) := by decide +kernel
theorem dX4_receive_19 : decode cX4_receive 19 = .ok (.ldc 162, 2) := by decide +kernel
theorem dX4_receive_21 : decode cX4_receive 21 = .ok (.invokespecial 106, 3) := by decide +kernel
theorem dX4_receive_24 : decode cX4_receive 24 = .ok (.athrow, 1) := by decide +kernel
theorem dX4_receive_25 : decode cX4_receive 25 = .ok (.aload_n 0, 1) := by decide +kernel
theorem dX4_receive_26 : decode cX4_receive 26 = .ok (.getfield 24, 3) := by decide +kernel
theorem dX4_receive_29 : decode cX4_receive 29 = .ok (.iload_n 1, 1) := by decide +kernel
theorem dX4_receive_30 : decode cX4_receive 30 = .ok (.aaload, 1) := by decide +kernel
theorem dX4_receive_31 : decode cX4_receive 31 = .ok (.astore_n 3, 1) := by decide +kernel
theorem dX4_receive_32 : decode cX4_receive 32 = .ok (.aload_n 3, 1) := by decide +kernel
theorem dX4_receive_33 : decode cX4_receive 33 = .ok (.getfield 147, 3) := by decide +kernel
theorem dX4_receive_36 : decode cX4_receive 36 = .ok (.astore 4, 2) := by decide +kernel
theorem dX4_receive_38 : decode cX4_receive 38 = .ok (.aload_n 3, 1) := by decide +kernel
theorem dX4_receive_39 : decode cX4_receive 39 = .ok (.getfield 137, 3) := by decide +kernel
theorem dX4_receive_42 : decode cX4_receive 42 = .ok (.iconst 1, 1) := by decide +kernel
theorem dX4_receive_43 : decode cX4_receive 43 = .ok (.if_icmp .ne 8, 3) := by decide +kernel
theorem dX4_receive_46 : decode cX4_receive 46 = .ok (.aload 4, 2) := by decide +kernel
theorem dX4_receive_48 : decode cX4_receive 48 = .ok (.ifnonnull 13, 3) := by decide +kernel
theorem dX4_receive_51 : decode cX4_receive 51 = .ok (.new 68, 3) := by decide +kernel
theorem dX4_receive_54 : decode cX4_receive 54 = .ok (.dup, 1) := by decide +kernel
theorem dX4_receive_55 : decode cX4_receive 55 = .ok (.ldc 151, 2) := by decide +kernel
theorem dX4_receive_57 : decode cX4_receive 57 = .ok (.invokespecial 72, 3) := by decide +kernel
theorem dX4_receive_60 : decode cX4_receive 60 = .ok (.athrow, 1) := by decide +kernel
theorem dX4_receive_61 : decode cX4_receive 61 = .ok (.iconst 0, 1) := by decide +kernel
theorem dX4_receive_62 : decode cX4_receive 62 = .ok (.istore 5, 2) := by decide +kernel
theorem dX4_receive_64 : decode cX4_receive 64 = .ok (.iload 5, 2) := by decide +kernel
theorem dX4_receive_66 : decode cX4_receive 66 = .ok (.iload_n 2, 1) := by decide +kernel
theorem dX4_receive_67 : decode cX4_receive 67 = .ok (.if_icmp .ge 59, 3) := by decide +kernel
theorem dX4_receive_70 : decode cX4_receive 70 = .ok (.aload_n 3, 1) := by decide +kernel
theorem dX4_receive_71 : decode cX4_receive 71 = .ok (.getfield 164, 3) := by decide +kernel
theorem dX4_receive_74 : decode cX4_receive 74 = .ok (.aload_n 0, 1) := by decide +kernel
theorem dX4_receive_75 : decode cX4_receive 75 = .ok (.getfield 12, 3) := by decide +kernel
theorem dX4_receive_78 : decode cX4_receive 78 = .ok (.getfield 78, 3) := by decide +kernel
theorem dX4_receive_81 : decode cX4_receive 81 = .ok (.if_icmp .ge 45, 3) := by decide +kernel
theorem dX4_receive_84 : decode cX4_receive 84 = .ok (.aload_n 0, 1) := by decide +kernel
theorem dX4_receive_85 : decode cX4_receive 85 = .ok (.getfield 31, 3) := by decide +kernel
theorem dX4_receive_88 : decode cX4_receive 88 = .ok (.aload_n 0, 1) := by decide +kernel
theorem dX4_receive_89 : decode cX4_receive 89 = .ok (.getfield 12, 3) := by decide +kernel
theorem dX4_receive_92 : decode cX4_receive 92 = .ok (.aload 4, 2) := by decide +kernel
theorem dX4_receive_94 : decode cX4_receive 94 = .ok (.aload_n 3, 1) := by decide +kernel
theorem dX4_receive_95 : decode cX4_receive 95 = .ok (.invokevirtual 167, 3) := by decide +kernel
theorem dX4_receive_98 : decode cX4_receive 98 = .ok (.ifCond .ne 11, 3) := by decide +kernel
theorem dX4_receive_101 : decode cX4_receive 101 = .ok (.aload_n 3, 1) := by decide +kernel
theorem dX4_receive_102 : decode cX4_receive 102 = .ok (.iconst 2, 1) := by decide +kernel
theorem dX4_receive_103 : decode cX4_receive 103 = .ok (.putfield 137, 3) := by decide +kernel
theorem dX4_receive_106 : decode cX4_receive 106 = .ok (.iload 5, 2) := by decide +kernel
theorem dX4_receive_108 : decode cX4_receive 108 = .ok (.ireturn, 1) := by decide +kernel
theorem dX4_receive_109 : decode cX4_receive 109 = .ok (.aload_n 3, 1) := by decide +kernel
theorem dX4_receive_110 : decode cX4_receive 110 = .ok (.aload_n 0, 1) := by decide +kernel
theorem dX4_receive_111 : decode cX4_receive 111 = .ok (.getfield 31, 3) := by decide +kernel
theorem dX4_receive_114 : decode cX4_receive 114 = .ok (.getfield 171, 3) := by decide +kernel
theorem dX4_receive_117 : decode cX4_receive 117 = .ok (.invokevirtual 172, 3) := by decide +kernel
theorem dX4_receive_120 : decode cX4_receive 120 = .ok (.iinc 5 1, 3) := by decide +kernel
theorem dX4_receive_123 : decode cX4_receive 123 = .ok (.goto (-59), 3) := by decide +kernel
theorem dX4_receive_126 : decode cX4_receive 126 = .ok (.iload 5, 2) := by decide +kernel
theorem dX4_receive_128 : decode cX4_receive 128 = .ok (.ireturn, 1) := by decide +kernel
set_option maxRecDepth 20000 in
theorem ggX4_goOn_X4_checkSubscriber : GoodIn wsX4_goOn wsX4_checkSubscriber := goodIn_ca (goodIn_r _ [8, 9, 10] (by decide +kernel) (by decide +kernel)) (goodIn_sub (fun _ h => List.mem_cons_of_mem _ (List.mem_append_right _ h)) (by decide +kernel))
set_option maxRecDepth 20000 in
theorem gX4_goOn_X4_checkSubscriber : GoodIn wsX4_goOn (va_wsS RX4 134 yX4_checkSubscriber wsX4_checkSubscriber) := goodIn_app (goodIn_of _ (by decide +kernel)) ggX4_goOn_X4_checkSubscriber
theorem dX4_goOn_0 : decode cX4_goOn 0 = .ok (.iload_n 1, 1) := by decide +kernel
theorem dX4_goOn_1 : decode cX4_goOn 1 = .ok (.invokestatic 134, 3) := by decide +kernel
theorem dX4_goOn_4 : decode cX4_goOn 4 = .ok (.aload_n 0, 1) := by decide +kernel
theorem dX4_goOn_5 : decode cX4_goOn 5 = .ok (.getfield 24, 3) := by decide +kernel
theorem dX4_goOn_8 : decode cX4_goOn 8 = .ok (.iload_n 1, 1) := by decide +kernel
theorem dX4_goOn_9 : decode cX4_goOn 9 = .ok (.aaload, 1) := by decide +kernel
theorem dX4_goOn_10 : decode cX4_goOn 10 = .ok (.astore_n 3, 1) := by decide +kernel
theorem dX4_goOn_11 : decode cX4_goOn 11 = .ok (.aload_n 3, 1) := by decide +kernel
theorem dX4_goOn_12 : decode cX4_goOn 12 = .ok (.getfield 137, 3) := by decide +kernel
theorem dX4_goOn_15 : decode cX4_goOn 15 = .ok (.iconst 2, 1) := by decide +kernel
theorem dX4_goOn_16 : decode cX4_goOn 16 = .ok (.if_icmp .eq 13, 3) := by decide +kernel
theorem dX4_goOn_19 : decode cX4_goOn 19 = .ok (.new 68, 3) := by decide +kernel
theorem dX4_goOn_22 : decode cX4_goOn 22 = .ok (.dup, 1) := by decide +kernel
theorem dX4_goOn_23 : decode cX4_goOn 23 = .ok (.ldc 176, 2) := by decide +kernel
theorem dX4_goOn_25 : decode cX4_goOn 25 = .ok (.invokespecial 72, 3) := by decide +kernel
theorem dX4_goOn_28 : decode cX4_goOn 28 = .ok (.athrow, 1) := by decide +kernel
theorem dX4_goOn_29 : decode cX4_goOn 29 = .ok (.aload_n 3, 1) := by decide +kernel
theorem dX4_goOn_30 : decode cX4_goOn 30 = .ok (.iconst 1, 1) := by decide +kernel
theorem dX4_goOn_31 : decode cX4_goOn 31 = .ok (.putfield 137, 3) := by decide +kernel
theorem dX4_goOn_34 : decode cX4_goOn 34 = .ok (.iload_n 2, 1) := by decide +kernel
theorem dX4_goOn_35 : decode cX4_goOn 35 = .ok (.ifCond .eq 27, 3) := by decide +kernel
theorem dX4_goOn_38 : decode cX4_goOn 38 = .ok (.aload_n 3, 1) := by decide +kernel
theorem dX4_goOn_39 : decode cX4_goOn 39 = .ok (.getfield 164, 3) := by decide +kernel
theorem dX4_goOn_42 : decode cX4_goOn 42 = .ok (.aload_n 0, 1) := by decide +kernel
theorem dX4_goOn_43 : decode cX4_goOn 43 = .ok (.getfield 12, 3) := by decide +kernel
theorem dX4_goOn_46 : decode cX4_goOn 46 = .ok (.getfield 78, 3) := by decide +kernel
theorem dX4_goOn_49 : decode cX4_goOn 49 = .ok (.if_icmp .ge 13, 3) := by decide +kernel
theorem dX4_goOn_52 : decode cX4_goOn 52 = .ok (.aload_n 3, 1) := by decide +kernel
theorem dX4_goOn_53 : decode cX4_goOn 53 = .ok (.dup, 1) := by decide +kernel
theorem dX4_goOn_54 : decode cX4_goOn 54 = .ok (.getfield 164, 3) := by decide +kernel
theorem dX4_goOn_57 : decode cX4_goOn 57 = .ok (.iconst 1, 1) := by decide +kernel
theorem dX4_goOn_58 : decode cX4_goOn 58 = .ok (.iadd, 1) := by decide +kernel
theorem dX4_goOn_59 : decode cX4_goOn 59 = .ok (.putfield 164, 3) := by decide +kernel
theorem dX4_goOn_62 : decode cX4_goOn 62 = .ok (.aload_n 3, 1) := by decide +kernel
theorem dX4_goOn_63 : decode cX4_goOn 63 = .ok (.getfield 164, 3) := by decide +kernel
theorem dX4_goOn_66 : decode cX4_goOn 66 = .ok (.ireturn, 1) := by decide +kernel
set_option maxRecDepth 20000 in
theorem ggX4_own_X4_checkSubscriber : GoodIn wsX4_own wsX4_checkSubscriber := goodIn_ca (goodIn_r _ [5, 6, 7] (by decide +kernel) (by decide +kernel)) (goodIn_sub (fun _ h => List.mem_cons_of_mem _ (List.mem_append_left _ (List.mem_append_right _ h))) (by decide +kernel))
set_option maxRecDepth 20000 in
theorem gX4_own_X4_checkSubscriber : GoodIn wsX4_own (va_wsS RX4 134 yX4_checkSubscriber wsX4_checkSubscriber) := goodIn_app (goodIn_of _ (by decide +kernel)) ggX4_own_X4_checkSubscriber
set_option maxRecDepth 20000 in
theorem ggX4_own_X4_checkKey : GoodIn wsX4_own wsX4_checkKey := goodIn_ca (goodIn_r _ [10, 6, 7, 11, 12, 4, 13] (by decide +kernel) (by decide +kernel)) (goodIn_sub (fun _ h => List.mem_cons_of_mem _ (List.mem_append_left _ (List.mem_append_right _ h))) (by decide +kernel))
set_option maxRecDepth 20000 in
theorem gX4_own_X4_checkKey : GoodIn wsX4_own (va_wsS RX4 41 yX4_checkKey wsX4_checkKey) := goodIn_app (goodIn_of _ (by decide +kernel)) ggX4_own_X4_checkKey
set_option maxRecDepth 20000 in
theorem ggX4_own_X4_checkNumber : GoodIn wsX4_own wsX4_checkNumber := goodIn_ca (goodIn_r _ [16, 17, 18] (by decide +kernel) (by decide +kernel)) (goodIn_sub (fun _ h => List.mem_cons_of_mem _ (List.mem_append_right _ h)) (by decide +kernel))
set_option maxRecDepth 20000 in
theorem gX4_own_X4_checkNumber : GoodIn wsX4_own (va_wsS RX4 45 yX4_checkNumber wsX4_checkNumber) := goodIn_app (goodIn_of _ (by decide +kernel)) ggX4_own_X4_checkNumber
set_option maxRecDepth 20000 in
theorem ggX4_own_X4_placeOf : GoodIn wsX4_own wsX4_placeOf := goodIn_r _ [21] (by decide +kernel) (by decide +kernel)
set_option maxRecDepth 20000 in
theorem gX4_own_X4_placeOf : GoodIn wsX4_own (va_wsS RX4 56 yX4_placeOf wsX4_placeOf) := goodIn_app (goodIn_of _ (by decide +kernel)) ggX4_own_X4_placeOf
set_option maxRecDepth 20000 in
theorem ggX4_own_X4_rowOf : GoodIn wsX4_own wsX4_rowOf := goodIn_r _ [24] (by decide +kernel) (by decide +kernel)
set_option maxRecDepth 20000 in
theorem gX4_own_X4_rowOf : GoodIn wsX4_own (va_wsS RX4 60 yX4_rowOf wsX4_rowOf) := goodIn_app (goodIn_of _ (by decide +kernel)) ggX4_own_X4_rowOf
theorem dX4_own_0 : decode cX4_own 0 = .ok (.iload_n 1, 1) := by decide +kernel
theorem dX4_own_1 : decode cX4_own 1 = .ok (.invokestatic 134, 3) := by decide +kernel
theorem dX4_own_4 : decode cX4_own 4 = .ok (.iload_n 2, 1) := by decide +kernel
theorem dX4_own_5 : decode cX4_own 5 = .ok (.iload_n 3, 1) := by decide +kernel
theorem dX4_own_6 : decode cX4_own 6 = .ok (.invokestatic 41, 3) := by decide +kernel
theorem dX4_own_9 : decode cX4_own 9 = .ok (.iload 4, 2) := by decide +kernel
theorem dX4_own_11 : decode cX4_own 11 = .ok (.iconst (-1), 1) := by decide +kernel
theorem dX4_own_12 : decode cX4_own 12 = .ok (.if_icmp .eq 8, 3) := by decide +kernel
theorem dX4_own_15 : decode cX4_own 15 = .ok (.iload 4, 2) := by decide +kernel
theorem dX4_own_17 : decode cX4_own 17 = .ok (.invokestatic 45, 3) := by decide +kernel
theorem dX4_own_20 : decode cX4_own 20 = .ok (.aload_n 0, 1) := by decide +kernel
theorem dX4_own_21 : decode cX4_own 21 = .ok (.getfield 24, 3) := by decide +kernel
theorem dX4_own_24 : decode cX4_own 24 = .ok (.iload_n 1, 1) := by decide +kernel
theorem dX4_own_25 : decode cX4_own 25 = .ok (.aaload, 1) := by decide +kernel
theorem dX4_own_26 : decode cX4_own 26 = .ok (.getfield 158, 3) := by decide +kernel
theorem dX4_own_29 : decode cX4_own 29 = .ok (.astore 5, 2) := by decide +kernel
theorem dX4_own_31 : decode cX4_own 31 = .ok (.iload_n 2, 1) := by decide +kernel
theorem dX4_own_32 : decode cX4_own 32 = .ok (.iload_n 3, 1) := by decide +kernel
theorem dX4_own_33 : decode cX4_own 33 = .ok (.invokestatic 56, 3) := by decide +kernel
theorem dX4_own_36 : decode cX4_own 36 = .ok (.istore 6, 2) := by decide +kernel
theorem dX4_own_38 : decode cX4_own 38 = .ok (.aload 5, 2) := by decide +kernel
theorem dX4_own_40 : decode cX4_own 40 = .ok (.iload 6, 2) := by decide +kernel
theorem dX4_own_42 : decode cX4_own 42 = .ok (.iaload, 1) := by decide +kernel
theorem dX4_own_43 : decode cX4_own 43 = .ok (.iconst (-1), 1) := by decide +kernel
theorem dX4_own_44 : decode cX4_own 44 = .ok (.if_icmp .eq 7, 3) := by decide +kernel
theorem dX4_own_47 : decode cX4_own 47 = .ok (.iconst 1, 1) := by decide +kernel
theorem dX4_own_48 : decode cX4_own 48 = .ok (.goto 4, 3) := by decide +kernel
theorem dX4_own_51 : decode cX4_own 51 = .ok (.iconst 0, 1) := by decide +kernel
theorem dX4_own_52 : decode cX4_own 52 = .ok (.istore 7, 2) := by decide +kernel
theorem dX4_own_54 : decode cX4_own 54 = .ok (.aload 5, 2) := by decide +kernel
theorem dX4_own_56 : decode cX4_own 56 = .ok (.iload 6, 2) := by decide +kernel
theorem dX4_own_58 : decode cX4_own 58 = .ok (.iload 4, 2) := by decide +kernel
theorem dX4_own_60 : decode cX4_own 60 = .ok (.iconst (-1), 1) := by decide +kernel
theorem dX4_own_61 : decode cX4_own 61 = .ok (.if_icmp .ne 7, 3) := by decide +kernel
theorem dX4_own_64 : decode cX4_own 64 = .ok (.iconst (-1), 1) := by decide +kernel
theorem dX4_own_65 : decode cX4_own 65 = .ok (.goto 12, 3) := by decide +kernel
theorem dX4_own_68 : decode cX4_own 68 = .ok (.iload 4, 2) := by decide +kernel
theorem dX4_own_70 : decode cX4_own 70 = .ok (.iload 4, 2) := by decide +kernel
theorem dX4_own_72 : decode cX4_own 72 = .ok (.iload 4, 2) := by decide +kernel
theorem dX4_own_74 : decode cX4_own 74 = .ok (.invokestatic 60, 3) := by decide +kernel
theorem dX4_own_77 : decode cX4_own 77 = .ok (.iastore, 1) := by decide +kernel
theorem dX4_own_78 : decode cX4_own 78 = .ok (.iload 7, 2) := by decide +kernel
theorem dX4_own_80 : decode cX4_own 80 = .ok (.ireturn, 1) := by decide +kernel
set_option maxRecDepth 20000 in
theorem ggX4_state_X4_checkSubscriber : GoodIn wsX4_state wsX4_checkSubscriber := goodIn_ca (goodIn_r _ [5, 6, 7] (by decide +kernel) (by decide +kernel)) (goodIn_sub (fun _ h => List.mem_cons_of_mem _ (List.mem_append_right _ h)) (by decide +kernel))
set_option maxRecDepth 20000 in
theorem gX4_state_X4_checkSubscriber : GoodIn wsX4_state (va_wsS RX4 134 yX4_checkSubscriber wsX4_checkSubscriber) := goodIn_app (goodIn_of _ (by decide +kernel)) ggX4_state_X4_checkSubscriber
theorem dX4_state_0 : decode cX4_state 0 = .ok (.iload_n 1, 1) := by decide +kernel
theorem dX4_state_1 : decode cX4_state 1 = .ok (.invokestatic 134, 3) := by decide +kernel
theorem dX4_state_4 : decode cX4_state 4 = .ok (.aload_n 0, 1) := by decide +kernel
theorem dX4_state_5 : decode cX4_state 5 = .ok (.getfield 24, 3) := by decide +kernel
theorem dX4_state_8 : decode cX4_state 8 = .ok (.iload_n 1, 1) := by decide +kernel
theorem dX4_state_9 : decode cX4_state 9 = .ok (.aaload, 1) := by decide +kernel
theorem dX4_state_10 : decode cX4_state 10 = .ok (.getfield 137, 3) := by decide +kernel
theorem dX4_state_13 : decode cX4_state 13 = .ok (.ireturn, 1) := by decide +kernel
set_option maxRecDepth 20000 in
theorem ggX4_lag_X4_checkSubscriber : GoodIn wsX4_lag wsX4_checkSubscriber := goodIn_ca (goodIn_r _ [6, 7, 8] (by decide +kernel) (by decide +kernel)) (goodIn_sub (fun _ h => List.mem_cons_of_mem _ (List.mem_append_right _ h)) (by decide +kernel))
set_option maxRecDepth 20000 in
theorem gX4_lag_X4_checkSubscriber : GoodIn wsX4_lag (va_wsS RX4 134 yX4_checkSubscriber wsX4_checkSubscriber) := goodIn_app (goodIn_of _ (by decide +kernel)) ggX4_lag_X4_checkSubscriber
set_option maxRecDepth 20000 in
theorem ggX4_lag_X2_commitsBehind : GoodIn wsX4_lag wsX2_commitsBehind := goodIn_r _ [13, 14, 15, 16, 17, 12, 18, 19, 32, 33, 34, 35, 36] (by decide +kernel) (by decide +kernel)
set_option maxRecDepth 20000 in
theorem gX4_lag_X2_commitsBehind : GoodIn wsX4_lag (wsV RX4 178 RX2 yX2_commitsBehind wsX2_commitsBehind) := goodIn_app (goodIn_of _ (by decide +kernel)) ggX4_lag_X2_commitsBehind
theorem dX4_lag_0 : decode cX4_lag 0 = .ok (.iload_n 1, 1) := by decide +kernel
theorem dX4_lag_1 : decode cX4_lag 1 = .ok (.invokestatic 134, 3) := by decide +kernel
theorem dX4_lag_4 : decode cX4_lag 4 = .ok (.aload_n 0, 1) := by decide +kernel
theorem dX4_lag_5 : decode cX4_lag 5 = .ok (.getfield 24, 3) := by decide +kernel
theorem dX4_lag_8 : decode cX4_lag 8 = .ok (.iload_n 1, 1) := by decide +kernel
theorem dX4_lag_9 : decode cX4_lag 9 = .ok (.aaload, 1) := by decide +kernel
theorem dX4_lag_10 : decode cX4_lag 10 = .ok (.aload_n 0, 1) := by decide +kernel
theorem dX4_lag_11 : decode cX4_lag 11 = .ok (.getfield 12, 3) := by decide +kernel
theorem dX4_lag_14 : decode cX4_lag 14 = .ok (.getfield 78, 3) := by decide +kernel
theorem dX4_lag_17 : decode cX4_lag 17 = .ok (.invokevirtual 178, 3) := by decide +kernel
theorem dX4_lag_20 : decode cX4_lag 20 = .ok (.ireturn, 1) := by decide +kernel
set_option maxRecDepth 20000 in
theorem ggX4_copiedAt_X4_checkSubscriber : GoodIn wsX4_copiedAt wsX4_checkSubscriber := goodIn_ca (goodIn_r _ [5, 6, 7] (by decide +kernel) (by decide +kernel)) (goodIn_sub (fun _ h => List.mem_cons_of_mem _ (List.mem_append_right _ h)) (by decide +kernel))
set_option maxRecDepth 20000 in
theorem gX4_copiedAt_X4_checkSubscriber : GoodIn wsX4_copiedAt (va_wsS RX4 134 yX4_checkSubscriber wsX4_checkSubscriber) := goodIn_app (goodIn_of _ (by decide +kernel)) ggX4_copiedAt_X4_checkSubscriber
set_option maxRecDepth 20000 in
theorem ggX4_copiedAt_X4_checkTable : GoodIn wsX4_copiedAt wsX4_checkTable := goodIn_ca (goodIn_r _ [10, 6, 7] (by decide +kernel) (by decide +kernel)) (goodIn_sub (fun _ h => List.mem_cons_of_mem _ (List.mem_append_right _ h)) (by decide +kernel))
set_option maxRecDepth 20000 in
theorem gX4_copiedAt_X4_checkTable : GoodIn wsX4_copiedAt (va_wsS RX4 75 yX4_checkTable wsX4_checkTable) := goodIn_app (goodIn_of _ (by decide +kernel)) ggX4_copiedAt_X4_checkTable
theorem dX4_copiedAt_0 : decode cX4_copiedAt 0 = .ok (.iload_n 1, 1) := by decide +kernel
theorem dX4_copiedAt_1 : decode cX4_copiedAt 1 = .ok (.invokestatic 134, 3) := by decide +kernel
theorem dX4_copiedAt_4 : decode cX4_copiedAt 4 = .ok (.iload_n 2, 1) := by decide +kernel
theorem dX4_copiedAt_5 : decode cX4_copiedAt 5 = .ok (.invokestatic 75, 3) := by decide +kernel
theorem dX4_copiedAt_8 : decode cX4_copiedAt 8 = .ok (.aload_n 0, 1) := by decide +kernel
theorem dX4_copiedAt_9 : decode cX4_copiedAt 9 = .ok (.getfield 24, 3) := by decide +kernel
theorem dX4_copiedAt_12 : decode cX4_copiedAt 12 = .ok (.iload_n 1, 1) := by decide +kernel
theorem dX4_copiedAt_13 : decode cX4_copiedAt 13 = .ok (.aaload, 1) := by decide +kernel
theorem dX4_copiedAt_14 : decode cX4_copiedAt 14 = .ok (.getfield 159, 3) := by decide +kernel
theorem dX4_copiedAt_17 : decode cX4_copiedAt 17 = .ok (.iload_n 2, 1) := by decide +kernel
theorem dX4_copiedAt_18 : decode cX4_copiedAt 18 = .ok (.iaload, 1) := by decide +kernel
theorem dX4_copiedAt_19 : decode cX4_copiedAt 19 = .ok (.ireturn, 1) := by decide +kernel
set_option maxRecDepth 20000 in
theorem ggX4_seen_X4_checkSubscriber : GoodIn wsX4_seen wsX4_checkSubscriber := goodIn_ca (goodIn_r _ [5, 6, 7] (by decide +kernel) (by decide +kernel)) (goodIn_sub (fun _ h => List.mem_cons_of_mem _ (List.mem_append_right _ h)) (by decide +kernel))
set_option maxRecDepth 20000 in
theorem gX4_seen_X4_checkSubscriber : GoodIn wsX4_seen (va_wsS RX4 134 yX4_checkSubscriber wsX4_checkSubscriber) := goodIn_app (goodIn_of _ (by decide +kernel)) ggX4_seen_X4_checkSubscriber
set_option maxRecDepth 20000 in
theorem ggX4_seen_X4_checkKey : GoodIn wsX4_seen wsX4_checkKey := goodIn_ca (goodIn_r _ [10, 6, 7, 11, 12, 4, 13] (by decide +kernel) (by decide +kernel)) (goodIn_sub (fun _ h => List.mem_cons_of_mem _ (List.mem_append_right _ h)) (by decide +kernel))
set_option maxRecDepth 20000 in
theorem gX4_seen_X4_checkKey : GoodIn wsX4_seen (va_wsS RX4 41 yX4_checkKey wsX4_checkKey) := goodIn_app (goodIn_of _ (by decide +kernel)) ggX4_seen_X4_checkKey
set_option maxRecDepth 20000 in
theorem ggX4_seen_X4_checkColumn : GoodIn wsX4_seen wsX4_checkColumn := goodIn_ca (goodIn_r _ [16, 6, 7] (by decide +kernel) (by decide +kernel)) (goodIn_sub (fun _ h => List.mem_cons_of_mem _ (List.mem_append_right _ h)) (by decide +kernel))
set_option maxRecDepth 20000 in
theorem gX4_seen_X4_checkColumn : GoodIn wsX4_seen (va_wsS RX4 96 yX4_checkColumn wsX4_checkColumn) := goodIn_app (goodIn_of _ (by decide +kernel)) ggX4_seen_X4_checkColumn
set_option maxRecDepth 20000 in
theorem ggX4_seen_X4_placeOf : GoodIn wsX4_seen wsX4_placeOf := goodIn_r _ [19] (by decide +kernel) (by decide +kernel)
set_option maxRecDepth 20000 in
theorem gX4_seen_X4_placeOf : GoodIn wsX4_seen (va_wsS RX4 56 yX4_placeOf wsX4_placeOf) := goodIn_app (goodIn_of _ (by decide +kernel)) ggX4_seen_X4_placeOf
set_option maxRecDepth 20000 in
theorem ggX4_seen_X4_numberIn : GoodIn wsX4_seen wsX4_numberIn := goodIn_r _ [22] (by decide +kernel) (by decide +kernel)
set_option maxRecDepth 20000 in
theorem gX4_seen_X4_numberIn : GoodIn wsX4_seen (va_wsS RX4 99 yX4_numberIn wsX4_numberIn) := goodIn_app (goodIn_of _ (by decide +kernel)) ggX4_seen_X4_numberIn
theorem dX4_seen_0 : decode cX4_seen 0 = .ok (.iload_n 1, 1) := by decide +kernel
theorem dX4_seen_1 : decode cX4_seen 1 = .ok (.invokestatic 134, 3) := by decide +kernel
theorem dX4_seen_4 : decode cX4_seen 4 = .ok (.iload_n 2, 1) := by decide +kernel
theorem dX4_seen_5 : decode cX4_seen 5 = .ok (.iload_n 3, 1) := by decide +kernel
theorem dX4_seen_6 : decode cX4_seen 6 = .ok (.invokestatic 41, 3) := by decide +kernel
theorem dX4_seen_9 : decode cX4_seen 9 = .ok (.iload 4, 2) := by decide +kernel
theorem dX4_seen_11 : decode cX4_seen 11 = .ok (.invokestatic 96, 3) := by decide +kernel
theorem dX4_seen_14 : decode cX4_seen 14 = .ok (.aload_n 0, 1) := by decide +kernel
theorem dX4_seen_15 : decode cX4_seen 15 = .ok (.getfield 24, 3) := by decide +kernel
theorem dX4_seen_18 : decode cX4_seen 18 = .ok (.iload_n 1, 1) := by decide +kernel
theorem dX4_seen_19 : decode cX4_seen 19 = .ok (.aaload, 1) := by decide +kernel
theorem dX4_seen_20 : decode cX4_seen 20 = .ok (.getfield 158, 3) := by decide +kernel
theorem dX4_seen_23 : decode cX4_seen 23 = .ok (.iload_n 2, 1) := by decide +kernel
theorem dX4_seen_24 : decode cX4_seen 24 = .ok (.iload_n 3, 1) := by decide +kernel
theorem dX4_seen_25 : decode cX4_seen 25 = .ok (.invokestatic 56, 3) := by decide +kernel
theorem dX4_seen_28 : decode cX4_seen 28 = .ok (.iaload, 1) := by decide +kernel
theorem dX4_seen_29 : decode cX4_seen 29 = .ok (.iload 4, 2) := by decide +kernel
theorem dX4_seen_31 : decode cX4_seen 31 = .ok (.invokestatic 99, 3) := by decide +kernel
theorem dX4_seen_34 : decode cX4_seen 34 = .ok (.ireturn, 1) := by decide +kernel
set_option maxRecDepth 20000 in
theorem ggX4_isFaithful_X4_checkSubscriber : GoodIn wsX4_isFaithful wsX4_checkSubscriber := goodIn_ca (goodIn_r _ [12, 13, 14] (by decide +kernel) (by decide +kernel)) (goodIn_sub (fun _ h => List.mem_cons_of_mem _ (List.mem_append_right _ h)) (by decide +kernel))
set_option maxRecDepth 20000 in
theorem gX4_isFaithful_X4_checkSubscriber : GoodIn wsX4_isFaithful (va_wsS RX4 134 yX4_checkSubscriber wsX4_checkSubscriber) := goodIn_app (goodIn_of _ (by decide +kernel)) ggX4_isFaithful_X4_checkSubscriber
set_option maxRecDepth 20000 in
theorem ggX4_isFaithful_X4_checkTable : GoodIn wsX4_isFaithful wsX4_checkTable := goodIn_ca (goodIn_r _ [17, 13, 14] (by decide +kernel) (by decide +kernel)) (goodIn_sub (fun _ h => List.mem_cons_of_mem _ (List.mem_append_right _ h)) (by decide +kernel))
set_option maxRecDepth 20000 in
theorem gX4_isFaithful_X4_checkTable : GoodIn wsX4_isFaithful (va_wsS RX4 75 yX4_checkTable wsX4_checkTable) := goodIn_app (goodIn_of _ (by decide +kernel)) ggX4_isFaithful_X4_checkTable
set_option maxRecDepth 20000 in
theorem ggX4_isFaithful_X2_holdsLog : GoodIn wsX4_isFaithful wsX2_holdsLog := goodIn_r _ [22, 23, 53, 54, 55, 56, 57] (by decide +kernel) (by decide +kernel)
set_option maxRecDepth 20000 in
theorem gX4_isFaithful_X2_holdsLog : GoodIn wsX4_isFaithful (wsV RX4 181 RX2 yX2_holdsLog wsX2_holdsLog) := goodIn_app (goodIn_of _ (by decide +kernel)) ggX4_isFaithful_X2_holdsLog
set_option maxRecDepth 20000 in
theorem ggX4_isFaithful_X4_placeOf : GoodIn wsX4_isFaithful wsX4_placeOf := goodIn_r _ [26] (by decide +kernel) (by decide +kernel)
set_option maxRecDepth 20000 in
theorem gX4_isFaithful_X4_placeOf : GoodIn wsX4_isFaithful (va_wsS RX4 56 yX4_placeOf wsX4_placeOf) := goodIn_app (goodIn_of _ (by decide +kernel)) ggX4_isFaithful_X4_placeOf
set_option maxRecDepth 20000 in
theorem ggX4_isFaithful_X1_rowAsOf : GoodIn wsX4_isFaithful wsX1_rowAsOf := goodIn_r _ [31, 32, 58, 59, 60, 61, 62, 63, 64] (by decide +kernel) (by decide +kernel)
set_option maxRecDepth 20000 in
theorem gX4_isFaithful_X1_rowAsOf : GoodIn wsX4_isFaithful (wsV RX4 194 RX1 yX1_rowAsOf wsX1_rowAsOf) := goodIn_app (goodIn_of _ (by decide +kernel)) ggX4_isFaithful_X1_rowAsOf
set_option maxRecDepth 20000 in
theorem ggX4_isFaithful_X0_choose : GoodIn wsX4_isFaithful wsX0_choose := goodIn_r _ [37, 38, 39, 40, 11, 41, 42, 43, 44, 36, 45, 46, 47, 65, 66, 67, 68] (by decide +kernel) (by decide +kernel)
set_option maxRecDepth 20000 in
theorem gX4_isFaithful_X0_choose : GoodIn wsX4_isFaithful (wsV RX4 155 RX0 yX0_choose wsX0_choose) := goodIn_app (goodIn_of _ (by decide +kernel)) ggX4_isFaithful_X0_choose
theorem dX4_isFaithful_0 : decode cX4_isFaithful 0 = .ok (.iload_n 1, 1) := by decide +kernel
theorem dX4_isFaithful_1 : decode cX4_isFaithful 1 = .ok (.invokestatic 134, 3) := by decide +kernel
theorem dX4_isFaithful_4 : decode cX4_isFaithful 4 = .ok (.iload_n 2, 1) := by decide +kernel
theorem dX4_isFaithful_5 : decode cX4_isFaithful 5 = .ok (.invokestatic 75, 3) := by decide +kernel
theorem dX4_isFaithful_8 : decode cX4_isFaithful 8 = .ok (.aload_n 0, 1) := by decide +kernel
theorem dX4_isFaithful_9 : decode cX4_isFaithful 9 = .ok (.getfield 24, 3) := by decide +kernel
theorem dX4_isFaithful_12 : decode cX4_isFaithful 12 = .ok (.iload_n 1, 1) := by decide +kernel
theorem dX4_isFaithful_13 : decode cX4_isFaithful 13 = .ok (.aaload, 1) := by decide +kernel
theorem dX4_isFaithful_14 : decode cX4_isFaithful 14 = .ok (.astore_n 3, 1) := by decide +kernel
theorem dX4_isFaithful_15 : decode cX4_isFaithful 15 = .ok (.aload_n 3, 1) := by decide +kernel
theorem dX4_isFaithful_16 : decode cX4_isFaithful 16 = .ok (.getfield 147, 3) := by decide +kernel
theorem dX4_isFaithful_19 : decode cX4_isFaithful 19 = .ok (.astore 4, 2) := by decide +kernel
theorem dX4_isFaithful_21 : decode cX4_isFaithful 21 = .ok (.aload_n 3, 1) := by decide +kernel
theorem dX4_isFaithful_22 : decode cX4_isFaithful 22 = .ok (.invokevirtual 181, 3) := by decide +kernel
theorem dX4_isFaithful_25 : decode cX4_isFaithful 25 = .ok (.ifCond .eq 8, 3) := by decide +kernel
theorem dX4_isFaithful_28 : decode cX4_isFaithful 28 = .ok (.aload 4, 2) := by decide +kernel
theorem dX4_isFaithful_30 : decode cX4_isFaithful 30 = .ok (.ifnonnull 13, 3) := by decide +kernel
theorem dX4_isFaithful_33 : decode cX4_isFaithful 33 = .ok (.new 68, 3) := by decide +kernel
theorem dX4_isFaithful_36 : decode cX4_isFaithful 36 = .ok (.dup, 1) := by decide +kernel
theorem dX4_isFaithful_37 : decode cX4_isFaithful 37 = .ok (.ldc 185, 2) := by decide +kernel
theorem dX4_isFaithful_39 : decode cX4_isFaithful 39 = .ok (.invokespecial 72, 3) := by decide +kernel
theorem dX4_isFaithful_42 : decode cX4_isFaithful 42 = .ok (.athrow, 1) := by decide +kernel
theorem dX4_isFaithful_43 : decode cX4_isFaithful 43 = .ok (.aload_n 3, 1) := by decide +kernel
theorem dX4_isFaithful_44 : decode cX4_isFaithful 44 = .ok (.getfield 159, 3) := by decide +kernel
theorem dX4_isFaithful_47 : decode cX4_isFaithful 47 = .ok (.iload_n 2, 1) := by decide +kernel
theorem dX4_isFaithful_48 : decode cX4_isFaithful 48 = .ok (.iaload, 1) := by decide +kernel
theorem dX4_isFaithful_49 : decode cX4_isFaithful 49 = .ok (.iconst (-1), 1) := by decide +kernel
theorem dX4_isFaithful_50 : decode cX4_isFaithful 50 = .ok (.if_icmp .ne 13, 3) := by decide +kernel
theorem dX4_isFaithful_53 : decode cX4_isFaithful 53 = .ok (.new 68, 3) := by decide +kernel
theorem dX4_isFaithful_56 : decode cX4_isFaithful 56 = .ok (.dup, 1) := by decide +kernel
theorem dX4_isFaithful_57 : decode cX4_isFaithful 57 = .ok (.ldc 187, 2) := by decide +kernel
theorem dX4_isFaithful_59 : decode cX4_isFaithful 59 = .ok (.invokespecial 72, 3) := by decide +kernel
theorem dX4_isFaithful_62 : decode cX4_isFaithful 62 = .ok (.athrow, 1) := by decide +kernel
theorem dX4_isFaithful_63 : decode cX4_isFaithful 63 = .ok (.aload_n 3, 1) := by decide +kernel
theorem dX4_isFaithful_64 : decode cX4_isFaithful 64 = .ok (.getfield 164, 3) := by decide +kernel
theorem dX4_isFaithful_67 : decode cX4_isFaithful 67 = .ok (.aload_n 3, 1) := by decide +kernel
theorem dX4_isFaithful_68 : decode cX4_isFaithful 68 = .ok (.getfield 159, 3) := by decide +kernel
theorem dX4_isFaithful_71 : decode cX4_isFaithful 71 = .ok (.iload_n 2, 1) := by decide +kernel
theorem dX4_isFaithful_72 : decode cX4_isFaithful 72 = .ok (.iaload, 1) := by decide +kernel
theorem dX4_isFaithful_73 : decode cX4_isFaithful 73 = .ok (.invokestatic 189, 3) := by decide +kernel
theorem dX4_isFaithful_76 : decode cX4_isFaithful 76 = .ok (.istore 5, 2) := by decide +kernel
theorem dX4_isFaithful_78 : decode cX4_isFaithful 78 = .ok (.iconst 0, 1) := by decide +kernel
theorem dX4_isFaithful_79 : decode cX4_isFaithful 79 = .ok (.istore 6, 2) := by decide +kernel
theorem dX4_isFaithful_81 : decode cX4_isFaithful 81 = .ok (.iload 6, 2) := by decide +kernel
theorem dX4_isFaithful_83 : decode cX4_isFaithful 83 = .ok (.bipush 12, 2) := by decide +kernel
theorem dX4_isFaithful_85 : decode cX4_isFaithful 85 = .ok (.if_icmp .ge 50, 3) := by decide +kernel
theorem dX4_isFaithful_88 : decode cX4_isFaithful 88 = .ok (.iload_n 2, 1) := by decide +kernel
theorem dX4_isFaithful_89 : decode cX4_isFaithful 89 = .ok (.iload 6, 2) := by decide +kernel
theorem dX4_isFaithful_91 : decode cX4_isFaithful 91 = .ok (.invokestatic 56, 3) := by decide +kernel
theorem dX4_isFaithful_94 : decode cX4_isFaithful 94 = .ok (.istore 7, 2) := by decide +kernel
theorem dX4_isFaithful_96 : decode cX4_isFaithful 96 = .ok (.aload 4, 2) := by decide +kernel
theorem dX4_isFaithful_98 : decode cX4_isFaithful 98 = .ok (.iload_n 2, 1) := by decide +kernel
theorem dX4_isFaithful_99 : decode cX4_isFaithful 99 = .ok (.aload_n 0, 1) := by decide +kernel
theorem dX4_isFaithful_100 : decode cX4_isFaithful 100 = .ok (.getfield 12, 3) := by decide +kernel
theorem dX4_isFaithful_103 : decode cX4_isFaithful 103 = .ok (.iload 5, 2) := by decide +kernel
theorem dX4_isFaithful_105 : decode cX4_isFaithful 105 = .ok (.iload 7, 2) := by decide +kernel
theorem dX4_isFaithful_107 : decode cX4_isFaithful 107 = .ok (.invokevirtual 194, 3) := by decide +kernel
theorem dX4_isFaithful_110 : decode cX4_isFaithful 110 = .ok (.invokevirtual 155, 3) := by decide +kernel
theorem dX4_isFaithful_113 : decode cX4_isFaithful 113 = .ok (.istore 8, 2) := by decide +kernel
theorem dX4_isFaithful_115 : decode cX4_isFaithful 115 = .ok (.aload_n 3, 1) := by decide +kernel
theorem dX4_isFaithful_116 : decode cX4_isFaithful 116 = .ok (.getfield 158, 3) := by decide +kernel
theorem dX4_isFaithful_119 : decode cX4_isFaithful 119 = .ok (.iload 7, 2) := by decide +kernel
theorem dX4_isFaithful_121 : decode cX4_isFaithful 121 = .ok (.iaload, 1) := by decide +kernel
theorem dX4_isFaithful_122 : decode cX4_isFaithful 122 = .ok (.iload 8, 2) := by decide +kernel
theorem dX4_isFaithful_124 : decode cX4_isFaithful 124 = .ok (.if_icmp .eq 5, 3) := by decide +kernel
theorem dX4_isFaithful_127 : decode cX4_isFaithful 127 = .ok (.iconst 0, 1) := by decide +kernel
theorem dX4_isFaithful_128 : decode cX4_isFaithful 128 = .ok (.ireturn, 1) := by decide +kernel
theorem dX4_isFaithful_129 : decode cX4_isFaithful 129 = .ok (.iinc 6 1, 3) := by decide +kernel
theorem dX4_isFaithful_132 : decode cX4_isFaithful 132 = .ok (.goto (-51), 3) := by decide +kernel
theorem dX4_isFaithful_135 : decode cX4_isFaithful 135 = .ok (.iconst 1, 1) := by decide +kernel
theorem dX4_isFaithful_136 : decode cX4_isFaithful 136 = .ok (.ireturn, 1) := by decide +kernel
set_option maxRecDepth 20000 in
theorem ggX4_cutLaggards_X2_commitsBehind : GoodIn wsX4_cutLaggards wsX2_commitsBehind := goodIn_r _ [8, 9, 10, 11, 12, 7, 13, 14, 27, 28, 29, 30, 31] (by decide +kernel) (by decide +kernel)
set_option maxRecDepth 20000 in
theorem gX4_cutLaggards_X2_commitsBehind : GoodIn wsX4_cutLaggards (wsV RX4 178 RX2 yX2_commitsBehind wsX2_commitsBehind) := goodIn_app (goodIn_of _ (by decide +kernel)) ggX4_cutLaggards_X2_commitsBehind
theorem dX4_cutLaggards_0 : decode cX4_cutLaggards 0 = .ok (.iconst 0, 1) := by decide +kernel
theorem dX4_cutLaggards_1 : decode cX4_cutLaggards 1 = .ok (.istore_n 1, 1) := by decide +kernel
theorem dX4_cutLaggards_2 : decode cX4_cutLaggards 2 = .ok (.iconst 0, 1) := by decide +kernel
theorem dX4_cutLaggards_3 : decode cX4_cutLaggards 3 = .ok (.istore_n 2, 1) := by decide +kernel
theorem dX4_cutLaggards_4 : decode cX4_cutLaggards 4 = .ok (.iload_n 2, 1) := by decide +kernel
theorem dX4_cutLaggards_5 : decode cX4_cutLaggards 5 = .ok (.iconst 3, 1) := by decide +kernel
theorem dX4_cutLaggards_6 : decode cX4_cutLaggards 6 = .ok (.if_icmp .ge 45, 3) := by decide +kernel
theorem dX4_cutLaggards_9 : decode cX4_cutLaggards 9 = .ok (.aload_n 0, 1) := by decide +kernel
theorem dX4_cutLaggards_10 : decode cX4_cutLaggards 10 = .ok (.getfield 24, 3) := by decide +kernel
theorem dX4_cutLaggards_13 : decode cX4_cutLaggards 13 = .ok (.iload_n 2, 1) := by decide +kernel
theorem dX4_cutLaggards_14 : decode cX4_cutLaggards 14 = .ok (.aaload, 1) := by decide +kernel
theorem dX4_cutLaggards_15 : decode cX4_cutLaggards 15 = .ok (.aload_n 0, 1) := by decide +kernel
theorem dX4_cutLaggards_16 : decode cX4_cutLaggards 16 = .ok (.getfield 12, 3) := by decide +kernel
theorem dX4_cutLaggards_19 : decode cX4_cutLaggards 19 = .ok (.getfield 78, 3) := by decide +kernel
theorem dX4_cutLaggards_22 : decode cX4_cutLaggards 22 = .ok (.invokevirtual 178, 3) := by decide +kernel
theorem dX4_cutLaggards_25 : decode cX4_cutLaggards 25 = .ok (.aload_n 0, 1) := by decide +kernel
theorem dX4_cutLaggards_26 : decode cX4_cutLaggards 26 = .ok (.getfield 35, 3) := by decide +kernel
theorem dX4_cutLaggards_29 : decode cX4_cutLaggards 29 = .ok (.if_icmp .le 16, 3) := by decide +kernel
theorem dX4_cutLaggards_32 : decode cX4_cutLaggards 32 = .ok (.aload_n 0, 1) := by decide +kernel
theorem dX4_cutLaggards_33 : decode cX4_cutLaggards 33 = .ok (.getfield 24, 3) := by decide +kernel
theorem dX4_cutLaggards_36 : decode cX4_cutLaggards 36 = .ok (.iload_n 2, 1) := by decide +kernel
theorem dX4_cutLaggards_37 : decode cX4_cutLaggards 37 = .ok (.aaload, 1) := by decide +kernel
theorem dX4_cutLaggards_38 : decode cX4_cutLaggards 38 = .ok (.iconst 3, 1) := by decide +kernel
theorem dX4_cutLaggards_39 : decode cX4_cutLaggards 39 = .ok (.putfield 137, 3) := by decide +kernel
theorem dX4_cutLaggards_42 : decode cX4_cutLaggards 42 = .ok (.iinc 1 1, 3) := by decide +kernel
theorem dX4_cutLaggards_45 : decode cX4_cutLaggards 45 = .ok (.iinc 2 1, 3) := by decide +kernel
theorem dX4_cutLaggards_48 : decode cX4_cutLaggards 48 = .ok (.goto (-44), 3) := by decide +kernel
theorem dX4_cutLaggards_51 : decode cX4_cutLaggards 51 = .ok (.iload_n 1, 1) := by decide +kernel
theorem dX4_cutLaggards_52 : decode cX4_cutLaggards 52 = .ok (.ireturn, 1) := by decide +kernel
theorem dX4_forgetCopies_0 : decode cX4_forgetCopies 0 = .ok (.iconst 0, 1) := by decide +kernel
theorem dX4_forgetCopies_1 : decode cX4_forgetCopies 1 = .ok (.istore_n 3, 1) := by decide +kernel
theorem dX4_forgetCopies_2 : decode cX4_forgetCopies 2 = .ok (.iconst 0, 1) := by decide +kernel
theorem dX4_forgetCopies_3 : decode cX4_forgetCopies 3 = .ok (.istore 4, 2) := by decide +kernel
theorem dX4_forgetCopies_5 : decode cX4_forgetCopies 5 = .ok (.iload 4, 2) := by decide +kernel
theorem dX4_forgetCopies_7 : decode cX4_forgetCopies 7 = .ok (.iconst 3, 1) := by decide +kernel
theorem dX4_forgetCopies_8 : decode cX4_forgetCopies 8 = .ok (.if_icmp .ge 49, 3) := by decide +kernel
theorem dX4_forgetCopies_11 : decode cX4_forgetCopies 11 = .ok (.aload_n 0, 1) := by decide +kernel
theorem dX4_forgetCopies_12 : decode cX4_forgetCopies 12 = .ok (.getfield 24, 3) := by decide +kernel
theorem dX4_forgetCopies_15 : decode cX4_forgetCopies 15 = .ok (.iload 4, 2) := by decide +kernel
theorem dX4_forgetCopies_17 : decode cX4_forgetCopies 17 = .ok (.aaload, 1) := by decide +kernel
theorem dX4_forgetCopies_18 : decode cX4_forgetCopies 18 = .ok (.astore 5, 2) := by decide +kernel
theorem dX4_forgetCopies_20 : decode cX4_forgetCopies 20 = .ok (.aload 5, 2) := by decide +kernel
theorem dX4_forgetCopies_22 : decode cX4_forgetCopies 22 = .ok (.getfield 147, 3) := by decide +kernel
theorem dX4_forgetCopies_25 : decode cX4_forgetCopies 25 = .ok (.aload_n 1, 1) := by decide +kernel
theorem dX4_forgetCopies_26 : decode cX4_forgetCopies 26 = .ok (.if_acmp .ne 25, 3) := by decide +kernel
theorem dX4_forgetCopies_29 : decode cX4_forgetCopies 29 = .ok (.aload 5, 2) := by decide +kernel
theorem dX4_forgetCopies_31 : decode cX4_forgetCopies 31 = .ok (.getfield 159, 3) := by decide +kernel
theorem dX4_forgetCopies_34 : decode cX4_forgetCopies 34 = .ok (.iload_n 2, 1) := by decide +kernel
theorem dX4_forgetCopies_35 : decode cX4_forgetCopies 35 = .ok (.iaload, 1) := by decide +kernel
theorem dX4_forgetCopies_36 : decode cX4_forgetCopies 36 = .ok (.iconst (-1), 1) := by decide +kernel
theorem dX4_forgetCopies_37 : decode cX4_forgetCopies 37 = .ok (.if_icmp .eq 14, 3) := by decide +kernel
theorem dX4_forgetCopies_40 : decode cX4_forgetCopies 40 = .ok (.aload 5, 2) := by decide +kernel
theorem dX4_forgetCopies_42 : decode cX4_forgetCopies 42 = .ok (.getfield 159, 3) := by decide +kernel
theorem dX4_forgetCopies_45 : decode cX4_forgetCopies 45 = .ok (.iload_n 2, 1) := by decide +kernel
theorem dX4_forgetCopies_46 : decode cX4_forgetCopies 46 = .ok (.iconst (-1), 1) := by decide +kernel
theorem dX4_forgetCopies_47 : decode cX4_forgetCopies 47 = .ok (.iastore, 1) := by decide +kernel
theorem dX4_forgetCopies_48 : decode cX4_forgetCopies 48 = .ok (.iinc 3 1, 3) := by decide +kernel
theorem dX4_forgetCopies_51 : decode cX4_forgetCopies 51 = .ok (.iinc 4 1, 3) := by decide +kernel
theorem dX4_forgetCopies_54 : decode cX4_forgetCopies 54 = .ok (.goto (-49), 3) := by decide +kernel
theorem dX4_forgetCopies_57 : decode cX4_forgetCopies 57 = .ok (.iload_n 3, 1) := by decide +kernel
theorem dX4_forgetCopies_58 : decode cX4_forgetCopies 58 = .ok (.ireturn, 1) := by decide +kernel
set_option maxRecDepth 20000 in
theorem ggX4_checkRoomForChange_X1_openChanges : GoodIn wsX4_checkRoomForChange wsX1_openChanges := goodIn_r _ [8, 9, 10, 16, 17, 18, 19, 20, 21, 22] (by decide +kernel) (by decide +kernel)
set_option maxRecDepth 20000 in
theorem gX4_checkRoomForChange_X1_openChanges : GoodIn wsX4_checkRoomForChange (wsV RX4 90 RX1 yX1_openChanges wsX1_openChanges) := goodIn_app (goodIn_of _ (by decide +kernel)) ggX4_checkRoomForChange_X1_openChanges
theorem dX4_checkRoomForChange_0 : decode cX4_checkRoomForChange 0 = .ok (.aload_n 0, 1) := by decide +kernel
theorem dX4_checkRoomForChange_1 : decode cX4_checkRoomForChange 1 = .ok (.getfield 12, 3) := by decide +kernel
theorem dX4_checkRoomForChange_4 : decode cX4_checkRoomForChange 4 = .ok (.invokevirtual 90, 3) := by decide +kernel
theorem dX4_checkRoomForChange_7 : decode cX4_checkRoomForChange 7 = .ok (.bipush 12, 2) := by decide +kernel
theorem dX4_checkRoomForChange_9 : decode cX4_checkRoomForChange 9 = .ok (.if_icmp .lt 13, 3) := by decide +kernel
theorem dX4_checkRoomForChange_12 : decode cX4_checkRoomForChange 12 = .ok (.new 68, 3) := by decide +kernel
theorem dX4_checkRoomForChange_15 : decode cX4_checkRoomForChange 15 = .ok (.dup, 1) := by decide +kernel
theorem dX4_checkRoomForChange_16 : decode cX4_checkRoomForChange 16 = .ok (.ldc 197, 2) := by decide +kernel
theorem dX4_checkRoomForChange_18 : decode cX4_checkRoomForChange 18 = .ok (.invokespecial 72, 3) := by decide +kernel
theorem dX4_checkRoomForChange_21 : decode cX4_checkRoomForChange 21 = .ok (.athrow, 1) := by decide +kernel
theorem dX4_checkRoomForChange_22 : decode cX4_checkRoomForChange 22 = .ok (.return_, 1) := by decide +kernel
theorem dX4_checkTable_0 : decode cX4_checkTable 0 = .ok (.iload_n 0, 1) := by decide +kernel
theorem dX4_checkTable_1 : decode cX4_checkTable 1 = .ok (.ifCond .lt 8, 3) := by decide +kernel
theorem dX4_checkTable_4 : decode cX4_checkTable 4 = .ok (.iload_n 0, 1) := by decide +kernel
theorem dX4_checkTable_5 : decode cX4_checkTable 5 = .ok (.iconst 2, 1) := by decide +kernel
theorem dX4_checkTable_6 : decode cX4_checkTable 6 = .ok (.if_icmp .lt 13, 3) := by decide +kernel
theorem dX4_checkTable_9 : decode cX4_checkTable 9 = .ok (.new 199, 3) := by decide +kernel
theorem dX4_checkTable_12 : decode cX4_checkTable 12 = .ok (.dup, 1) := by decide +kernel
theorem dX4_checkTable_13 : decode cX4_checkTable 13 = .ok (.ldc 201, 2) := by decide +kernel
theorem dX4_checkTable_15 : decode cX4_checkTable 15 = .ok (.invokespecial 203, 3) := by decide +kernel
theorem dX4_checkTable_18 : decode cX4_checkTable 18 = .ok (.athrow, 1) := by decide +kernel
theorem dX4_checkTable_19 : decode cX4_checkTable 19 = .ok (.return_, 1) := by decide +kernel
set_option maxRecDepth 20000 in
theorem ggX4_checkKey_X4_checkTable : GoodIn wsX4_checkKey wsX4_checkTable := goodIn_ca (goodIn_r _ [6, 1, 2] (by decide +kernel) (by decide +kernel)) (goodIn_sub (fun _ h => List.mem_cons_of_mem _ (List.mem_append_right _ h)) (by decide +kernel))
set_option maxRecDepth 20000 in
theorem gX4_checkKey_X4_checkTable : GoodIn wsX4_checkKey (va_wsS RX4 75 yX4_checkTable wsX4_checkTable) := goodIn_app (goodIn_of _ (by decide +kernel)) ggX4_checkKey_X4_checkTable
theorem dX4_checkKey_0 : decode cX4_checkKey 0 = .ok (.iload_n 0, 1) := by decide +kernel
theorem dX4_checkKey_1 : decode cX4_checkKey 1 = .ok (.invokestatic 75, 3) := by decide +kernel
theorem dX4_checkKey_4 : decode cX4_checkKey 4 = .ok (.iload_n 1, 1) := by decide +kernel
theorem dX4_checkKey_5 : decode cX4_checkKey 5 = .ok (.ifCond .lt 9, 3) := by decide +kernel
theorem dX4_checkKey_8 : decode cX4_checkKey 8 = .ok (.iload_n 1, 1) := by decide +kernel
theorem dX4_checkKey_9 : decode cX4_checkKey 9 = .ok (.bipush 12, 2) := by decide +kernel
theorem dX4_checkKey_11 : decode cX4_checkKey 11 = .ok (.if_icmp .lt 13, 3) := by decide +kernel
theorem dX4_checkKey_14 : decode cX4_checkKey 14 = .ok (.new 199, 3) := by decide +kernel
theorem dX4_checkKey_17 : decode cX4_checkKey 17 = .ok (.dup, 1) := by decide +kernel
theorem dX4_checkKey_18 : decode cX4_checkKey 18 = .ok (.ldc 204, 2) := by decide +kernel
theorem dX4_checkKey_20 : decode cX4_checkKey 20 = .ok (.invokespecial 203, 3) := by decide +kernel
theorem dX4_checkKey_23 : decode cX4_checkKey 23 = .ok (.athrow, 1) := by decide +kernel
theorem dX4_checkKey_24 : decode cX4_checkKey 24 = .ok (.return_, 1) := by decide +kernel
theorem dX4_checkColumn_0 : decode cX4_checkColumn 0 = .ok (.iload_n 0, 1) := by decide +kernel
theorem dX4_checkColumn_1 : decode cX4_checkColumn 1 = .ok (.ifCond .lt 8, 3) := by decide +kernel
theorem dX4_checkColumn_4 : decode cX4_checkColumn 4 = .ok (.iload_n 0, 1) := by decide +kernel
theorem dX4_checkColumn_5 : decode cX4_checkColumn 5 = .ok (.iconst 3, 1) := by decide +kernel
theorem dX4_checkColumn_6 : decode cX4_checkColumn 6 = .ok (.if_icmp .lt 13, 3) := by decide +kernel
theorem dX4_checkColumn_9 : decode cX4_checkColumn 9 = .ok (.new 199, 3) := by decide +kernel
theorem dX4_checkColumn_12 : decode cX4_checkColumn 12 = .ok (.dup, 1) := by decide +kernel
theorem dX4_checkColumn_13 : decode cX4_checkColumn 13 = .ok (.ldc 206, 2) := by decide +kernel
theorem dX4_checkColumn_15 : decode cX4_checkColumn 15 = .ok (.invokespecial 203, 3) := by decide +kernel
theorem dX4_checkColumn_18 : decode cX4_checkColumn 18 = .ok (.athrow, 1) := by decide +kernel
theorem dX4_checkColumn_19 : decode cX4_checkColumn 19 = .ok (.return_, 1) := by decide +kernel
theorem dX4_checkPublication_0 : decode cX4_checkPublication 0 = .ok (.iload_n 0, 1) := by decide +kernel
theorem dX4_checkPublication_1 : decode cX4_checkPublication 1 = .ok (.ifCond .lt 8, 3) := by decide +kernel
theorem dX4_checkPublication_4 : decode cX4_checkPublication 4 = .ok (.iload_n 0, 1) := by decide +kernel
theorem dX4_checkPublication_5 : decode cX4_checkPublication 5 = .ok (.iconst 3, 1) := by decide +kernel
theorem dX4_checkPublication_6 : decode cX4_checkPublication 6 = .ok (.if_icmp .lt 13, 3) := by decide +kernel
theorem dX4_checkPublication_9 : decode cX4_checkPublication 9 = .ok (.new 199, 3) := by decide +kernel
theorem dX4_checkPublication_12 : decode cX4_checkPublication 12 = .ok (.dup, 1) := by decide +kernel
theorem dX4_checkPublication_13 : decode cX4_checkPublication 13 = .ok (.ldc 208, 2) := by decide +kernel
theorem dX4_checkPublication_15 : decode cX4_checkPublication 15 = .ok (.invokespecial 203, 3) := by decide +kernel
theorem dX4_checkPublication_18 : decode cX4_checkPublication 18 = .ok (.athrow, 1) := by decide +kernel
theorem dX4_checkPublication_19 : decode cX4_checkPublication 19 = .ok (.return_, 1) := by decide +kernel
theorem dX4_checkSubscriber_0 : decode cX4_checkSubscriber 0 = .ok (.iload_n 0, 1) := by decide +kernel
theorem dX4_checkSubscriber_1 : decode cX4_checkSubscriber 1 = .ok (.ifCond .lt 8, 3) := by decide +kernel
theorem dX4_checkSubscriber_4 : decode cX4_checkSubscriber 4 = .ok (.iload_n 0, 1) := by decide +kernel
theorem dX4_checkSubscriber_5 : decode cX4_checkSubscriber 5 = .ok (.iconst 3, 1) := by decide +kernel
theorem dX4_checkSubscriber_6 : decode cX4_checkSubscriber 6 = .ok (.if_icmp .lt 13, 3) := by decide +kernel
theorem dX4_checkSubscriber_9 : decode cX4_checkSubscriber 9 = .ok (.new 199, 3) := by decide +kernel
theorem dX4_checkSubscriber_12 : decode cX4_checkSubscriber 12 = .ok (.dup, 1) := by decide +kernel
theorem dX4_checkSubscriber_13 : decode cX4_checkSubscriber 13 = .ok (.ldc 210, 2) := by decide +kernel
theorem dX4_checkSubscriber_15 : decode cX4_checkSubscriber 15 = .ok (.invokespecial 203, 3) := by decide +kernel
theorem dX4_checkSubscriber_18 : decode cX4_checkSubscriber 18 = .ok (.athrow, 1) := by decide +kernel
theorem dX4_checkSubscriber_19 : decode cX4_checkSubscriber 19 = .ok (.return_, 1) := by decide +kernel
theorem dX4_checkNumber_0 : decode cX4_checkNumber 0 = .ok (.iload_n 0, 1) := by decide +kernel
theorem dX4_checkNumber_1 : decode cX4_checkNumber 1 = .ok (.ifCond .lt 9, 3) := by decide +kernel
theorem dX4_checkNumber_4 : decode cX4_checkNumber 4 = .ok (.iload_n 0, 1) := by decide +kernel
theorem dX4_checkNumber_5 : decode cX4_checkNumber 5 = .ok (.bipush 100, 2) := by decide +kernel
theorem dX4_checkNumber_7 : decode cX4_checkNumber 7 = .ok (.if_icmp .lt 13, 3) := by decide +kernel
theorem dX4_checkNumber_10 : decode cX4_checkNumber 10 = .ok (.new 102, 3) := by decide +kernel
theorem dX4_checkNumber_13 : decode cX4_checkNumber 13 = .ok (.dup, 1) := by decide +kernel
theorem dX4_checkNumber_14 : decode cX4_checkNumber 14 = .ok (.ldc 212, 2) := by decide +kernel
theorem dX4_checkNumber_16 : decode cX4_checkNumber 16 = .ok (.invokespecial 106, 3) := by decide +kernel
theorem dX4_checkNumber_19 : decode cX4_checkNumber 19 = .ok (.athrow, 1) := by decide +kernel
theorem dX4_checkNumber_20 : decode cX4_checkNumber 20 = .ok (.return_, 1) := by decide +kernel
theorem dX4_placeOf_0 : decode cX4_placeOf 0 = .ok (.iload_n 0, 1) := by decide +kernel
theorem dX4_placeOf_1 : decode cX4_placeOf 1 = .ok (.bipush 12, 2) := by decide +kernel
theorem dX4_placeOf_3 : decode cX4_placeOf 3 = .ok (.imul, 1) := by decide +kernel
theorem dX4_placeOf_4 : decode cX4_placeOf 4 = .ok (.iload_n 1, 1) := by decide +kernel
theorem dX4_placeOf_5 : decode cX4_placeOf 5 = .ok (.iadd, 1) := by decide +kernel
theorem dX4_placeOf_6 : decode cX4_placeOf 6 = .ok (.ireturn, 1) := by decide +kernel
theorem dX4_rowOf_0 : decode cX4_rowOf 0 = .ok (.iload_n 0, 1) := by decide +kernel
theorem dX4_rowOf_1 : decode cX4_rowOf 1 = .ok (.iload_n 1, 1) := by decide +kernel
theorem dX4_rowOf_2 : decode cX4_rowOf 2 = .ok (.bipush 7, 2) := by decide +kernel
theorem dX4_rowOf_4 : decode cX4_rowOf 4 = .ok (.ishl, 1) := by decide +kernel
theorem dX4_rowOf_5 : decode cX4_rowOf 5 = .ok (.ior, 1) := by decide +kernel
theorem dX4_rowOf_6 : decode cX4_rowOf 6 = .ok (.iload_n 2, 1) := by decide +kernel
theorem dX4_rowOf_7 : decode cX4_rowOf 7 = .ok (.bipush 14, 2) := by decide +kernel
theorem dX4_rowOf_9 : decode cX4_rowOf 9 = .ok (.ishl, 1) := by decide +kernel
theorem dX4_rowOf_10 : decode cX4_rowOf 10 = .ok (.ior, 1) := by decide +kernel
theorem dX4_rowOf_11 : decode cX4_rowOf 11 = .ok (.ireturn, 1) := by decide +kernel
theorem dX4_numberIn_0 : decode cX4_numberIn 0 = .ok (.iload_n 0, 1) := by decide +kernel
theorem dX4_numberIn_1 : decode cX4_numberIn 1 = .ok (.iconst (-1), 1) := by decide +kernel
theorem dX4_numberIn_2 : decode cX4_numberIn 2 = .ok (.if_icmp .ne 7, 3) := by decide +kernel
theorem dX4_numberIn_5 : decode cX4_numberIn 5 = .ok (.iconst (-1), 1) := by decide +kernel
theorem dX4_numberIn_6 : decode cX4_numberIn 6 = .ok (.goto 12, 3) := by decide +kernel
theorem dX4_numberIn_9 : decode cX4_numberIn 9 = .ok (.iload_n 0, 1) := by decide +kernel
theorem dX4_numberIn_10 : decode cX4_numberIn 10 = .ok (.iload_n 1, 1) := by decide +kernel
theorem dX4_numberIn_11 : decode cX4_numberIn 11 = .ok (.bipush 7, 2) := by decide +kernel
theorem dX4_numberIn_13 : decode cX4_numberIn 13 = .ok (.imul, 1) := by decide +kernel
theorem dX4_numberIn_14 : decode cX4_numberIn 14 = .ok (.ishr, 1) := by decide +kernel
theorem dX4_numberIn_15 : decode cX4_numberIn 15 = .ok (.bipush 127, 2) := by decide +kernel
theorem dX4_numberIn_17 : decode cX4_numberIn 17 = .ok (.iand, 1) := by decide +kernel
theorem dX4_numberIn_18 : decode cX4_numberIn 18 = .ok (.ireturn, 1) := by decide +kernel
theorem dX4_maskOf_0 : decode cX4_maskOf 0 = .ok (.iconst 0, 1) := by decide +kernel
theorem dX4_maskOf_1 : decode cX4_maskOf 1 = .ok (.istore_n 1, 1) := by decide +kernel
theorem dX4_maskOf_2 : decode cX4_maskOf 2 = .ok (.iconst 0, 1) := by decide +kernel
theorem dX4_maskOf_3 : decode cX4_maskOf 3 = .ok (.istore_n 2, 1) := by decide +kernel
theorem dX4_maskOf_4 : decode cX4_maskOf 4 = .ok (.iload_n 2, 1) := by decide +kernel
theorem dX4_maskOf_5 : decode cX4_maskOf 5 = .ok (.iconst 3, 1) := by decide +kernel
theorem dX4_maskOf_6 : decode cX4_maskOf 6 = .ok (.if_icmp .ge 28, 3) := by decide +kernel
theorem dX4_maskOf_9 : decode cX4_maskOf 9 = .ok (.iload_n 0, 1) := by decide +kernel
theorem dX4_maskOf_10 : decode cX4_maskOf 10 = .ok (.iload_n 2, 1) := by decide +kernel
theorem dX4_maskOf_11 : decode cX4_maskOf 11 = .ok (.ishr, 1) := by decide +kernel
theorem dX4_maskOf_12 : decode cX4_maskOf 12 = .ok (.iconst 1, 1) := by decide +kernel
theorem dX4_maskOf_13 : decode cX4_maskOf 13 = .ok (.iand, 1) := by decide +kernel
theorem dX4_maskOf_14 : decode cX4_maskOf 14 = .ok (.iconst 1, 1) := by decide +kernel
theorem dX4_maskOf_15 : decode cX4_maskOf 15 = .ok (.if_icmp .ne 13, 3) := by decide +kernel
theorem dX4_maskOf_18 : decode cX4_maskOf 18 = .ok (.iload_n 1, 1) := by decide +kernel
theorem dX4_maskOf_19 : decode cX4_maskOf 19 = .ok (.bipush 127, 2) := by decide +kernel
theorem dX4_maskOf_21 : decode cX4_maskOf 21 = .ok (.iload_n 2, 1) := by decide +kernel
theorem dX4_maskOf_22 : decode cX4_maskOf 22 = .ok (.bipush 7, 2) := by decide +kernel
theorem dX4_maskOf_24 : decode cX4_maskOf 24 = .ok (.imul, 1) := by decide +kernel
theorem dX4_maskOf_25 : decode cX4_maskOf 25 = .ok (.ishl, 1) := by decide +kernel
theorem dX4_maskOf_26 : decode cX4_maskOf 26 = .ok (.ior, 1) := by decide +kernel
theorem dX4_maskOf_27 : decode cX4_maskOf 27 = .ok (.istore_n 1, 1) := by decide +kernel
theorem dX4_maskOf_28 : decode cX4_maskOf 28 = .ok (.iinc 2 1, 3) := by decide +kernel
theorem dX4_maskOf_31 : decode cX4_maskOf 31 = .ok (.goto (-27), 3) := by decide +kernel
theorem dX4_maskOf_34 : decode cX4_maskOf 34 = .ok (.iload_n 1, 1) := by decide +kernel
theorem dX4_maskOf_35 : decode cX4_maskOf 35 = .ok (.ireturn, 1) := by decide +kernel
