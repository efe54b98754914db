theorem dX6_readNumber_77 : decode cX6_readNumber 77 = .ok (.iconst 1, 1) := by decide +kernel
theorem dX6_readNumber_78 : decode cX6_readNumber 78 = .ok (.invokevirtual 78, 3) := by decide +kernel
theorem dX6_readNumber_81 : decode cX6_readNumber 81 = .ok (.ireturn, 1) := by decide +kernel
theorem dX6_readNumber_82 : decode cX6_readNumber 82 = .ok (.aload_n 0, 1) := by decide +kernel
theorem dX6_readNumber_83 : decode cX6_readNumber 83 = .ok (.getfield 66, 3) := by decide +kernel
theorem dX6_readNumber_86 : decode cX6_readNumber 86 = .ok (.iload_n 1, 1) := by decide +kernel
theorem dX6_readNumber_87 : decode cX6_readNumber 87 = .ok (.if_icmp .le 9, 3) := by decide +kernel
theorem dX6_readNumber_90 : decode cX6_readNumber 90 = .ok (.aload_n 0, 1) := by decide +kernel
theorem dX6_readNumber_91 : decode cX6_readNumber 91 = .ok (.iconst 2, 1) := by decide +kernel
theorem dX6_readNumber_92 : decode cX6_readNumber 92 = .ok (.invokevirtual 78, 3) := by decide +kernel
theorem dX6_readNumber_95 : decode cX6_readNumber 95 = .ok (.ireturn, 1) := by decide +kernel
theorem dX6_readNumber_96 : decode cX6_readNumber 96 = .ok (.aload_n 0, 1) := by decide +kernel
theorem dX6_readNumber_97 : decode cX6_readNumber 97 = .ok (.dup, 1) := by decide +kernel
theorem dX6_readNumber_98 : decode cX6_readNumber 98 = .ok (.getfield 26, 3) := by decide +kernel
theorem dX6_readNumber_101 : decode cX6_readNumber 101 = .ok (.iload_n 2, 1) := by decide +kernel
theorem dX6_readNumber_102 : decode cX6_readNumber 102 = .ok (.iadd, 1) := by decide +kernel
theorem dX6_readNumber_103 : decode cX6_readNumber 103 = .ok (.putfield 26, 3) := by decide +kernel
theorem dX6_readNumber_106 : decode cX6_readNumber 106 = .ok (.iconst 1, 1) := by decide +kernel
theorem dX6_readNumber_107 : decode cX6_readNumber 107 = .ok (.ireturn, 1) := by decide +kernel
theorem dX6_isFigure_0 : decode cX6_isFigure 0 = .ok (.iload_n 0, 1) := by decide +kernel
theorem dX6_isFigure_1 : decode cX6_isFigure 1 = .ok (.bipush 48, 2) := by decide +kernel
theorem dX6_isFigure_3 : decode cX6_isFigure 3 = .ok (.if_icmp .lt 13, 3) := by decide +kernel
theorem dX6_isFigure_6 : decode cX6_isFigure 6 = .ok (.iload_n 0, 1) := by decide +kernel
theorem dX6_isFigure_7 : decode cX6_isFigure 7 = .ok (.bipush 57, 2) := by decide +kernel
theorem dX6_isFigure_9 : decode cX6_isFigure 9 = .ok (.if_icmp .gt 7, 3) := by decide +kernel
theorem dX6_isFigure_12 : decode cX6_isFigure 12 = .ok (.iconst 1, 1) := by decide +kernel
theorem dX6_isFigure_13 : decode cX6_isFigure 13 = .ok (.goto 4, 3) := by decide +kernel
theorem dX6_isFigure_16 : decode cX6_isFigure 16 = .ok (.iconst 0, 1) := by decide +kernel
theorem dX6_isFigure_17 : decode cX6_isFigure 17 = .ok (.ireturn, 1) := by decide +kernel
theorem dX6_here_0 : decode cX6_here 0 = .ok (.aload_n 0, 1) := by decide +kernel
theorem dX6_here_1 : decode cX6_here 1 = .ok (.getfield 26, 3) := by decide +kernel
theorem dX6_here_4 : decode cX6_here 4 = .ok (.aload_n 0, 1) := by decide +kernel
theorem dX6_here_5 : decode cX6_here 5 = .ok (.getfield 22, 3) := by decide +kernel
theorem dX6_here_8 : decode cX6_here 8 = .ok (.if_icmp .ge 15, 3) := by decide +kernel
theorem dX6_here_11 : decode cX6_here 11 = .ok (.aload_n 0, 1) := by decide +kernel
theorem dX6_here_12 : decode cX6_here 12 = .ok (.getfield 9, 3) := by decide +kernel
theorem dX6_here_15 : decode cX6_here 15 = .ok (.aload_n 0, 1) := by decide +kernel
theorem dX6_here_16 : decode cX6_here 16 = .ok (.getfield 26, 3) := by decide +kernel
theorem dX6_here_19 : decode cX6_here 19 = .ok (.iaload, 1) := by decide +kernel
theorem dX6_here_20 : decode cX6_here 20 = .ok (.goto 4, 3) := by decide +kernel
theorem dX6_here_23 : decode cX6_here 23 = .ok (.iconst (-1), 1) := by decide +kernel
theorem dX6_here_24 : decode cX6_here 24 = .ok (.ireturn, 1) := by decide +kernel
theorem dX6_faulty_0 : decode cX6_faulty 0 = .ok (.aload_n 0, 1) := by decide +kernel
theorem dX6_faulty_1 : decode cX6_faulty 1 = .ok (.iload_n 1, 1) := by decide +kernel
theorem dX6_faulty_2 : decode cX6_faulty 2 = .ok (.putfield 105, 3) := by decide +kernel
theorem dX6_faulty_5 : decode cX6_faulty 5 = .ok (.aload_n 0, 1) := by decide +kernel
theorem dX6_faulty_6 : decode cX6_faulty 6 = .ok (.aload_n 0, 1) := by decide +kernel
theorem dX6_faulty_7 : decode cX6_faulty 7 = .ok (.getfield 26, 3) := by decide +kernel
theorem dX6_faulty_10 : decode cX6_faulty 10 = .ok (.putfield 108, 3) := by decide +kernel
theorem dX6_faulty_13 : decode cX6_faulty 13 = .ok (.iconst 0, 1) := by decide +kernel
theorem dX6_faulty_14 : decode cX6_faulty 14 = .ok (.ireturn, 1) := by decide +kernel
set_option maxRecDepth 20000 in
theorem ggX7_init_X6_init : GoodIn wsX7_init wsX6_init := goodIn_r _ [30, 31, 2, 3, 32, 33, 34, 11, 12, 35, 36, 37, 38, 39, 40, 41, 42, 43, 44, 45, 46, 47, 48, 49, 50, 51, 52, 82, 83, 84, 85, 86, 87, 88, 89, 90, 91, 92, 93, 94, 95, 96, 111, 112, 113, 114, 115, 116, 117, 118] (by decide +kernel) (by decide +kernel)
set_option maxRecDepth 20000 in
theorem gX7_init_X6_init_n17 : GoodIn wsX7_init (wsX6_init) := ggX7_init_X6_init
set_option maxRecDepth 20000 in
theorem ggX7_init_X2_init : GoodIn wsX7_init wsX2_init := goodIn_r _ [37, 38, 2, 3, 32, 39, 40, 41, 42, 43, 44, 45, 46, 47, 48, 49, 50, 51, 52, 89, 90, 91, 92, 93, 94, 95, 96, 111, 112, 113, 114, 115, 116, 117, 118] (by decide +kernel) (by decide +kernel)
set_option maxRecDepth 20000 in
theorem gX7_init_X2_init_n24 : GoodIn wsX7_init (wsX2_init) := ggX7_init_X2_init
set_option maxRecDepth 20000 in
theorem ggX7_init_X0_init : GoodIn wsX7_init wsX0_init := goodIn_r _ [55, 56, 2, 3, 57, 58, 43, 44, 46, 47, 48, 32, 49, 50, 51, 52, 97, 98, 99, 111, 112, 113, 114, 115, 116, 117, 118] (by decide +kernel) (by decide +kernel)
set_option maxRecDepth 20000 in
theorem gX7_init_X0_init : GoodIn wsX7_init (wsX0_init) := ggX7_init_X0_init
set_option maxRecDepth 20000 in
theorem ggX7_init_X3_init : GoodIn wsX7_init wsX3_init := goodIn_r _ [60, 61, 2, 3, 32, 62, 63, 100, 101] (by decide +kernel) (by decide +kernel)
set_option maxRecDepth 20000 in
theorem gX7_init_X3_init_n42 : GoodIn wsX7_init (wsX3_init) := ggX7_init_X3_init
set_option maxRecDepth 20000 in
theorem ggX7_init_X1_init : GoodIn wsX7_init wsX1_init := goodIn_r _ [65, 66, 2, 3, 32, 67, 102, 103, 104, 105, 106, 107] (by decide +kernel) (by decide +kernel)
set_option maxRecDepth 20000 in
theorem gX7_init_X1_init_n49 : GoodIn wsX7_init (wsX1_init) := ggX7_init_X1_init
set_option maxRecDepth 20000 in
theorem ggX7_init_X5_init : GoodIn wsX7_init wsX5_init := goodIn_r _ [69, 70, 2, 3, 32, 71, 72, 108, 109, 110] (by decide +kernel) (by decide +kernel)
set_option maxRecDepth 20000 in
theorem gX7_init_X5_init_n54 : GoodIn wsX7_init (wsX5_init) := ggX7_init_X5_init
theorem dX7_init_0 : decode cX7_init 0 = .ok (.aload_n 0, 1) := by decide +kernel
theorem dX7_init_1 : decode cX7_init 1 = .ok (.invokespecial 1, 3) := by decide +kernel
theorem dX7_init_4 : decode cX7_init 4 = .ok (.aload_n 0, 1) := by decide +kernel
theorem dX7_init_5 : decode cX7_init 5 = .ok (.bipush 8, 2) := by decide +kernel
theorem dX7_init_7 : decode cX7_init 7 = .ok (.anewarray 9, 3) := by decide +kernel
theorem dX7_init_10 : decode cX7_init 10 = .ok (.putfield 11, 3) := by decide +kernel
theorem dX7_init_13 : decode cX7_init 13 = .ok (.aload_n 0, 1) := by decide +kernel
theorem dX7_init_14 : decode cX7_init 14 = .ok (.new 15, 3) := by decide +kernel
theorem dX7_init_17 : decode cX7_init 17 = .ok (.dup, 1) := by decide +kernel
theorem dX7_init_18 : decode cX7_init 18 = .ok (.invokespecial 17, 3) := by decide +kernel
theorem dX7_init_21 : decode cX7_init 21 = .ok (.putfield 18, 3) := by decide +kernel
theorem dX7_init_24 : decode cX7_init 24 = .ok (.aload_n 0, 1) := by decide +kernel
theorem dX7_init_25 : decode cX7_init 25 = .ok (.new 22, 3) := by decide +kernel
theorem dX7_init_28 : decode cX7_init 28 = .ok (.dup, 1) := by decide +kernel
theorem dX7_init_29 : decode cX7_init 29 = .ok (.invokespecial 24, 3) := by decide +kernel
theorem dX7_init_32 : decode cX7_init 32 = .ok (.putfield 25, 3) := by decide +kernel
theorem dX7_init_35 : decode cX7_init 35 = .ok (.aload_n 0, 1) := by decide +kernel
theorem dX7_init_36 : decode cX7_init 36 = .ok (.new 29, 3) := by decide +kernel
theorem dX7_init_39 : decode cX7_init 39 = .ok (.dup, 1) := by decide +kernel
theorem dX7_init_40 : decode cX7_init 40 = .ok (.invokespecial 31, 3) := by decide +kernel
theorem dX7_init_43 : decode cX7_init 43 = .ok (.putfield 32, 3) := by decide +kernel
theorem dX7_init_46 : decode cX7_init 46 = .ok (.aload_n 0, 1) := by decide +kernel
theorem dX7_init_47 : decode cX7_init 47 = .ok (.iconst 2, 1) := by decide +kernel
theorem dX7_init_48 : decode cX7_init 48 = .ok (.anewarray 22, 3) := by decide +kernel
theorem dX7_init_51 : decode cX7_init 51 = .ok (.putfield 36, 3) := by decide +kernel
theorem dX7_init_54 : decode cX7_init 54 = .ok (.aload_n 0, 1) := by decide +kernel
theorem dX7_init_55 : decode cX7_init 55 = .ok (.new 40, 3) := by decide +kernel
theorem dX7_init_58 : decode cX7_init 58 = .ok (.dup, 1) := by decide +kernel
theorem dX7_init_59 : decode cX7_init 59 = .ok (.invokespecial 42, 3) := by decide +kernel
theorem dX7_init_62 : decode cX7_init 62 = .ok (.putfield 43, 3) := by decide +kernel
theorem dX7_init_65 : decode cX7_init 65 = .ok (.aload_n 0, 1) := by decide +kernel
theorem dX7_init_66 : decode cX7_init 66 = .ok (.new 47, 3) := by decide +kernel
theorem dX7_init_69 : decode cX7_init 69 = .ok (.dup, 1) := by decide +kernel
theorem dX7_init_70 : decode cX7_init 70 = .ok (.invokespecial 49, 3) := by decide +kernel
theorem dX7_init_73 : decode cX7_init 73 = .ok (.putfield 50, 3) := by decide +kernel
theorem dX7_init_76 : decode cX7_init 76 = .ok (.iconst 0, 1) := by decide +kernel
theorem dX7_init_77 : decode cX7_init 77 = .ok (.istore_n 1, 1) := by decide +kernel
theorem dX7_init_78 : decode cX7_init 78 = .ok (.iload_n 1, 1) := by decide +kernel
theorem dX7_init_79 : decode cX7_init 79 = .ok (.bipush 8, 2) := by decide +kernel
theorem dX7_init_81 : decode cX7_init 81 = .ok (.if_icmp .ge 22, 3) := by decide +kernel
theorem dX7_init_84 : decode cX7_init 84 = .ok (.aload_n 0, 1) := by decide +kernel
theorem dX7_init_85 : decode cX7_init 85 = .ok (.getfield 11, 3) := by decide +kernel
theorem dX7_init_88 : decode cX7_init 88 = .ok (.iload_n 1, 1) := by decide +kernel
theorem dX7_init_89 : decode cX7_init 89 = .ok (.new 9, 3) := by decide +kernel
theorem dX7_init_92 : decode cX7_init 92 = .ok (.dup, 1) := by decide +kernel
theorem dX7_init_93 : decode cX7_init 93 = .ok (.invokespecial 54, 3) := by decide +kernel
theorem dX7_init_96 : decode cX7_init 96 = .ok (.aastore, 1) := by decide +kernel
theorem dX7_init_97 : decode cX7_init 97 = .ok (.iinc 1 1, 3) := by decide +kernel
theorem dX7_init_100 : decode cX7_init 100 = .ok (.goto (-22), 3) := by decide +kernel
theorem dX7_init_103 : decode cX7_init 103 = .ok (.iconst 0, 1) := by decide +kernel
theorem dX7_init_104 : decode cX7_init 104 = .ok (.istore_n 1, 1) := by decide +kernel
theorem dX7_init_105 : decode cX7_init 105 = .ok (.iload_n 1, 1) := by decide +kernel
theorem dX7_init_106 : decode cX7_init 106 = .ok (.iconst 2, 1) := by decide +kernel
theorem dX7_init_107 : decode cX7_init 107 = .ok (.if_icmp .ge 22, 3) := by decide +kernel
theorem dX7_init_110 : decode cX7_init 110 = .ok (.aload_n 0, 1) := by decide +kernel
theorem dX7_init_111 : decode cX7_init 111 = .ok (.getfield 36, 3) := by decide +kernel
theorem dX7_init_114 : decode cX7_init 114 = .ok (.iload_n 1, 1) := by decide +kernel
theorem dX7_init_115 : decode cX7_init 115 = .ok (.new 22, 3) := by decide +kernel
theorem dX7_init_118 : decode cX7_init 118 = .ok (.dup, 1) := by decide +kernel
theorem dX7_init_119 : decode cX7_init 119 = .ok (.invokespecial 24, 3) := by decide +kernel
theorem dX7_init_122 : decode cX7_init 122 = .ok (.aastore, 1) := by decide +kernel
theorem dX7_init_123 : decode cX7_init 123 = .ok (.iinc 1 1, 3) := by decide +kernel
theorem dX7_init_126 : decode cX7_init 126 = .ok (.goto (-21), 3) := by decide +kernel
theorem dX7_init_129 : decode cX7_init 129 = .ok (.return_, 1) := by decide +kernel
set_option maxRecDepth 20000 in
theorem ggX7_row_X7_isRow : GoodIn wsX7_row wsX7_isRow := goodIn_r _ [7] (by decide +kernel) (by decide +kernel)
set_option maxRecDepth 20000 in
theorem gX7_row_X7_isRow : GoodIn wsX7_row (wsV RX7 55 RX7 yX7_isRow wsX7_isRow) := goodIn_app (goodIn_of _ (by decide +kernel)) ggX7_row_X7_isRow
set_option maxRecDepth 20000 in
theorem ggX7_row_X7_found : GoodIn wsX7_row wsX7_found := goodIn_r _ [11, 12, 13, 26, 27, 28, 29, 30, 31, 32, 33, 34] (by decide +kernel) (by decide +kernel)
set_option maxRecDepth 20000 in
theorem gX7_row_X7_found : GoodIn wsX7_row (wsV RX7 60 RX7 yX7_found wsX7_found) := goodIn_app (goodIn_of _ (by decide +kernel)) ggX7_row_X7_found
set_option maxRecDepth 20000 in
theorem ggX7_row_X5_make : GoodIn wsX7_row wsX5_make := goodIn_r _ [18, 19, 20, 21, 35, 36, 37] (by decide +kernel) (by decide +kernel)
set_option maxRecDepth 20000 in
theorem gX7_row_X5_make : GoodIn wsX7_row (wsV RX7 64 RX5 yX5_make wsX5_make) := goodIn_app (goodIn_of _ (by decide +kernel)) ggX7_row_X5_make
set_option maxRecDepth 20000 in
theorem ggX7_row_X7_unfound : GoodIn wsX7_row wsX7_unfound := goodIn_r _ [25, 12, 26, 27, 28, 29, 30, 31, 32, 33, 34] (by decide +kernel) (by decide +kernel)
set_option maxRecDepth 20000 in
theorem gX7_row_X7_unfound : GoodIn wsX7_row (wsV RX7 68 RX7 yX7_unfound wsX7_unfound) := goodIn_app (goodIn_of _ (by decide +kernel)) ggX7_row_X7_unfound
theorem dX7_row_0 : decode cX7_row 0 = .ok (.aload_n 0, 1) := by decide +kernel
theorem dX7_row_1 : decode cX7_row 1 = .ok (.iload_n 1, 1) := by decide +kernel
theorem dX7_row_2 : decode cX7_row 2 = .ok (.invokevirtual 55, 3) := by decide +kernel
theorem dX7_row_5 : decode cX7_row 5 = .ok (.ifCond .eq 18, 3) := by decide +kernel
theorem dX7_row_8 : decode cX7_row 8 = .ok (.iload_n 2, 1) := by decide +kernel
theorem dX7_row_9 : decode cX7_row 9 = .ok (.ifCond .lt 14, 3) := by decide +kernel
theorem dX7_row_12 : decode cX7_row 12 = .ok (.iload_n 2, 1) := by decide +kernel
theorem dX7_row_13 : decode cX7_row 13 = .ok (.iconst 2, 1) := by decide +kernel
theorem dX7_row_14 : decode cX7_row 14 = .ok (.if_icmp .gt 9, 3) := by decide +kernel
theorem dX7_row_17 : decode cX7_row 17 = .ok (.iload_n 3, 1) := by decide +kernel
theorem dX7_row_18 : decode cX7_row 18 = .ok (.bipush 40, 2) := by decide +kernel
theorem dX7_row_20 : decode cX7_row 20 = .ok (.if_icmp .le 6, 3) := by decide +kernel
theorem dX7_row_23 : decode cX7_row 23 = .ok (.ldc 59, 2) := by decide +kernel
theorem dX7_row_25 : decode cX7_row 25 = .ok (.ireturn, 1) := by decide +kernel
theorem dX7_row_26 : decode cX7_row 26 = .ok (.iload_n 3, 1) := by decide +kernel
theorem dX7_row_27 : decode cX7_row 27 = .ok (.ifCond .ge 9, 3) := by decide +kernel
theorem dX7_row_30 : decode cX7_row 30 = .ok (.aload_n 0, 1) := by decide +kernel
theorem dX7_row_31 : decode cX7_row 31 = .ok (.iconst 4, 1) := by decide +kernel
theorem dX7_row_32 : decode cX7_row 32 = .ok (.invokevirtual 60, 3) := by decide +kernel
theorem dX7_row_35 : decode cX7_row 35 = .ok (.ireturn, 1) := by decide +kernel
theorem dX7_row_36 : decode cX7_row 36 = .ok (.aload_n 0, 1) := by decide +kernel
theorem dX7_row_37 : decode cX7_row 37 = .ok (.getfield 11, 3) := by decide +kernel
theorem dX7_row_40 : decode cX7_row 40 = .ok (.iload_n 1, 1) := by decide +kernel
theorem dX7_row_41 : decode cX7_row 41 = .ok (.aaload, 1) := by decide +kernel
theorem dX7_row_42 : decode cX7_row 42 = .ok (.iload_n 2, 1) := by decide +kernel
theorem dX7_row_43 : decode cX7_row 43 = .ok (.iload_n 3, 1) := by decide +kernel
theorem dX7_row_44 : decode cX7_row 44 = .ok (.invokevirtual 64, 3) := by decide +kernel
theorem dX7_row_47 : decode cX7_row 47 = .ok (.aload_n 0, 1) := by decide +kernel
theorem dX7_row_48 : decode cX7_row 48 = .ok (.iload_n 3, 1) := by decide +kernel
theorem dX7_row_49 : decode cX7_row 49 = .ok (.invokevirtual 68, 3) := by decide +kernel
theorem dX7_row_52 : decode cX7_row 52 = .ok (.ireturn, 1) := by decide +kernel
set_option maxRecDepth 20000 in
theorem ggX7_set_X7_isRow : GoodIn wsX7_set wsX7_isRow := goodIn_r _ [7] (by decide +kernel) (by decide +kernel)
set_option maxRecDepth 20000 in
theorem gX7_set_X7_isRow : GoodIn wsX7_set (wsV RX7 55 RX7 yX7_isRow wsX7_isRow) := goodIn_app (goodIn_of _ (by decide +kernel)) ggX7_set_X7_isRow
set_option maxRecDepth 20000 in
theorem ggX7_set_X5_findingOf : GoodIn wsX7_set wsX5_findingOf := goodIn_r _ [12, 13, 14, 15, 16, 11, 17, 18, 43, 44, 45] (by decide +kernel) (by decide +kernel)
set_option maxRecDepth 20000 in
theorem gX7_set_X5_findingOf : GoodIn wsX7_set (wsV RX7 71 RX5 yX5_findingOf wsX5_findingOf) := goodIn_app (goodIn_of _ (by decide +kernel)) ggX7_set_X5_findingOf
set_option maxRecDepth 20000 in
theorem ggX7_set_X7_found : GoodIn wsX7_set wsX7_found := goodIn_r _ [22, 23, 24, 34, 35, 36, 37, 38, 39, 40, 41, 42] (by decide +kernel) (by decide +kernel)
set_option maxRecDepth 20000 in
theorem gX7_set_X7_found : GoodIn wsX7_set (wsV RX7 60 RX7 yX7_found wsX7_found) := goodIn_app (goodIn_of _ (by decide +kernel)) ggX7_set_X7_found
set_option maxRecDepth 20000 in
theorem ggX7_set_X5_put : GoodIn wsX7_set wsX5_put := goodIn_r _ [28, 29, 13, 43, 44, 45] (by decide +kernel) (by decide +kernel)
set_option maxRecDepth 20000 in
theorem gX7_set_X5_put : GoodIn wsX7_set (wsV RX7 75 RX5 yX5_put wsX5_put) := goodIn_app (goodIn_of _ (by decide +kernel)) ggX7_set_X5_put
set_option maxRecDepth 20000 in
theorem ggX7_set_X7_unfound : GoodIn wsX7_set wsX7_unfound := goodIn_r _ [33, 23, 34, 35, 36, 37, 38, 39, 40, 41, 42] (by decide +kernel) (by decide +kernel)
set_option maxRecDepth 20000 in
theorem gX7_set_X7_unfound : GoodIn wsX7_set (wsV RX7 68 RX7 yX7_unfound wsX7_unfound) := goodIn_app (goodIn_of _ (by decide +kernel)) ggX7_set_X7_unfound
theorem dX7_set_0 : decode cX7_set 0 = .ok (.aload_n 0, 1) := by decide +kernel
theorem dX7_set_1 : decode cX7_set 1 = .ok (.iload_n 1, 1) := by decide +kernel
theorem dX7_set_2 : decode cX7_set 2 = .ok (.invokevirtual 55, 3) := by decide +kernel
theorem dX7_set_5 : decode cX7_set 5 = .ok (.ifCond .ne 6, 3) := by decide +kernel
theorem dX7_set_8 : decode cX7_set 8 = .ok (.ldc 59, 2) := by decide +kernel
theorem dX7_set_10 : decode cX7_set 10 = .ok (.ireturn, 1) := by decide +kernel
theorem dX7_set_11 : decode cX7_set 11 = .ok (.aload_n 0, 1) := by decide +kernel
theorem dX7_set_12 : decode cX7_set 12 = .ok (.getfield 11, 3) := by decide +kernel
theorem dX7_set_15 : decode cX7_set 15 = .ok (.iload_n 1, 1) := by decide +kernel
theorem dX7_set_16 : decode cX7_set 16 = .ok (.aaload, 1) := by decide +kernel
theorem dX7_set_17 : decode cX7_set 17 = .ok (.iload_n 2, 1) := by decide +kernel
theorem dX7_set_18 : decode cX7_set 18 = .ok (.iconst 1, 1) := by decide +kernel
theorem dX7_set_19 : decode cX7_set 19 = .ok (.invokevirtual 71, 3) := by decide +kernel
theorem dX7_set_22 : decode cX7_set 22 = .ok (.istore 4, 2) := by decide +kernel
theorem dX7_set_24 : decode cX7_set 24 = .ok (.iload 4, 2) := by decide +kernel
theorem dX7_set_26 : decode cX7_set 26 = .ok (.ifCond .eq 12, 3) := by decide +kernel
theorem dX7_set_29 : decode cX7_set 29 = .ok (.aload_n 0, 1) := by decide +kernel
theorem dX7_set_30 : decode cX7_set 30 = .ok (.iload 4, 2) := by decide +kernel
theorem dX7_set_32 : decode cX7_set 32 = .ok (.invokevirtual 60, 3) := by decide +kernel
theorem dX7_set_35 : decode cX7_set 35 = .ok (.goto 18, 3) := by decide +kernel
theorem dX7_set_38 : decode cX7_set 38 = .ok (.aload_n 0, 1) := by decide +kernel
theorem dX7_set_39 : decode cX7_set 39 = .ok (.aload_n 0, 1) := by decide +kernel
theorem dX7_set_40 : decode cX7_set 40 = .ok (.getfield 11, 3) := by decide +kernel
theorem dX7_set_43 : decode cX7_set 43 = .ok (.iload_n 1, 1) := by decide +kernel
theorem dX7_set_44 : decode cX7_set 44 = .ok (.aaload, 1) := by decide +kernel
theorem dX7_set_45 : decode cX7_set 45 = .ok (.iload_n 2, 1) := by decide +kernel
theorem dX7_set_46 : decode cX7_set 46 = .ok (.iload_n 3, 1) := by decide +kernel
theorem dX7_set_47 : decode cX7_set 47 = .ok (.invokevirtual 75, 3) := by decide +kernel
theorem dX7_set_50 : decode cX7_set 50 = .ok (.invokevirtual 68, 3) := by decide +kernel
theorem dX7_set_53 : decode cX7_set 53 = .ok (.ireturn, 1) := by decide +kernel
set_option maxRecDepth 20000 in
theorem ggX7_copy_X7_isRow : GoodIn wsX7_copy wsX7_isRow := goodIn_r _ [13] (by decide +kernel) (by decide +kernel)
set_option maxRecDepth 20000 in
theorem gX7_copy_X7_isRow : GoodIn wsX7_copy (wsV RX7 55 RX7 yX7_isRow wsX7_isRow) := goodIn_app (goodIn_of _ (by decide +kernel)) ggX7_copy_X7_isRow
set_option maxRecDepth 20000 in
theorem ggX7_copy_X7_found : GoodIn wsX7_copy wsX7_found := goodIn_r _ [17, 18, 19, 30, 31, 32, 33, 34, 35, 36, 37, 38] (by decide +kernel) (by decide +kernel)
set_option maxRecDepth 20000 in
theorem gX7_copy_X7_found : GoodIn wsX7_copy (wsV RX7 60 RX7 yX7_found wsX7_found) := goodIn_app (goodIn_of _ (by decide +kernel)) ggX7_copy_X7_found
set_option maxRecDepth 20000 in
theorem ggX7_copy_X5_reaches : GoodIn wsX7_copy wsX5_reaches := goodIn_r _ [24, 25, 39, 40, 41] (by decide +kernel) (by decide +kernel)
set_option maxRecDepth 20000 in
theorem gX7_copy_X5_reaches : GoodIn wsX7_copy (wsV RX7 82 RX5 yX5_reaches wsX5_reaches) := goodIn_app (goodIn_of _ (by decide +kernel)) ggX7_copy_X5_reaches
set_option maxRecDepth 20000 in
theorem ggX7_copy_X7_unfound : GoodIn wsX7_copy wsX7_unfound := goodIn_r _ [29, 18, 30, 31, 32, 33, 34, 35, 36, 37, 38] (by decide +kernel) (by decide +kernel)
set_option maxRecDepth 20000 in
theorem gX7_copy_X7_unfound : GoodIn wsX7_copy (wsV RX7 68 RX7 yX7_unfound wsX7_unfound) := goodIn_app (goodIn_of _ (by decide +kernel)) ggX7_copy_X7_unfound
theorem dX7_copy_0 : decode cX7_copy 0 = .ok (.aload_n 0, 1) := by decide +kernel
theorem dX7_copy_1 : decode cX7_copy 1 = .ok (.iload_n 1, 1) := by decide +kernel
theorem dX7_copy_2 : decode cX7_copy 2 = .ok (.invokevirtual 55, 3) := by decide +kernel
theorem dX7_copy_5 : decode cX7_copy 5 = .ok (.ifCond .eq 11, 3) := by decide +kernel
theorem dX7_copy_8 : decode cX7_copy 8 = .ok (.aload_n 0, 1) := by decide +kernel
theorem dX7_copy_9 : decode cX7_copy 9 = .ok (.iload_n 3, 1) := by decide +kernel
theorem dX7_copy_10 : decode cX7_copy 10 = .ok (.invokevirtual 55, 3) := by decide +kernel
theorem dX7_copy_13 : decode cX7_copy 13 = .ok (.ifCond .ne 6, 3) := by decide +kernel
theorem dX7_copy_16 : decode cX7_copy 16 = .ok (.ldc 59, 2) := by decide +kernel
theorem dX7_copy_18 : decode cX7_copy 18 = .ok (.ireturn, 1) := by decide +kernel
theorem dX7_copy_19 : decode cX7_copy 19 = .ok (.aload_n 0, 1) := by decide +kernel
theorem dX7_copy_20 : decode cX7_copy 20 = .ok (.getfield 11, 3) := by decide +kernel
theorem dX7_copy_23 : decode cX7_copy 23 = .ok (.iload_n 1, 1) := by decide +kernel
theorem dX7_copy_24 : decode cX7_copy 24 = .ok (.aaload, 1) := by decide +kernel
theorem dX7_copy_25 : decode cX7_copy 25 = .ok (.astore 6, 2) := by decide +kernel
theorem dX7_copy_27 : decode cX7_copy 27 = .ok (.aload_n 0, 1) := by decide +kernel
theorem dX7_copy_28 : decode cX7_copy 28 = .ok (.getfield 11, 3) := by decide +kernel
theorem dX7_copy_31 : decode cX7_copy 31 = .ok (.iload_n 3, 1) := by decide +kernel
theorem dX7_copy_32 : decode cX7_copy 32 = .ok (.aaload, 1) := by decide +kernel
theorem dX7_copy_33 : decode cX7_copy 33 = .ok (.astore 7, 2) := by decide +kernel
theorem dX7_copy_35 : decode cX7_copy 35 = .ok (.aload 6, 2) := by decide +kernel
theorem dX7_copy_37 : decode cX7_copy 37 = .ok (.getfield 78, 3) := by decide +kernel
theorem dX7_copy_40 : decode cX7_copy 40 = .ok (.iconst (-1), 1) := by decide +kernel
theorem dX7_copy_41 : decode cX7_copy 41 = .ok (.if_icmp .eq 12, 3) := by decide +kernel
theorem dX7_copy_44 : decode cX7_copy 44 = .ok (.aload 7, 2) := by decide +kernel
theorem dX7_copy_46 : decode cX7_copy 46 = .ok (.getfield 78, 3) := by decide +kernel
theorem dX7_copy_49 : decode cX7_copy 49 = .ok (.iconst (-1), 1) := by decide +kernel
theorem dX7_copy_50 : decode cX7_copy 50 = .ok (.if_icmp .ne 9, 3) := by decide +kernel
theorem dX7_copy_53 : decode cX7_copy 53 = .ok (.aload_n 0, 1) := by decide +kernel
theorem dX7_copy_54 : decode cX7_copy 54 = .ok (.iconst 1, 1) := by decide +kernel
theorem dX7_copy_55 : decode cX7_copy 55 = .ok (.invokevirtual 60, 3) := by decide +kernel
theorem dX7_copy_58 : decode cX7_copy 58 = .ok (.ireturn, 1) := by decide +kernel
theorem dX7_copy_59 : decode cX7_copy 59 = .ok (.aload 6, 2) := by decide +kernel
theorem dX7_copy_61 : decode cX7_copy 61 = .ok (.getfield 78, 3) := by decide +kernel
theorem dX7_copy_64 : decode cX7_copy 64 = .ok (.aload 7, 2) := by decide +kernel
theorem dX7_copy_66 : decode cX7_copy 66 = .ok (.getfield 78, 3) := by decide +kernel
theorem dX7_copy_69 : decode cX7_copy 69 = .ok (.if_icmp .eq 9, 3) := by decide +kernel
theorem dX7_copy_72 : decode cX7_copy 72 = .ok (.aload_n 0, 1) := by decide +kernel
theorem dX7_copy_73 : decode cX7_copy 73 = .ok (.iconst 5, 1) := by decide +kernel
theorem dX7_copy_74 : decode cX7_copy 74 = .ok (.invokevirtual 60, 3) := by decide +kernel
theorem dX7_copy_77 : decode cX7_copy 77 = .ok (.ireturn, 1) := by decide +kernel
theorem dX7_copy_78 : decode cX7_copy 78 = .ok (.aload 6, 2) := by decide +kernel
theorem dX7_copy_80 : decode cX7_copy 80 = .ok (.iload_n 2, 1) := by decide +kernel
theorem dX7_copy_81 : decode cX7_copy 81 = .ok (.iload 5, 2) := by decide +kernel
theorem dX7_copy_83 : decode cX7_copy 83 = .ok (.invokevirtual 82, 3) := by decide +kernel
theorem dX7_copy_86 : decode cX7_copy 86 = .ok (.ifCond .eq 15, 3) := by decide +kernel
theorem dX7_copy_89 : decode cX7_copy 89 = .ok (.aload 7, 2) := by decide +kernel
theorem dX7_copy_91 : decode cX7_copy 91 = .ok (.iload 4, 2) := by decide +kernel
theorem dX7_copy_93 : decode cX7_copy 93 = .ok (.iload 5, 2) := by decide +kernel
theorem dX7_copy_95 : decode cX7_copy 95 = .ok (.invokevirtual 82, 3) := by decide +kernel
theorem dX7_copy_98 : decode cX7_copy 98 = .ok (.ifCond .ne 9, 3) := by decide +kernel
theorem dX7_copy_101 : decode cX7_copy 101 = .ok (.aload_n 0, 1) := by decide +kernel
theorem dX7_copy_102 : decode cX7_copy 102 = .ok (.iconst 2, 1) := by decide +kernel
theorem dX7_copy_103 : decode cX7_copy 103 = .ok (.invokevirtual 60, 3) := by decide +kernel
theorem dX7_copy_106 : decode cX7_copy 106 = .ok (.ireturn, 1) := by decide +kernel
theorem dX7_copy_107 : decode cX7_copy 107 = .ok (.aload 6, 2) := by decide +kernel
theorem dX7_copy_109 : decode cX7_copy 109 = .ok (.getfield 86, 3) := by decide +kernel
theorem dX7_copy_112 : decode cX7_copy 112 = .ok (.iload_n 2, 1) := by decide +kernel
theorem dX7_copy_113 : decode cX7_copy 113 = .ok (.aload 7, 2) := by decide +kernel
theorem dX7_copy_115 : decode cX7_copy 115 = .ok (.getfield 86, 3) := by decide +kernel
theorem dX7_copy_118 : decode cX7_copy 118 = .ok (.iload 4, 2) := by decide +kernel
theorem dX7_copy_120 : decode cX7_copy 120 = .ok (.iload 5, 2) := by decide +kernel
theorem dX7_copy_122 : decode cX7_copy 122 = .ok (.invokestatic 90, 3) := by decide +kernel
theorem dX7_copy_125 : decode cX7_copy 125 = .ok (.aload_n 0, 1) := by decide +kernel
theorem dX7_copy_126 : decode cX7_copy 126 = .ok (.iload 5, 2) := by decide +kernel
theorem dX7_copy_128 : decode cX7_copy 128 = .ok (.invokevirtual 68, 3) := by decide +kernel
theorem dX7_copy_131 : decode cX7_copy 131 = .ok (.ireturn, 1) := by decide +kernel
set_option maxRecDepth 20000 in
theorem ggX7_drop_X7_isRow : GoodIn wsX7_drop wsX7_isRow := goodIn_r _ [9] (by decide +kernel) (by decide +kernel)
set_option maxRecDepth 20000 in
theorem gX7_drop_X7_isRow : GoodIn wsX7_drop (wsV RX7 55 RX7 yX7_isRow wsX7_isRow) := goodIn_app (goodIn_of _ (by decide +kernel)) ggX7_drop_X7_isRow
set_option maxRecDepth 20000 in
theorem ggX7_drop_X7_found : GoodIn wsX7_drop wsX7_found := goodIn_r _ [13, 14, 15, 20, 21, 22, 23, 24, 25, 26, 27, 28] (by decide +kernel) (by decide +kernel)
set_option maxRecDepth 20000 in
theorem gX7_drop_X7_found : GoodIn wsX7_drop (wsV RX7 60 RX7 yX7_found wsX7_found) := goodIn_app (goodIn_of _ (by decide +kernel)) ggX7_drop_X7_found
set_option maxRecDepth 20000 in
theorem ggX7_drop_X7_unfound : GoodIn wsX7_drop wsX7_unfound := goodIn_r _ [19, 14, 20, 21, 22, 23, 24, 25, 26, 27, 28] (by decide +kernel) (by decide +kernel)
set_option maxRecDepth 20000 in
theorem gX7_drop_X7_unfound : GoodIn wsX7_drop (wsV RX7 68 RX7 yX7_unfound wsX7_unfound) := goodIn_app (goodIn_of _ (by decide +kernel)) ggX7_drop_X7_unfound
theorem dX7_drop_0 : decode cX7_drop 0 = .ok (.aload_n 0, 1) := by decide +kernel
theorem dX7_drop_1 : decode cX7_drop 1 = .ok (.iload_n 1, 1) := by decide +kernel
theorem dX7_drop_2 : decode cX7_drop 2 = .ok (.invokevirtual 55, 3) := by decide +kernel
theorem dX7_drop_5 : decode cX7_drop 5 = .ok (.ifCond .ne 6, 3) := by decide +kernel
theorem dX7_drop_8 : decode cX7_drop 8 = .ok (.ldc 59, 2) := by decide +kernel
theorem dX7_drop_10 : decode cX7_drop 10 = .ok (.ireturn, 1) := by decide +kernel
theorem dX7_drop_11 : decode cX7_drop 11 = .ok (.aload_n 0, 1) := by decide +kernel
theorem dX7_drop_12 : decode cX7_drop 12 = .ok (.getfield 11, 3) := by decide +kernel
theorem dX7_drop_15 : decode cX7_drop 15 = .ok (.iload_n 1, 1) := by decide +kernel
theorem dX7_drop_16 : decode cX7_drop 16 = .ok (.aaload, 1) := by decide +kernel
theorem dX7_drop_17 : decode cX7_drop 17 = .ok (.getfield 78, 3) := by decide +kernel
theorem dX7_drop_20 : decode cX7_drop 20 = .ok (.iconst (-1), 1) := by decide +kernel
theorem dX7_drop_21 : decode cX7_drop 21 = .ok (.if_icmp .ne 9, 3) := by decide +kernel
theorem dX7_drop_24 : decode cX7_drop 24 = .ok (.aload_n 0, 1) := by decide +kernel
theorem dX7_drop_25 : decode cX7_drop 25 = .ok (.iconst 1, 1) := by decide +kernel
theorem dX7_drop_26 : decode cX7_drop 26 = .ok (.invokevirtual 60, 3) := by decide +kernel
theorem dX7_drop_29 : decode cX7_drop 29 = .ok (.ireturn, 1) := by decide +kernel
theorem dX7_drop_30 : decode cX7_drop 30 = .ok (.aload_n 0, 1) := by decide +kernel
theorem dX7_drop_31 : decode cX7_drop 31 = .ok (.getfield 11, 3) := by decide +kernel
theorem dX7_drop_34 : decode cX7_drop 34 = .ok (.iload_n 1, 1) := by decide +kernel
theorem dX7_drop_35 : decode cX7_drop 35 = .ok (.aaload, 1) := by decide +kernel
theorem dX7_drop_36 : decode cX7_drop 36 = .ok (.iconst (-1), 1) := by decide +kernel
theorem dX7_drop_37 : decode cX7_drop 37 = .ok (.putfield 78, 3) := by decide +kernel
theorem dX7_drop_40 : decode cX7_drop 40 = .ok (.aload_n 0, 1) := by decide +kernel
theorem dX7_drop_41 : decode cX7_drop 41 = .ok (.aload_n 0, 1) := by decide +kernel
theorem dX7_drop_42 : decode cX7_drop 42 = .ok (.getfield 11, 3) := by decide +kernel
theorem dX7_drop_45 : decode cX7_drop 45 = .ok (.iload_n 1, 1) := by decide +kernel
theorem dX7_drop_46 : decode cX7_drop 46 = .ok (.aaload, 1) := by decide +kernel
theorem dX7_drop_47 : decode cX7_drop 47 = .ok (.getfield 96, 3) := by decide +kernel
theorem dX7_drop_50 : decode cX7_drop 50 = .ok (.invokevirtual 68, 3) := by decide +kernel
theorem dX7_drop_53 : decode cX7_drop 53 = .ok (.ireturn, 1) := by decide +kernel
set_option maxRecDepth 20000 in
theorem ggX7_feed_X6_append : GoodIn wsX7_feed wsX6_append := goodIn_r _ [9, 10, 11, 21, 22, 23, 24, 25, 26, 27] (by decide +kernel) (by decide +kernel)
set_option maxRecDepth 20000 in
theorem gX7_feed_X6_append : GoodIn wsX7_feed (wsV RX7 99 RX6 yX6_append wsX6_append) := goodIn_app (goodIn_of _ (by decide +kernel)) ggX7_feed_X6_append
theorem dX7_feed_0 : decode cX7_feed 0 = .ok (.iload_n 1, 1) := by decide +kernel
theorem dX7_feed_1 : decode cX7_feed 1 = .ok (.ifCond .lt 10, 3) := by decide +kernel
theorem dX7_feed_4 : decode cX7_feed 4 = .ok (.iload_n 1, 1) := by decide +kernel
theorem dX7_feed_5 : decode cX7_feed 5 = .ok (.sipush 255, 3) := by decide +kernel
theorem dX7_feed_8 : decode cX7_feed 8 = .ok (.if_icmp .le 6, 3) := by decide +kernel
theorem dX7_feed_11 : decode cX7_feed 11 = .ok (.ldc 59, 2) := by decide +kernel
theorem dX7_feed_13 : decode cX7_feed 13 = .ok (.ireturn, 1) := by decide +kernel
theorem dX7_feed_14 : decode cX7_feed 14 = .ok (.aload_n 0, 1) := by decide +kernel
theorem dX7_feed_15 : decode cX7_feed 15 = .ok (.getfield 18, 3) := by decide +kernel
theorem dX7_feed_18 : decode cX7_feed 18 = .ok (.iload_n 1, 1) := by decide +kernel
theorem dX7_feed_19 : decode cX7_feed 19 = .ok (.invokevirtual 99, 3) := by decide +kernel
theorem dX7_feed_22 : decode cX7_feed 22 = .ok (.ifCond .eq 13, 3) := by decide +kernel
theorem dX7_feed_25 : decode cX7_feed 25 = .ok (.aload_n 0, 1) := by decide +kernel
theorem dX7_feed_26 : decode cX7_feed 26 = .ok (.getfield 18, 3) := by decide +kernel
theorem dX7_feed_29 : decode cX7_feed 29 = .ok (.getfield 102, 3) := by decide +kernel
theorem dX7_feed_32 : decode cX7_feed 32 = .ok (.goto 5, 3) := by decide +kernel
theorem dX7_feed_35 : decode cX7_feed 35 = .ok (.ldc 105, 2) := by decide +kernel
theorem dX7_feed_37 : decode cX7_feed 37 = .ok (.ireturn, 1) := by decide +kernel
set_option maxRecDepth 20000 in
theorem ggX7_gate_X6_read : GoodIn wsX7_gate wsX6_read := goodIn_r _ [15, 16, 17, 18, 19, 20, 21, 22, 23, 14, 24, 25, 26, 27, 28, 29, 30, 31, 32, 33, 34, 35, 36, 37, 38, 39, 40, 41, 42, 43, 44, 45, 46, 47, 48, 49, 50, 51, 52, 53, 54, 55, 56, 57, 58, 59, 60, 61, 62, 63, 64, 65, 66, 67, 68, 69, 70, 71, 72, 73, 74, 75, 76, 77, 78, 79, 80, 81, 82, 83, 84, 85, 125, 126, 127, 128, 129, 130, 131, 132, 133, 134, 135, 136, 137, 138, 139, 140, 141, 142, 143, 144, 145, 146, 147] (by decide +kernel) (by decide +kernel)
set_option maxRecDepth 20000 in
theorem gX7_gate_X6_read : GoodIn wsX7_gate (wsV RX7 106 RX6 yX6_read wsX6_read) := goodIn_app (goodIn_of _ (by decide +kernel)) ggX7_gate_X6_read
set_option maxRecDepth 20000 in
theorem ggX7_gate_X2_become : GoodIn wsX7_gate wsX2_become := goodIn_r _ [89, 66, 90, 91, 92, 93, 94, 95, 96, 97, 98, 99, 100, 101, 102, 103, 80, 104, 82, 105, 83, 84, 85, 106, 107, 108, 109, 132, 133, 134, 135, 136, 137, 138, 139, 140, 141, 142, 143, 144, 145, 146, 147] (by decide +kernel) (by decide +kernel)
set_option maxRecDepth 20000 in
theorem gX7_gate_X2_become : GoodIn wsX7_gate (wsV RX7 123 RX2 yX2_become wsX2_become) := goodIn_app (goodIn_of _ (by decide +kernel)) ggX7_gate_X2_become
set_option maxRecDepth 20000 in
theorem ggX7_gate_X0_forget : GoodIn wsX7_gate wsX0_forget := goodIn_r _ [114, 115, 148, 149, 150] (by decide +kernel) (by decide +kernel)
set_option maxRecDepth 20000 in
theorem gX7_gate_X0_forget : GoodIn wsX7_gate (wsV RX7 127 RX0 yX0_forget wsX0_forget) := goodIn_app (goodIn_of _ (by decide +kernel)) ggX7_gate_X0_forget
theorem dX7_gate_0 : decode cX7_gate 0 = .ok (.aload_n 0, 1) := by decide +kernel
theorem dX7_gate_1 : decode cX7_gate 1 = .ok (.getfield 18, 3) := by decide +kernel
theorem dX7_gate_4 : decode cX7_gate 4 = .ok (.invokevirtual 106, 3) := by decide +kernel
theorem dX7_gate_7 : decode cX7_gate 7 = .ok (.istore_n 1, 1) := by decide +kernel
theorem dX7_gate_8 : decode cX7_gate 8 = .ok (.aload_n 0, 1) := by decide +kernel
theorem dX7_gate_9 : decode cX7_gate 9 = .ok (.getfield 18, 3) := by decide +kernel
theorem dX7_gate_12 : decode cX7_gate 12 = .ok (.iconst 0, 1) := by decide +kernel
theorem dX7_gate_13 : decode cX7_gate 13 = .ok (.putfield 102, 3) := by decide +kernel
theorem dX7_gate_16 : decode cX7_gate 16 = .ok (.iload_n 1, 1) := by decide +kernel
theorem dX7_gate_17 : decode cX7_gate 17 = .ok (.ifCond .ne 25, 3) := by decide +kernel
theorem dX7_gate_20 : decode cX7_gate 20 = .ok (.aload_n 0, 1) := by decide +kernel
theorem dX7_gate_21 : decode cX7_gate 21 = .ok (.aload_n 0, 1) := by decide +kernel
theorem dX7_gate_22 : decode cX7_gate 22 = .ok (.getfield 18, 3) := by decide +kernel
theorem dX7_gate_25 : decode cX7_gate 25 = .ok (.getfield 110, 3) := by decide +kernel
theorem dX7_gate_28 : decode cX7_gate 28 = .ok (.putfield 113, 3) := by decide +kernel
theorem dX7_gate_31 : decode cX7_gate 31 = .ok (.ldc 116, 2) := by decide +kernel
theorem dX7_gate_33 : decode cX7_gate 33 = .ok (.aload_n 0, 1) := by decide +kernel
theorem dX7_gate_34 : decode cX7_gate 34 = .ok (.getfield 18, 3) := by decide +kernel
theorem dX7_gate_37 : decode cX7_gate 37 = .ok (.getfield 117, 3) := by decide +kernel
theorem dX7_gate_40 : decode cX7_gate 40 = .ok (.isub, 1) := by decide +kernel
theorem dX7_gate_41 : decode cX7_gate 41 = .ok (.ireturn, 1) := by decide +kernel
theorem dX7_gate_42 : decode cX7_gate 42 = .ok (.aload_n 0, 1) := by decide +kernel
theorem dX7_gate_43 : decode cX7_gate 43 = .ok (.getfield 25, 3) := by decide +kernel
theorem dX7_gate_46 : decode cX7_gate 46 = .ok (.aload_n 0, 1) := by decide +kernel
theorem dX7_gate_47 : decode cX7_gate 47 = .ok (.getfield 18, 3) := by decide +kernel
theorem dX7_gate_50 : decode cX7_gate 50 = .ok (.getfield 120, 3) := by decide +kernel
theorem dX7_gate_53 : decode cX7_gate 53 = .ok (.invokevirtual 123, 3) := by decide +kernel
theorem dX7_gate_56 : decode cX7_gate 56 = .ok (.aload_n 0, 1) := by decide +kernel
theorem dX7_gate_57 : decode cX7_gate 57 = .ok (.getfield 32, 3) := by decide +kernel
theorem dX7_gate_60 : decode cX7_gate 60 = .ok (.invokevirtual 127, 3) := by decide +kernel
theorem dX7_gate_63 : decode cX7_gate 63 = .ok (.aload_n 0, 1) := by decide +kernel
theorem dX7_gate_64 : decode cX7_gate 64 = .ok (.getfield 25, 3) := by decide +kernel
theorem dX7_gate_67 : decode cX7_gate 67 = .ok (.getfield 130, 3) := by decide +kernel
theorem dX7_gate_70 : decode cX7_gate 70 = .ok (.ireturn, 1) := by decide +kernel
theorem dX7_fault_0 : decode cX7_fault 0 = .ok (.aload_n 0, 1) := by decide +kernel
theorem dX7_fault_1 : decode cX7_fault 1 = .ok (.getfield 113, 3) := by decide +kernel
theorem dX7_fault_4 : decode cX7_fault 4 = .ok (.ireturn, 1) := by decide +kernel
set_option maxRecDepth 20000 in
theorem ggX7_nights_X7_noGate : GoodIn wsX7_nights wsX7_noGate := goodIn_r _ [12, 3, 13, 64, 65, 66, 67, 68, 69, 70, 71, 72, 73, 74, 75, 76, 77, 78, 79, 80] (by decide +kernel) (by decide +kernel)
set_option maxRecDepth 20000 in
theorem gX7_nights_X7_noGate : GoodIn wsX7_nights (wsV RX7 133 RX7 yX7_noGate wsX7_noGate) := goodIn_app (goodIn_of _ (by decide +kernel)) ggX7_nights_X7_noGate
set_option maxRecDepth 20000 in
theorem ggX7_nights_X0_keep : GoodIn wsX7_nights wsX0_keep := goodIn_r _ [18, 19, 20, 21, 22, 23, 24, 25, 26, 27, 28, 29, 30, 31, 32, 33, 34, 35, 36, 37, 38, 39, 40, 41, 42, 89, 90, 91, 81, 82, 83, 84, 85, 86, 87, 88] (by decide +kernel) (by decide +kernel)
set_option maxRecDepth 20000 in
theorem gX7_nights_X0_keep : GoodIn wsX7_nights (wsV RX7 146 RX0 yX0_keep wsX0_keep) := goodIn_app (goodIn_of _ (by decide +kernel)) ggX7_nights_X0_keep
set_option maxRecDepth 20000 in
theorem ggX7_nights_X4_goBy : GoodIn wsX7_nights wsX4_goBy := goodIn_r _ [46, 31, 34, 81, 82, 83, 84, 85, 86, 87, 88] (by decide +kernel) (by decide +kernel)
set_option maxRecDepth 20000 in
theorem gX7_nights_X4_goBy : GoodIn wsX7_nights (wsV RX7 150 RX4 yX4_goBy wsX4_goBy) := goodIn_app (goodIn_of _ (by decide +kernel)) ggX7_nights_X4_goBy
set_option maxRecDepth 20000 in
theorem ggX7_nights_X2_secretIn : GoodIn wsX7_nights wsX2_secretIn := goodIn_r _ [51, 52, 53, 54, 55, 56, 57, 58, 59, 50, 60, 61, 62, 11, 63, 73, 74, 75, 76, 77, 78, 79, 80, 81, 82, 83, 84, 85, 86, 87, 88] (by decide +kernel) (by decide +kernel)
set_option maxRecDepth 20000 in
theorem gX7_nights_X2_secretIn : GoodIn wsX7_nights (wsV RX7 153 RX2 yX2_secretIn wsX2_secretIn) := goodIn_app (goodIn_of _ (by decide +kernel)) ggX7_nights_X2_secretIn
theorem dX7_nights_0 : decode cX7_nights 0 = .ok (.aload_n 0, 1) := by decide +kernel
theorem dX7_nights_1 : decode cX7_nights 1 = .ok (.invokevirtual 133, 3) := by decide +kernel
theorem dX7_nights_4 : decode cX7_nights 4 = .ok (.ifCond .eq 6, 3) := by decide +kernel
theorem dX7_nights_7 : decode cX7_nights 7 = .ok (.ldc 136, 2) := by decide +kernel
theorem dX7_nights_9 : decode cX7_nights 9 = .ok (.ireturn, 1) := by decide +kernel
theorem dX7_nights_10 : decode cX7_nights 10 = .ok (.iload_n 1, 1) := by decide +kernel
theorem dX7_nights_11 : decode cX7_nights 11 = .ok (.iconst 1, 1) := by decide +kernel
theorem dX7_nights_12 : decode cX7_nights 12 = .ok (.if_icmp .lt 9, 3) := by decide +kernel
theorem dX7_nights_15 : decode cX7_nights 15 = .ok (.iload_n 1, 1) := by decide +kernel
theorem dX7_nights_16 : decode cX7_nights 16 = .ok (.bipush 24, 2) := by decide +kernel
theorem dX7_nights_18 : decode cX7_nights 18 = .ok (.if_icmp .le 6, 3) := by decide +kernel
theorem dX7_nights_21 : decode cX7_nights 21 = .ok (.ldc 59, 2) := by decide +kernel
theorem dX7_nights_23 : decode cX7_nights 23 = .ok (.ireturn, 1) := by decide +kernel
theorem dX7_nights_24 : decode cX7_nights 24 = .ok (.aload_n 0, 1) := by decide +kernel
theorem dX7_nights_25 : decode cX7_nights 25 = .ok (.getfield 25, 3) := by decide +kernel
theorem dX7_nights_28 : decode cX7_nights 28 = .ok (.getfield 137, 3) := by decide +kernel
theorem dX7_nights_31 : decode cX7_nights 31 = .ok (.getfield 141, 3) := by decide +kernel
theorem dX7_nights_34 : decode cX7_nights 34 = .ok (.iload_n 1, 1) := by decide +kernel
theorem dX7_nights_35 : decode cX7_nights 35 = .ok (.iadd, 1) := by decide +kernel
theorem dX7_nights_36 : decode cX7_nights 36 = .ok (.sipush 999, 3) := by decide +kernel
theorem dX7_nights_39 : decode cX7_nights 39 = .ok (.if_icmp .le 6, 3) := by decide +kernel
theorem dX7_nights_42 : decode cX7_nights 42 = .ok (.ldc 105, 2) := by decide +kernel
theorem dX7_nights_44 : decode cX7_nights 44 = .ok (.ireturn, 1) := by decide +kernel
theorem dX7_nights_45 : decode cX7_nights 45 = .ok (.iconst 0, 1) := by decide +kernel
theorem dX7_nights_46 : decode cX7_nights 46 = .ok (.istore_n 2, 1) := by decide +kernel
theorem dX7_nights_47 : decode cX7_nights 47 = .ok (.iload_n 2, 1) := by decide +kernel
theorem dX7_nights_48 : decode cX7_nights 48 = .ok (.iload_n 1, 1) := by decide +kernel
theorem dX7_nights_49 : decode cX7_nights 49 = .ok (.if_icmp .ge 33, 3) := by decide +kernel
theorem dX7_nights_52 : decode cX7_nights 52 = .ok (.aload_n 0, 1) := by decide +kernel
theorem dX7_nights_53 : decode cX7_nights 53 = .ok (.getfield 32, 3) := by decide +kernel
theorem dX7_nights_56 : decode cX7_nights 56 = .ok (.aload_n 0, 1) := by decide +kernel
theorem dX7_nights_57 : decode cX7_nights 57 = .ok (.getfield 25, 3) := by decide +kernel
theorem dX7_nights_60 : decode cX7_nights 60 = .ok (.getfield 137, 3) := by decide +kernel
theorem dX7_nights_63 : decode cX7_nights 63 = .ok (.invokevirtual 146, 3) := by decide +kernel
theorem dX7_nights_66 : decode cX7_nights 66 = .ok (.aload_n 0, 1) := by decide +kernel
theorem dX7_nights_67 : decode cX7_nights 67 = .ok (.getfield 25, 3) := by decide +kernel
theorem dX7_nights_70 : decode cX7_nights 70 = .ok (.getfield 137, 3) := by decide +kernel
theorem dX7_nights_73 : decode cX7_nights 73 = .ok (.invokevirtual 150, 3) := by decide +kernel
theorem dX7_nights_76 : decode cX7_nights 76 = .ok (.iinc 2 1, 3) := by decide +kernel
theorem dX7_nights_79 : decode cX7_nights 79 = .ok (.goto (-32), 3) := by decide +kernel
theorem dX7_nights_82 : decode cX7_nights 82 = .ok (.aload_n 0, 1) := by decide +kernel
theorem dX7_nights_83 : decode cX7_nights 83 = .ok (.getfield 25, 3) := by decide +kernel
theorem dX7_nights_86 : decode cX7_nights 86 = .ok (.iconst 0, 1) := by decide +kernel
theorem dX7_nights_87 : decode cX7_nights 87 = .ok (.invokevirtual 153, 3) := by decide +kernel
theorem dX7_nights_90 : decode cX7_nights 90 = .ok (.ireturn, 1) := by decide +kernel
set_option maxRecDepth 20000 in
theorem ggX7_say_X7_isWord : GoodIn wsX7_say wsX7_isWord := goodIn_r _ [13, 2, 14, 106, 107, 108, 109, 110, 111, 112, 113, 114, 115, 116, 117, 118, 119, 120, 121, 122] (by decide +kernel) (by decide +kernel)
set_option maxRecDepth 20000 in
theorem gX7_say_X7_isWord : GoodIn wsX7_say (wsV RX7 156 RX7 yX7_isWord wsX7_isWord) := goodIn_app (goodIn_of _ (by decide +kernel)) ggX7_say_X7_isWord
set_option maxRecDepth 20000 in
theorem ggX7_say_X7_isHour : GoodIn wsX7_say wsX7_isHour := goodIn_r _ [18] (by decide +kernel) (by decide +kernel)
set_option maxRecDepth 20000 in
theorem gX7_say_X7_isHour : GoodIn wsX7_say (wsV RX7 159 RX7 yX7_isHour wsX7_isHour) := goodIn_app (goodIn_of _ (by decide +kernel)) ggX7_say_X7_isHour
set_option maxRecDepth 20000 in
theorem ggX7_say_X2_guardOn : GoodIn wsX7_say wsX2_guardOn := goodIn_r _ [23, 24, 25, 12, 26, 115, 116, 117, 118, 119, 120, 121, 122] (by decide +kernel) (by decide +kernel)
set_option maxRecDepth 20000 in
theorem gX7_say_X2_guardOn : GoodIn wsX7_say (wsV RX7 165 RX2 yX2_guardOn wsX2_guardOn) := goodIn_app (goodIn_of _ (by decide +kernel)) ggX7_say_X2_guardOn
set_option maxRecDepth 20000 in
theorem ggX7_say_X2_catches : GoodIn wsX7_say wsX2_catches := goodIn_r _ [30, 31, 32, 33, 34, 35, 22, 36, 37, 38, 39, 40, 41, 42, 43, 44, 25, 12, 26, 45, 46, 47, 48, 49, 50, 20, 21, 23, 24, 51, 52, 53, 54, 55, 56, 57, 58, 59, 60, 61, 62, 63, 64, 65, 66, 67, 68, 115, 116, 117, 118, 119, 120, 121, 122, 123, 124, 125, 126, 127, 128, 129, 130] (by decide +kernel) (by decide +kernel)
set_option maxRecDepth 20000 in
theorem gX7_say_X2_catches : GoodIn wsX7_say (wsV RX7 168 RX2 yX2_catches wsX2_catches) := goodIn_app (goodIn_of _ (by decide +kernel)) ggX7_say_X2_catches
set_option maxRecDepth 20000 in
theorem ggX7_say_X0_keep : GoodIn wsX7_say wsX0_keep := goodIn_r _ [73, 74, 75, 76, 77, 78, 79, 80, 81, 82, 83, 84, 85, 86, 87, 88, 89, 90, 91, 92, 93, 94, 95, 96, 97, 131, 132, 133, 123, 124, 125, 126, 127, 128, 129, 130] (by decide +kernel) (by decide +kernel)
set_option maxRecDepth 20000 in
theorem gX7_say_X0_keep : GoodIn wsX7_say (wsV RX7 146 RX0 yX0_keep wsX0_keep) := goodIn_app (goodIn_of _ (by decide +kernel)) ggX7_say_X0_keep
set_option maxRecDepth 20000 in
theorem ggX7_say_X2_isThere : GoodIn wsX7_say wsX2_isThere := goodIn_r _ [54, 31, 55, 115, 116, 117, 118, 119, 120, 121, 122, 123, 124, 125, 126, 127, 128, 129, 130] (by decide +kernel) (by decide +kernel)
set_option maxRecDepth 20000 in
theorem gX7_say_X2_isThere : GoodIn wsX7_say (wsV RX7 172 RX2 yX2_isThere wsX2_isThere) := goodIn_app (goodIn_of _ (by decide +kernel)) ggX7_say_X2_isThere
set_option maxRecDepth 20000 in
theorem ggX7_say_X4_addTry : GoodIn wsX7_say wsX4_addTry := goodIn_r _ [102, 89, 95, 96, 97, 90, 103, 12, 104, 123, 124, 125, 126, 127, 128, 129, 130] (by decide +kernel) (by decide +kernel)
set_option maxRecDepth 20000 in
theorem gX7_say_X4_addTry : GoodIn wsX7_say (wsV RX7 176 RX4 yX4_addTry wsX4_addTry) := goodIn_app (goodIn_of _ (by decide +kernel)) ggX7_say_X4_addTry
set_option maxRecDepth 20000 in
theorem ggX7_say_X7_bit : GoodIn wsX7_say wsX7_bit := goodIn_r _ [104] (by decide +kernel) (by decide +kernel)
set_option maxRecDepth 20000 in
theorem gX7_say_X7_bit : GoodIn wsX7_say (va_wsS RX7 180 yX7_bit wsX7_bit) := goodIn_app (goodIn_of _ (by decide +kernel)) ggX7_say_X7_bit
theorem dX7_say_0 : decode cX7_say 0 = .ok (.aload_n 0, 1) := by decide +kernel
theorem dX7_say_1 : decode cX7_say 1 = .ok (.iload_n 1, 1) := by decide +kernel
theorem dX7_say_2 : decode cX7_say 2 = .ok (.invokevirtual 156, 3) := by decide +kernel
theorem dX7_say_5 : decode cX7_say 5 = .ok (.ifCond .eq 11, 3) := by decide +kernel
theorem dX7_say_8 : decode cX7_say 8 = .ok (.aload_n 0, 1) := by decide +kernel
theorem dX7_say_9 : decode cX7_say 9 = .ok (.iload_n 2, 1) := by decide +kernel
theorem dX7_say_10 : decode cX7_say 10 = .ok (.invokevirtual 159, 3) := by decide +kernel
theorem dX7_say_13 : decode cX7_say 13 = .ok (.ifCond .ne 6, 3) := by decide +kernel
theorem dX7_say_16 : decode cX7_say 16 = .ok (.ldc 59, 2) := by decide +kernel
theorem dX7_say_18 : decode cX7_say 18 = .ok (.ireturn, 1) := by decide +kernel
theorem dX7_say_19 : decode cX7_say 19 = .ok (.aload_n 0, 1) := by decide +kernel
theorem dX7_say_20 : decode cX7_say 20 = .ok (.getfield 25, 3) := by decide +kernel
theorem dX7_say_23 : decode cX7_say 23 = .ok (.getfield 137, 3) := by decide +kernel
theorem dX7_say_26 : decode cX7_say 26 = .ok (.getfield 162, 3) := by decide +kernel
theorem dX7_say_29 : decode cX7_say 29 = .ok (.bipush 9, 2) := by decide +kernel
theorem dX7_say_31 : decode cX7_say 31 = .ok (.if_icmp .lt 6, 3) := by decide +kernel
theorem dX7_say_34 : decode cX7_say 34 = .ok (.ldc 105, 2) := by decide +kernel
theorem dX7_say_36 : decode cX7_say 36 = .ok (.ireturn, 1) := by decide +kernel
theorem dX7_say_37 : decode cX7_say 37 = .ok (.aload_n 0, 1) := by decide +kernel
theorem dX7_say_38 : decode cX7_say 38 = .ok (.getfield 25, 3) := by decide +kernel
theorem dX7_say_41 : decode cX7_say 41 = .ok (.aload_n 0, 1) := by decide +kernel
theorem dX7_say_42 : decode cX7_say 42 = .ok (.getfield 25, 3) := by decide +kernel
theorem dX7_say_45 : decode cX7_say 45 = .ok (.getfield 137, 3) := by decide +kernel
theorem dX7_say_48 : decode cX7_say 48 = .ok (.getfield 141, 3) := by decide +kernel
theorem dX7_say_51 : decode cX7_say 51 = .ok (.iload_n 2, 1) := by decide +kernel
theorem dX7_say_52 : decode cX7_say 52 = .ok (.invokevirtual 165, 3) := by decide +kernel
theorem dX7_say_55 : decode cX7_say 55 = .ok (.istore_n 3, 1) := by decide +kernel
theorem dX7_say_56 : decode cX7_say 56 = .ok (.aload_n 0, 1) := by decide +kernel
theorem dX7_say_57 : decode cX7_say 57 = .ok (.getfield 25, 3) := by decide +kernel
theorem dX7_say_60 : decode cX7_say 60 = .ok (.iload_n 1, 1) := by decide +kernel
theorem dX7_say_61 : decode cX7_say 61 = .ok (.iload_n 2, 1) := by decide +kernel
theorem dX7_say_62 : decode cX7_say 62 = .ok (.iconst 0, 1) := by decide +kernel
theorem dX7_say_63 : decode cX7_say 63 = .ok (.invokevirtual 168, 3) := by decide +kernel
theorem dX7_say_66 : decode cX7_say 66 = .ok (.istore 4, 2) := by decide +kernel
theorem dX7_say_68 : decode cX7_say 68 = .ok (.aload_n 0, 1) := by decide +kernel
theorem dX7_say_69 : decode cX7_say 69 = .ok (.getfield 32, 3) := by decide +kernel
theorem dX7_say_72 : decode cX7_say 72 = .ok (.aload_n 0, 1) := by decide +kernel
theorem dX7_say_73 : decode cX7_say 73 = .ok (.getfield 25, 3) := by decide +kernel
theorem dX7_say_76 : decode cX7_say 76 = .ok (.getfield 137, 3) := by decide +kernel
theorem dX7_say_79 : decode cX7_say 79 = .ok (.invokevirtual 146, 3) := by decide +kernel
theorem dX7_say_82 : decode cX7_say 82 = .ok (.aload_n 0, 1) := by decide +kernel
theorem dX7_say_83 : decode cX7_say 83 = .ok (.getfield 25, 3) := by decide +kernel
theorem dX7_say_86 : decode cX7_say 86 = .ok (.getfield 137, 3) := by decide +kernel
theorem dX7_say_89 : decode cX7_say 89 = .ok (.iload_n 1, 1) := by decide +kernel
theorem dX7_say_90 : decode cX7_say 90 = .ok (.aload_n 0, 1) := by decide +kernel
theorem dX7_say_91 : decode cX7_say 91 = .ok (.getfield 25, 3) := by decide +kernel
theorem dX7_say_94 : decode cX7_say 94 = .ok (.iload_n 3, 1) := by decide +kernel
theorem dX7_say_95 : decode cX7_say 95 = .ok (.invokevirtual 172, 3) := by decide +kernel
theorem dX7_say_98 : decode cX7_say 98 = .ok (.ifCond .eq 7, 3) := by decide +kernel
theorem dX7_say_101 : decode cX7_say 101 = .ok (.iload_n 3, 1) := by decide +kernel
theorem dX7_say_102 : decode cX7_say 102 = .ok (.goto 5, 3) := by decide +kernel
theorem dX7_say_105 : decode cX7_say 105 = .ok (.ldc 175, 2) := by decide +kernel
theorem dX7_say_107 : decode cX7_say 107 = .ok (.iload 4, 2) := by decide +kernel
theorem dX7_say_109 : decode cX7_say 109 = .ok (.invokevirtual 176, 3) := by decide +kernel
theorem dX7_say_112 : decode cX7_say 112 = .ok (.iload 4, 2) := by decide +kernel
theorem dX7_say_114 : decode cX7_say 114 = .ok (.invokestatic 180, 3) := by decide +kernel
theorem dX7_say_117 : decode cX7_say 117 = .ok (.ireturn, 1) := by decide +kernel
set_option maxRecDepth 20000 in
theorem ggX7_start_X7_noGate : GoodIn wsX7_start wsX7_noGate := goodIn_r _ [11, 3, 12, 42, 43, 44, 45, 46, 47, 48, 49, 50, 51, 52, 53, 54, 55, 56, 57, 58] (by decide +kernel) (by decide +kernel)
set_option maxRecDepth 20000 in
theorem gX7_start_X7_noGate : GoodIn wsX7_start (wsV RX7 133 RX7 yX7_noGate wsX7_noGate) := goodIn_app (goodIn_of _ (by decide +kernel)) ggX7_start_X7_noGate
set_option maxRecDepth 20000 in
theorem ggX7_start_X0_keep : GoodIn wsX7_start wsX0_keep := goodIn_r _ [17, 18, 19, 20, 21, 22, 23, 24, 25, 26, 27, 28, 29, 30, 31, 32, 33, 34, 35, 36, 37, 38, 39, 40, 41, 67, 68, 69, 59, 60, 61, 62, 63, 64, 65, 66] (by decide +kernel) (by decide +kernel)
set_option maxRecDepth 20000 in
theorem gX7_start_X0_keep : GoodIn wsX7_start (wsV RX7 146 RX0 yX0_keep wsX0_keep) := goodIn_app (goodIn_of _ (by decide +kernel)) ggX7_start_X0_keep
theorem dX7_start_0 : decode cX7_start 0 = .ok (.aload_n 0, 1) := by decide +kernel
theorem dX7_start_1 : decode cX7_start 1 = .ok (.invokevirtual 133, 3) := by decide +kernel
theorem dX7_start_4 : decode cX7_start 4 = .ok (.ifCond .eq 6, 3) := by decide +kernel
theorem dX7_start_7 : decode cX7_start 7 = .ok (.ldc 136, 2) := by decide +kernel
theorem dX7_start_9 : decode cX7_start 9 = .ok (.ireturn, 1) := by decide +kernel
theorem dX7_start_10 : decode cX7_start 10 = .ok (.iload_n 1, 1) := by decide +kernel
theorem dX7_start_11 : decode cX7_start 11 = .ok (.ifCond .lt 9, 3) := by decide +kernel
theorem dX7_start_14 : decode cX7_start 14 = .ok (.iload_n 1, 1) := by decide +kernel
theorem dX7_start_15 : decode cX7_start 15 = .ok (.bipush 9, 2) := by decide +kernel
theorem dX7_start_17 : decode cX7_start 17 = .ok (.if_icmp .le 6, 3) := by decide +kernel
theorem dX7_start_20 : decode cX7_start 20 = .ok (.ldc 59, 2) := by decide +kernel
theorem dX7_start_22 : decode cX7_start 22 = .ok (.ireturn, 1) := by decide +kernel
theorem dX7_start_23 : decode cX7_start 23 = .ok (.aload_n 0, 1) := by decide +kernel
theorem dX7_start_24 : decode cX7_start 24 = .ok (.getfield 25, 3) := by decide +kernel
theorem dX7_start_27 : decode cX7_start 27 = .ok (.getfield 137, 3) := by decide +kernel
theorem dX7_start_30 : decode cX7_start 30 = .ok (.getfield 184, 3) := by decide +kernel
theorem dX7_start_33 : decode cX7_start 33 = .ok (.istore_n 2, 1) := by decide +kernel
theorem dX7_start_34 : decode cX7_start 34 = .ok (.aload_n 0, 1) := by decide +kernel
theorem dX7_start_35 : decode cX7_start 35 = .ok (.getfield 32, 3) := by decide +kernel
theorem dX7_start_38 : decode cX7_start 38 = .ok (.aload_n 0, 1) := by decide +kernel
theorem dX7_start_39 : decode cX7_start 39 = .ok (.getfield 25, 3) := by decide +kernel
theorem dX7_start_42 : decode cX7_start 42 = .ok (.getfield 137, 3) := by decide +kernel
theorem dX7_start_45 : decode cX7_start 45 = .ok (.invokevirtual 146, 3) := by decide +kernel
theorem dX7_start_48 : decode cX7_start 48 = .ok (.aload_n 0, 1) := by decide +kernel
theorem dX7_start_49 : decode cX7_start 49 = .ok (.getfield 25, 3) := by decide +kernel
theorem dX7_start_52 : decode cX7_start 52 = .ok (.getfield 137, 3) := by decide +kernel
theorem dX7_start_55 : decode cX7_start 55 = .ok (.iload_n 1, 1) := by decide +kernel
theorem dX7_start_56 : decode cX7_start 56 = .ok (.putfield 184, 3) := by decide +kernel
theorem dX7_start_59 : decode cX7_start 59 = .ok (.iload_n 2, 1) := by decide +kernel
theorem dX7_start_60 : decode cX7_start 60 = .ok (.ireturn, 1) := by decide +kernel
set_option maxRecDepth 20000 in
theorem ggX7_dismiss_X7_isGuard : GoodIn wsX7_dismiss wsX7_isGuard := goodIn_r _ [11, 2, 12, 52, 53, 54, 55, 56, 57, 58, 59, 60, 61, 62, 63, 64, 65, 66, 67, 68] (by decide +kernel) (by decide +kernel)
set_option maxRecDepth 20000 in
theorem gX7_dismiss_X7_isGuard : GoodIn wsX7_dismiss (wsV RX7 187 RX7 yX7_isGuard wsX7_isGuard) := goodIn_app (goodIn_of _ (by decide +kernel)) ggX7_dismiss_X7_isGuard
set_option maxRecDepth 20000 in
theorem ggX7_dismiss_X2_isThere : GoodIn wsX7_dismiss wsX2_isThere := goodIn_r _ [17, 18, 19, 61, 62, 63, 64, 65, 66, 67, 68, 69, 70, 71, 72, 73, 74, 75, 76] (by decide +kernel) (by decide +kernel)
set_option maxRecDepth 20000 in
theorem gX7_dismiss_X2_isThere : GoodIn wsX7_dismiss (wsV RX7 172 RX2 yX2_isThere wsX2_isThere) := goodIn_app (goodIn_of _ (by decide +kernel)) ggX7_dismiss_X2_isThere
set_option maxRecDepth 20000 in
theorem ggX7_dismiss_X7_bit : GoodIn wsX7_dismiss wsX7_bit := goodIn_r _ [22] (by decide +kernel) (by decide +kernel)
set_option maxRecDepth 20000 in
theorem gX7_dismiss_X7_bit : GoodIn wsX7_dismiss (va_wsS RX7 180 yX7_bit wsX7_bit) := goodIn_app (goodIn_of _ (by decide +kernel)) ggX7_dismiss_X7_bit
set_option maxRecDepth 20000 in
theorem ggX7_dismiss_X0_keep : GoodIn wsX7_dismiss wsX0_keep := goodIn_r _ [27, 28, 29, 30, 31, 32, 33, 34, 35, 36, 37, 38, 39, 40, 41, 42, 43, 44, 45, 46, 47, 48, 49, 50, 51, 77, 78, 79, 69, 70, 71, 72, 73, 74, 75, 76] (by decide +kernel) (by decide +kernel)
set_option maxRecDepth 20000 in
theorem gX7_dismiss_X0_keep : GoodIn wsX7_dismiss (wsV RX7 146 RX0 yX0_keep wsX0_keep) := goodIn_app (goodIn_of _ (by decide +kernel)) ggX7_dismiss_X0_keep
theorem dX7_dismiss_0 : decode cX7_dismiss 0 = .ok (.aload_n 0, 1) := by decide +kernel
theorem dX7_dismiss_1 : decode cX7_dismiss 1 = .ok (.iload_n 1, 1) := by decide +kernel
theorem dX7_dismiss_2 : decode cX7_dismiss 2 = .ok (.invokevirtual 187, 3) := by decide +kernel
theorem dX7_dismiss_5 : decode cX7_dismiss 5 = .ok (.ifCond .eq 12, 3) := by decide +kernel
theorem dX7_dismiss_8 : decode cX7_dismiss 8 = .ok (.iload_n 2, 1) := by decide +kernel
theorem dX7_dismiss_9 : decode cX7_dismiss 9 = .ok (.ifCond .lt 8, 3) := by decide +kernel
theorem dX7_dismiss_12 : decode cX7_dismiss 12 = .ok (.iload_n 2, 1) := by decide +kernel
theorem dX7_dismiss_13 : decode cX7_dismiss 13 = .ok (.iconst 1, 1) := by decide +kernel
theorem dX7_dismiss_14 : decode cX7_dismiss 14 = .ok (.if_icmp .le 6, 3) := by decide +kernel
theorem dX7_dismiss_17 : decode cX7_dismiss 17 = .ok (.ldc 59, 2) := by decide +kernel
theorem dX7_dismiss_19 : decode cX7_dismiss 19 = .ok (.ireturn, 1) := by decide +kernel
theorem dX7_dismiss_20 : decode cX7_dismiss 20 = .ok (.aload_n 0, 1) := by decide +kernel
theorem dX7_dismiss_21 : decode cX7_dismiss 21 = .ok (.getfield 25, 3) := by decide +kernel
theorem dX7_dismiss_24 : decode cX7_dismiss 24 = .ok (.iload_n 1, 1) := by decide +kernel
theorem dX7_dismiss_25 : decode cX7_dismiss 25 = .ok (.invokevirtual 172, 3) := by decide +kernel
theorem dX7_dismiss_28 : decode cX7_dismiss 28 = .ok (.invokestatic 180, 3) := by decide +kernel
theorem dX7_dismiss_31 : decode cX7_dismiss 31 = .ok (.iload_n 2, 1) := by decide +kernel
theorem dX7_dismiss_32 : decode cX7_dismiss 32 = .ok (.if_icmp .ne 6, 3) := by decide +kernel
theorem dX7_dismiss_35 : decode cX7_dismiss 35 = .ok (.ldc 136, 2) := by decide +kernel
theorem dX7_dismiss_37 : decode cX7_dismiss 37 = .ok (.ireturn, 1) := by decide +kernel
theorem dX7_dismiss_38 : decode cX7_dismiss 38 = .ok (.aload_n 0, 1) := by decide +kernel
theorem dX7_dismiss_39 : decode cX7_dismiss 39 = .ok (.getfield 32, 3) := by decide +kernel
theorem dX7_dismiss_42 : decode cX7_dismiss 42 = .ok (.aload_n 0, 1) := by decide +kernel
theorem dX7_dismiss_43 : decode cX7_dismiss 43 = .ok (.getfield 25, 3) := by decide +kernel
theorem dX7_dismiss_46 : decode cX7_dismiss 46 = .ok (.getfield 137, 3) := by decide +kernel
theorem dX7_dismiss_49 : decode cX7_dismiss 49 = .ok (.invokevirtual 146, 3) := by decide +kernel
theorem dX7_dismiss_52 : decode cX7_dismiss 52 = .ok (.aload_n 0, 1) := by decide +kernel
theorem dX7_dismiss_53 : decode cX7_dismiss 53 = .ok (.getfield 25, 3) := by decide +kernel
theorem dX7_dismiss_56 : decode cX7_dismiss 56 = .ok (.getfield 137, 3) := by decide +kernel
theorem dX7_dismiss_59 : decode cX7_dismiss 59 = .ok (.dup, 1) := by decide +kernel
theorem dX7_dismiss_60 : decode cX7_dismiss 60 = .ok (.getfield 190, 3) := by decide +kernel
theorem dX7_dismiss_63 : decode cX7_dismiss 63 = .ok (.iconst 1, 1) := by decide +kernel
theorem dX7_dismiss_64 : decode cX7_dismiss 64 = .ok (.iload_n 1, 1) := by decide +kernel
theorem dX7_dismiss_65 : decode cX7_dismiss 65 = .ok (.ishl, 1) := by decide +kernel
theorem dX7_dismiss_66 : decode cX7_dismiss 66 = .ok (.ixor, 1) := by decide +kernel
theorem dX7_dismiss_67 : decode cX7_dismiss 67 = .ok (.putfield 190, 3) := by decide +kernel
theorem dX7_dismiss_70 : decode cX7_dismiss 70 = .ok (.aload_n 0, 1) := by decide +kernel
theorem dX7_dismiss_71 : decode cX7_dismiss 71 = .ok (.getfield 25, 3) := by decide +kernel
theorem dX7_dismiss_74 : decode cX7_dismiss 74 = .ok (.getfield 137, 3) := by decide +kernel
theorem dX7_dismiss_77 : decode cX7_dismiss 77 = .ok (.getfield 190, 3) := by decide +kernel
theorem dX7_dismiss_80 : decode cX7_dismiss 80 = .ok (.ireturn, 1) := by decide +kernel
set_option maxRecDepth 20000 in
theorem ggX7_undo_X0_takeBack : GoodIn wsX7_undo wsX0_takeBack := goodIn_r _ [10, 11, 12, 13, 14, 15, 16, 17, 18, 19, 20, 21, 22, 23, 24, 25, 26, 27, 28, 29, 30, 48, 49, 50, 51, 52, 53, 54, 55, 56, 57, 58] (by decide +kernel) (by decide +kernel)
set_option maxRecDepth 20000 in
theorem gX7_undo_X0_takeBack : GoodIn wsX7_undo (wsV RX7 193 RX0 yX0_takeBack wsX0_takeBack) := goodIn_app (goodIn_of _ (by decide +kernel)) ggX7_undo_X0_takeBack
theorem dX7_undo_0 : decode cX7_undo 0 = .ok (.aload_n 0, 1) := by decide +kernel
theorem dX7_undo_1 : decode cX7_undo 1 = .ok (.getfield 32, 3) := by decide +kernel
theorem dX7_undo_4 : decode cX7_undo 4 = .ok (.aload_n 0, 1) := by decide +kernel
theorem dX7_undo_5 : decode cX7_undo 5 = .ok (.getfield 25, 3) := by decide +kernel
theorem dX7_undo_8 : decode cX7_undo 8 = .ok (.getfield 137, 3) := by decide +kernel
theorem dX7_undo_11 : decode cX7_undo 11 = .ok (.invokevirtual 193, 3) := by decide +kernel
theorem dX7_undo_14 : decode cX7_undo 14 = .ok (.ifCond .eq 13, 3) := by decide +kernel
theorem dX7_undo_17 : decode cX7_undo 17 = .ok (.aload_n 0, 1) := by decide +kernel
theorem dX7_undo_18 : decode cX7_undo 18 = .ok (.getfield 32, 3) := by decide +kernel
theorem dX7_undo_21 : decode cX7_undo 21 = .ok (.getfield 197, 3) := by decide +kernel
theorem dX7_undo_24 : decode cX7_undo 24 = .ok (.goto 5, 3) := by decide +kernel
theorem dX7_undo_27 : decode cX7_undo 27 = .ok (.ldc 136, 2) := by decide +kernel
theorem dX7_undo_29 : decode cX7_undo 29 = .ok (.ireturn, 1) := by decide +kernel
set_option maxRecDepth 20000 in
theorem ggX7_letter_X7_isWord : GoodIn wsX7_letter wsX7_isWord := goodIn_r _ [8, 2, 9, 10, 11, 12, 13, 14, 15, 16, 17, 18, 19, 20, 21, 22, 23, 24, 25, 26] (by decide +kernel) (by decide +kernel)
set_option maxRecDepth 20000 in
theorem gX7_letter_X7_isWord : GoodIn wsX7_letter (wsV RX7 156 RX7 yX7_isWord wsX7_isWord) := goodIn_app (goodIn_of _ (by decide +kernel)) ggX7_letter_X7_isWord
theorem dX7_letter_0 : decode cX7_letter 0 = .ok (.aload_n 0, 1) := by decide +kernel
theorem dX7_letter_1 : decode cX7_letter 1 = .ok (.iload_n 1, 1) := by decide +kernel
theorem dX7_letter_2 : decode cX7_letter 2 = .ok (.invokevirtual 156, 3) := by decide +kernel
theorem dX7_letter_5 : decode cX7_letter 5 = .ok (.ifCond .eq 12, 3) := by decide +kernel
theorem dX7_letter_8 : decode cX7_letter 8 = .ok (.iload_n 2, 1) := by decide +kernel
theorem dX7_letter_9 : decode cX7_letter 9 = .ok (.ifCond .lt 8, 3) := by decide +kernel
theorem dX7_letter_12 : decode cX7_letter 12 = .ok (.iload_n 2, 1) := by decide +kernel
theorem dX7_letter_13 : decode cX7_letter 13 = .ok (.iconst 3, 1) := by decide +kernel
theorem dX7_letter_14 : decode cX7_letter 14 = .ok (.if_icmp .lt 6, 3) := by decide +kernel
theorem dX7_letter_17 : decode cX7_letter 17 = .ok (.ldc 59, 2) := by decide +kernel
theorem dX7_letter_19 : decode cX7_letter 19 = .ok (.ireturn, 1) := by decide +kernel
theorem dX7_letter_20 : decode cX7_letter 20 = .ok (.aload_n 0, 1) := by decide +kernel
theorem dX7_letter_21 : decode cX7_letter 21 = .ok (.getfield 25, 3) := by decide +kernel
theorem dX7_letter_24 : decode cX7_letter 24 = .ok (.getfield 200, 3) := by decide +kernel
theorem dX7_letter_27 : decode cX7_letter 27 = .ok (.iload_n 1, 1) := by decide +kernel
theorem dX7_letter_28 : decode cX7_letter 28 = .ok (.iconst 3, 1) := by decide +kernel
theorem dX7_letter_29 : decode cX7_letter 29 = .ok (.imul, 1) := by decide +kernel
theorem dX7_letter_30 : decode cX7_letter 30 = .ok (.iload_n 2, 1) := by decide +kernel
theorem dX7_letter_31 : decode cX7_letter 31 = .ok (.iadd, 1) := by decide +kernel
theorem dX7_letter_32 : decode cX7_letter 32 = .ok (.iaload, 1) := by decide +kernel
theorem dX7_letter_33 : decode cX7_letter 33 = .ok (.ireturn, 1) := by decide +kernel
set_option maxRecDepth 20000 in
theorem ggX7_like_X7_isWord : GoodIn wsX7_like wsX7_isWord := goodIn_r _ [7, 2, 8, 19, 20, 21, 22, 23, 24, 25, 26, 27, 28, 29, 30, 31, 32, 33, 34, 35] (by decide +kernel) (by decide +kernel)
set_option maxRecDepth 20000 in
theorem gX7_like_X7_isWord : GoodIn wsX7_like (wsV RX7 156 RX7 yX7_isWord wsX7_isWord) := goodIn_app (goodIn_of _ (by decide +kernel)) ggX7_like_X7_isWord
set_option maxRecDepth 20000 in
theorem ggX7_like_X2_distance : GoodIn wsX7_like wsX2_distance := goodIn_r _ [13, 14, 28, 29, 30, 31, 32, 33, 34, 35] (by decide +kernel) (by decide +kernel)
set_option maxRecDepth 20000 in
theorem gX7_like_X2_distance : GoodIn wsX7_like (wsV RX7 203 RX2 yX2_distance wsX2_distance) := goodIn_app (goodIn_of _ (by decide +kernel)) ggX7_like_X2_distance
set_option maxRecDepth 20000 in
theorem ggX7_like_X2_lips : GoodIn wsX7_like wsX2_lips := goodIn_r _ [18, 14, 28, 29, 30, 31, 32, 33, 34, 35] (by decide +kernel) (by decide +kernel)
set_option maxRecDepth 20000 in
theorem gX7_like_X2_lips : GoodIn wsX7_like (wsV RX7 206 RX2 yX2_lips wsX2_lips) := goodIn_app (goodIn_of _ (by decide +kernel)) ggX7_like_X2_lips
theorem dX7_like_0 : decode cX7_like 0 = .ok (.aload_n 0, 1) := by decide +kernel
theorem dX7_like_1 : decode cX7_like 1 = .ok (.iload_n 1, 1) := by decide +kernel
theorem dX7_like_2 : decode cX7_like 2 = .ok (.invokevirtual 156, 3) := by decide +kernel
theorem dX7_like_5 : decode cX7_like 5 = .ok (.ifCond .eq 20, 3) := by decide +kernel
theorem dX7_like_8 : decode cX7_like 8 = .ok (.aload_n 0, 1) := by decide +kernel
theorem dX7_like_9 : decode cX7_like 9 = .ok (.iload_n 2, 1) := by decide +kernel
theorem dX7_like_10 : decode cX7_like 10 = .ok (.invokevirtual 156, 3) := by decide +kernel
theorem dX7_like_13 : decode cX7_like 13 = .ok (.ifCond .eq 12, 3) := by decide +kernel
theorem dX7_like_16 : decode cX7_like 16 = .ok (.iload_n 3, 1) := by decide +kernel
theorem dX7_like_17 : decode cX7_like 17 = .ok (.ifCond .lt 8, 3) := by decide +kernel
theorem dX7_like_20 : decode cX7_like 20 = .ok (.iload_n 3, 1) := by decide +kernel
theorem dX7_like_21 : decode cX7_like 21 = .ok (.iconst 1, 1) := by decide +kernel
theorem dX7_like_22 : decode cX7_like 22 = .ok (.if_icmp .le 6, 3) := by decide +kernel
theorem dX7_like_25 : decode cX7_like 25 = .ok (.ldc 59, 2) := by decide +kernel
theorem dX7_like_27 : decode cX7_like 27 = .ok (.ireturn, 1) := by decide +kernel
theorem dX7_like_28 : decode cX7_like 28 = .ok (.iload_n 3, 1) := by decide +kernel
theorem dX7_like_29 : decode cX7_like 29 = .ok (.ifCond .ne 15, 3) := by decide +kernel
theorem dX7_like_32 : decode cX7_like 32 = .ok (.aload_n 0, 1) := by decide +kernel
theorem dX7_like_33 : decode cX7_like 33 = .ok (.getfield 25, 3) := by decide +kernel
theorem dX7_like_36 : decode cX7_like 36 = .ok (.iload_n 1, 1) := by decide +kernel
theorem dX7_like_37 : decode cX7_like 37 = .ok (.iload_n 2, 1) := by decide +kernel
theorem dX7_like_38 : decode cX7_like 38 = .ok (.invokevirtual 203, 3) := by decide +kernel
theorem dX7_like_41 : decode cX7_like 41 = .ok (.goto 12, 3) := by decide +kernel
theorem dX7_like_44 : decode cX7_like 44 = .ok (.aload_n 0, 1) := by decide +kernel
theorem dX7_like_45 : decode cX7_like 45 = .ok (.getfield 25, 3) := by decide +kernel
theorem dX7_like_48 : decode cX7_like 48 = .ok (.iload_n 1, 1) := by decide +kernel
theorem dX7_like_49 : decode cX7_like 49 = .ok (.iload_n 2, 1) := by decide +kernel
theorem dX7_like_50 : decode cX7_like 50 = .ok (.invokevirtual 206, 3) := by decide +kernel
theorem dX7_like_53 : decode cX7_like 53 = .ok (.ireturn, 1) := by decide +kernel
set_option maxRecDepth 20000 in
theorem ggX7_guard_X7_isGuard : GoodIn wsX7_guard wsX7_isGuard := goodIn_r _ [10, 2, 11, 34, 35, 36, 37, 38, 39, 40, 41, 42, 43, 44, 45, 46, 47, 48, 49, 50] (by decide +kernel) (by decide +kernel)
set_option maxRecDepth 20000 in
theorem gX7_guard_X7_isGuard : GoodIn wsX7_guard (wsV RX7 187 RX7 yX7_isGuard wsX7_isGuard) := goodIn_app (goodIn_of _ (by decide +kernel)) ggX7_guard_X7_isGuard
set_option maxRecDepth 20000 in
theorem ggX7_guard_X2_isThere : GoodIn wsX7_guard wsX2_isThere := goodIn_r _ [16, 17, 18, 43, 44, 45, 46, 47, 48, 49, 50, 51, 52, 53, 54, 55, 56, 57, 58] (by decide +kernel) (by decide +kernel)
set_option maxRecDepth 20000 in
theorem gX7_guard_X2_isThere : GoodIn wsX7_guard (wsV RX7 172 RX2 yX2_isThere wsX2_isThere) := goodIn_app (goodIn_of _ (by decide +kernel)) ggX7_guard_X2_isThere
set_option maxRecDepth 20000 in
theorem ggX7_guard_X7_bit : GoodIn wsX7_guard wsX7_bit := goodIn_r _ [21] (by decide +kernel) (by decide +kernel)
set_option maxRecDepth 20000 in
theorem gX7_guard_X7_bit : GoodIn wsX7_guard (va_wsS RX7 180 yX7_bit wsX7_bit) := goodIn_app (goodIn_of _ (by decide +kernel)) ggX7_guard_X7_bit
set_option maxRecDepth 20000 in
theorem ggX7_guard_X2_hoursOf : GoodIn wsX7_guard wsX2_hoursOf := goodIn_r _ [25, 17, 26, 27, 28, 29, 15, 30, 31, 32, 9, 33, 20, 21, 43, 44, 45, 46, 47, 48, 49, 50, 51, 52, 53, 54, 55, 56, 57, 58] (by decide +kernel) (by decide +kernel)
set_option maxRecDepth 20000 in
theorem gX7_guard_X2_hoursOf : GoodIn wsX7_guard (wsV RX7 215 RX2 yX2_hoursOf wsX2_hoursOf) := goodIn_app (goodIn_of _ (by decide +kernel)) ggX7_guard_X2_hoursOf
theorem dX7_guard_0 : decode cX7_guard 0 = .ok (.aload_n 0, 1) := by decide +kernel
theorem dX7_guard_1 : decode cX7_guard 1 = .ok (.iload_n 1, 1) := by decide +kernel
theorem dX7_guard_2 : decode cX7_guard 2 = .ok (.invokevirtual 187, 3) := by decide +kernel
theorem dX7_guard_5 : decode cX7_guard 5 = .ok (.ifCond .ne 6, 3) := by decide +kernel
theorem dX7_guard_8 : decode cX7_guard 8 = .ok (.ldc 59, 2) := by decide +kernel
theorem dX7_guard_10 : decode cX7_guard 10 = .ok (.ireturn, 1) := by decide +kernel
theorem dX7_guard_11 : decode cX7_guard 11 = .ok (.iload_n 2, 1) := by decide +kernel
theorem dX7_guard_12 : decode cX7_guard 12 = .ok (.tableswitch 76 0 3 #[32, 42, 55, 67], 32) := by decide +kernel
theorem dX7_guard_44 : decode cX7_guard 44 = .ok (.aload_n 0, 1) := by decide +kernel
theorem dX7_guard_45 : decode cX7_guard 45 = .ok (.getfield 25, 3) := by decide +kernel
theorem dX7_guard_48 : decode cX7_guard 48 = .ok (.getfield 209, 3) := by decide +kernel
theorem dX7_guard_51 : decode cX7_guard 51 = .ok (.iload_n 1, 1) := by decide +kernel
theorem dX7_guard_52 : decode cX7_guard 52 = .ok (.iaload, 1) := by decide +kernel
theorem dX7_guard_53 : decode cX7_guard 53 = .ok (.ireturn, 1) := by decide +kernel
theorem dX7_guard_54 : decode cX7_guard 54 = .ok (.aload_n 0, 1) := by decide +kernel
theorem dX7_guard_55 : decode cX7_guard 55 = .ok (.getfield 25, 3) := by decide +kernel
theorem dX7_guard_58 : decode cX7_guard 58 = .ok (.getfield 137, 3) := by decide +kernel
theorem dX7_guard_61 : decode cX7_guard 61 = .ok (.getfield 212, 3) := by decide +kernel
theorem dX7_guard_64 : decode cX7_guard 64 = .ok (.iload_n 1, 1) := by decide +kernel
theorem dX7_guard_65 : decode cX7_guard 65 = .ok (.iaload, 1) := by decide +kernel
theorem dX7_guard_66 : decode cX7_guard 66 = .ok (.ireturn, 1) := by decide +kernel
theorem dX7_guard_67 : decode cX7_guard 67 = .ok (.aload_n 0, 1) := by decide +kernel
theorem dX7_guard_68 : decode cX7_guard 68 = .ok (.getfield 25, 3) := by decide +kernel
theorem dX7_guard_71 : decode cX7_guard 71 = .ok (.iload_n 1, 1) := by decide +kernel
theorem dX7_guard_72 : decode cX7_guard 72 = .ok (.invokevirtual 172, 3) := by decide +kernel
theorem dX7_guard_75 : decode cX7_guard 75 = .ok (.invokestatic 180, 3) := by decide +kernel
theorem dX7_guard_78 : decode cX7_guard 78 = .ok (.ireturn, 1) := by decide +kernel
theorem dX7_guard_79 : decode cX7_guard 79 = .ok (.aload_n 0, 1) := by decide +kernel
theorem dX7_guard_80 : decode cX7_guard 80 = .ok (.getfield 25, 3) := by decide +kernel
theorem dX7_guard_83 : decode cX7_guard 83 = .ok (.iload_n 1, 1) := by decide +kernel
theorem dX7_guard_84 : decode cX7_guard 84 = .ok (.invokevirtual 215, 3) := by decide +kernel
theorem dX7_guard_87 : decode cX7_guard 87 = .ok (.ireturn, 1) := by decide +kernel
theorem dX7_guard_88 : decode cX7_guard 88 = .ok (.ldc 59, 2) := by decide +kernel
theorem dX7_guard_90 : decode cX7_guard 90 = .ok (.ireturn, 1) := by decide +kernel
theorem dX7_tried_0 : decode cX7_tried 0 = .ok (.iload_n 1, 1) := by decide +kernel
theorem dX7_tried_1 : decode cX7_tried 1 = .ok (.ifCond .lt 17, 3) := by decide +kernel
theorem dX7_tried_4 : decode cX7_tried 4 = .ok (.iload_n 1, 1) := by decide +kernel
theorem dX7_tried_5 : decode cX7_tried 5 = .ok (.aload_n 0, 1) := by decide +kernel
theorem dX7_tried_6 : decode cX7_tried 6 = .ok (.getfield 25, 3) := by decide +kernel
theorem dX7_tried_9 : decode cX7_tried 9 = .ok (.getfield 137, 3) := by decide +kernel
theorem dX7_tried_12 : decode cX7_tried 12 = .ok (.getfield 162, 3) := by decide +kernel
theorem dX7_tried_15 : decode cX7_tried 15 = .ok (.if_icmp .lt 6, 3) := by decide +kernel
theorem dX7_tried_18 : decode cX7_tried 18 = .ok (.ldc 59, 2) := by decide +kernel
theorem dX7_tried_20 : decode cX7_tried 20 = .ok (.ireturn, 1) := by decide +kernel
theorem dX7_tried_21 : decode cX7_tried 21 = .ok (.iload_n 2, 1) := by decide +kernel
theorem dX7_tried_22 : decode cX7_tried 22 = .ok (.tableswitch 65 0 2 #[26, 39, 52], 26) := by decide +kernel
theorem dX7_tried_48 : decode cX7_tried 48 = .ok (.aload_n 0, 1) := by decide +kernel
theorem dX7_tried_49 : decode cX7_tried 49 = .ok (.getfield 25, 3) := by decide +kernel
theorem dX7_tried_52 : decode cX7_tried 52 = .ok (.getfield 137, 3) := by decide +kernel
theorem dX7_tried_55 : decode cX7_tried 55 = .ok (.getfield 218, 3) := by decide +kernel
theorem dX7_tried_58 : decode cX7_tried 58 = .ok (.iload_n 1, 1) := by decide +kernel
theorem dX7_tried_59 : decode cX7_tried 59 = .ok (.iaload, 1) := by decide +kernel
theorem dX7_tried_60 : decode cX7_tried 60 = .ok (.ireturn, 1) := by decide +kernel
theorem dX7_tried_61 : decode cX7_tried 61 = .ok (.aload_n 0, 1) := by decide +kernel
theorem dX7_tried_62 : decode cX7_tried 62 = .ok (.getfield 25, 3) := by decide +kernel
theorem dX7_tried_65 : decode cX7_tried 65 = .ok (.getfield 137, 3) := by decide +kernel
theorem dX7_tried_68 : decode cX7_tried 68 = .ok (.getfield 221, 3) := by decide +kernel
theorem dX7_tried_71 : decode cX7_tried 71 = .ok (.iload_n 1, 1) := by decide +kernel
theorem dX7_tried_72 : decode cX7_tried 72 = .ok (.iaload, 1) := by decide +kernel
theorem dX7_tried_73 : decode cX7_tried 73 = .ok (.ireturn, 1) := by decide +kernel
theorem dX7_tried_74 : decode cX7_tried 74 = .ok (.aload_n 0, 1) := by decide +kernel
theorem dX7_tried_75 : decode cX7_tried 75 = .ok (.getfield 25, 3) := by decide +kernel
theorem dX7_tried_78 : decode cX7_tried 78 = .ok (.getfield 137, 3) := by decide +kernel
theorem dX7_tried_81 : decode cX7_tried 81 = .ok (.getfield 224, 3) := by decide +kernel
theorem dX7_tried_84 : decode cX7_tried 84 = .ok (.iload_n 1, 1) := by decide +kernel
theorem dX7_tried_85 : decode cX7_tried 85 = .ok (.iaload, 1) := by decide +kernel
theorem dX7_tried_86 : decode cX7_tried 86 = .ok (.ireturn, 1) := by decide +kernel
theorem dX7_tried_87 : decode cX7_tried 87 = .ok (.ldc 59, 2) := by decide +kernel
theorem dX7_tried_89 : decode cX7_tried 89 = .ok (.ireturn, 1) := by decide +kernel
set_option maxRecDepth 20000 in
theorem ggX7_secret_X7_noGate : GoodIn wsX7_secret wsX7_noGate := goodIn_r _ [8, 2, 9, 31, 32, 33, 34, 35, 36, 37, 38, 39, 40, 41, 42, 43, 44, 45, 46, 47] (by decide +kernel) (by decide +kernel)
set_option maxRecDepth 20000 in
theorem gX7_secret_X7_noGate : GoodIn wsX7_secret (wsV RX7 133 RX7 yX7_noGate wsX7_noGate) := goodIn_app (goodIn_of _ (by decide +kernel)) ggX7_secret_X7_noGate
set_option maxRecDepth 20000 in
theorem ggX7_secret_X7_isAhead : GoodIn wsX7_secret wsX7_isAhead := goodIn_r _ [13] (by decide +kernel) (by decide +kernel)
set_option maxRecDepth 20000 in
theorem gX7_secret_X7_isAhead : GoodIn wsX7_secret (wsV RX7 227 RX7 yX7_isAhead wsX7_isAhead) := goodIn_app (goodIn_of _ (by decide +kernel)) ggX7_secret_X7_isAhead
set_option maxRecDepth 20000 in
theorem ggX7_secret_X2_secretIn : GoodIn wsX7_secret wsX2_secretIn := goodIn_r _ [18, 19, 20, 21, 22, 23, 24, 25, 26, 17, 27, 28, 29, 7, 30, 40, 41, 42, 43, 44, 45, 46, 47, 48, 49, 50, 51, 52, 53, 54, 55] (by decide +kernel) (by decide +kernel)
set_option maxRecDepth 20000 in
theorem gX7_secret_X2_secretIn : GoodIn wsX7_secret (wsV RX7 153 RX2 yX2_secretIn wsX2_secretIn) := goodIn_app (goodIn_of _ (by decide +kernel)) ggX7_secret_X2_secretIn
theorem dX7_secret_0 : decode cX7_secret 0 = .ok (.aload_n 0, 1) := by decide +kernel
theorem dX7_secret_1 : decode cX7_secret 1 = .ok (.invokevirtual 133, 3) := by decide +kernel
theorem dX7_secret_4 : decode cX7_secret 4 = .ok (.ifCond .eq 6, 3) := by decide +kernel
theorem dX7_secret_7 : decode cX7_secret 7 = .ok (.ldc 136, 2) := by decide +kernel
theorem dX7_secret_9 : decode cX7_secret 9 = .ok (.ireturn, 1) := by decide +kernel
theorem dX7_secret_10 : decode cX7_secret 10 = .ok (.aload_n 0, 1) := by decide +kernel
theorem dX7_secret_11 : decode cX7_secret 11 = .ok (.iload_n 1, 1) := by decide +kernel
theorem dX7_secret_12 : decode cX7_secret 12 = .ok (.invokevirtual 227, 3) := by decide +kernel
theorem dX7_secret_15 : decode cX7_secret 15 = .ok (.ifCond .eq 14, 3) := by decide +kernel
theorem dX7_secret_18 : decode cX7_secret 18 = .ok (.aload_n 0, 1) := by decide +kernel
theorem dX7_secret_19 : decode cX7_secret 19 = .ok (.getfield 25, 3) := by decide +kernel
theorem dX7_secret_22 : decode cX7_secret 22 = .ok (.iload_n 1, 1) := by decide +kernel
theorem dX7_secret_23 : decode cX7_secret 23 = .ok (.invokevirtual 153, 3) := by decide +kernel
theorem dX7_secret_26 : decode cX7_secret 26 = .ok (.goto 5, 3) := by decide +kernel
theorem dX7_secret_29 : decode cX7_secret 29 = .ok (.ldc 59, 2) := by decide +kernel
theorem dX7_secret_31 : decode cX7_secret 31 = .ok (.ireturn, 1) := by decide +kernel
set_option maxRecDepth 20000 in
theorem ggX7_taken_X7_isWord : GoodIn wsX7_taken wsX7_isWord := goodIn_r _ [7, 2, 8, 69, 70, 71, 72, 73, 74, 75, 76, 77, 78, 79, 80, 81, 82, 83, 84, 85] (by decide +kernel) (by decide +kernel)
set_option maxRecDepth 20000 in
theorem gX7_taken_X7_isWord : GoodIn wsX7_taken (wsV RX7 156 RX7 yX7_isWord wsX7_isWord) := goodIn_app (goodIn_of _ (by decide +kernel)) ggX7_taken_X7_isWord
set_option maxRecDepth 20000 in
theorem ggX7_taken_X7_isHour : GoodIn wsX7_taken wsX7_isHour := goodIn_r _ [12] (by decide +kernel) (by decide +kernel)
set_option maxRecDepth 20000 in
theorem gX7_taken_X7_isHour : GoodIn wsX7_taken (wsV RX7 159 RX7 yX7_isHour wsX7_isHour) := goodIn_app (goodIn_of _ (by decide +kernel)) ggX7_taken_X7_isHour
set_option maxRecDepth 20000 in
theorem ggX7_taken_X7_isAhead : GoodIn wsX7_taken wsX7_isAhead := goodIn_r _ [16] (by decide +kernel) (by decide +kernel)
set_option maxRecDepth 20000 in
theorem gX7_taken_X7_isAhead : GoodIn wsX7_taken (wsV RX7 227 RX7 yX7_isAhead wsX7_isAhead) := goodIn_app (goodIn_of _ (by decide +kernel)) ggX7_taken_X7_isAhead
set_option maxRecDepth 20000 in
theorem ggX7_taken_X2_catches : GoodIn wsX7_taken wsX2_catches := goodIn_r _ [21, 22, 23, 24, 25, 26, 20, 27, 28, 29, 30, 31, 32, 33, 34, 35, 36, 6, 37, 38, 39, 40, 41, 42, 43, 44, 45, 46, 47, 48, 49, 50, 51, 52, 53, 54, 55, 56, 57, 58, 59, 60, 61, 62, 63, 64, 65, 78, 79, 80, 81, 82, 83, 84, 85, 86, 87, 88, 89, 90, 91, 92, 93] (by decide +kernel) (by decide +kernel)
set_option maxRecDepth 20000 in
theorem gX7_taken_X2_catches : GoodIn wsX7_taken (wsV RX7 168 RX2 yX2_catches wsX2_catches) := goodIn_app (goodIn_of _ (by decide +kernel)) ggX7_taken_X2_catches
set_option maxRecDepth 20000 in
theorem ggX7_taken_X7_bit : GoodIn wsX7_taken wsX7_bit := goodIn_r _ [68] (by decide +kernel) (by decide +kernel)
set_option maxRecDepth 20000 in
theorem gX7_taken_X7_bit : GoodIn wsX7_taken (va_wsS RX7 180 yX7_bit wsX7_bit) := goodIn_app (goodIn_of _ (by decide +kernel)) ggX7_taken_X7_bit
theorem dX7_taken_0 : decode cX7_taken 0 = .ok (.aload_n 0, 1) := by decide +kernel
theorem dX7_taken_1 : decode cX7_taken 1 = .ok (.iload_n 1, 1) := by decide +kernel
theorem dX7_taken_2 : decode cX7_taken 2 = .ok (.invokevirtual 156, 3) := by decide +kernel
theorem dX7_taken_5 : decode cX7_taken 5 = .ok (.ifCond .eq 19, 3) := by decide +kernel
theorem dX7_taken_8 : decode cX7_taken 8 = .ok (.aload_n 0, 1) := by decide +kernel
theorem dX7_taken_9 : decode cX7_taken 9 = .ok (.iload_n 2, 1) := by decide +kernel
theorem dX7_taken_10 : decode cX7_taken 10 = .ok (.invokevirtual 159, 3) := by decide +kernel
theorem dX7_taken_13 : decode cX7_taken 13 = .ok (.ifCond .eq 11, 3) := by decide +kernel
theorem dX7_taken_16 : decode cX7_taken 16 = .ok (.aload_n 0, 1) := by decide +kernel
theorem dX7_taken_17 : decode cX7_taken 17 = .ok (.iload_n 3, 1) := by decide +kernel
theorem dX7_taken_18 : decode cX7_taken 18 = .ok (.invokevirtual 227, 3) := by decide +kernel
theorem dX7_taken_21 : decode cX7_taken 21 = .ok (.ifCond .ne 6, 3) := by decide +kernel
theorem dX7_taken_24 : decode cX7_taken 24 = .ok (.ldc 59, 2) := by decide +kernel
theorem dX7_taken_26 : decode cX7_taken 26 = .ok (.ireturn, 1) := by decide +kernel
theorem dX7_taken_27 : decode cX7_taken 27 = .ok (.aload_n 0, 1) := by decide +kernel
theorem dX7_taken_28 : decode cX7_taken 28 = .ok (.getfield 25, 3) := by decide +kernel
theorem dX7_taken_31 : decode cX7_taken 31 = .ok (.iload_n 1, 1) := by decide +kernel
theorem dX7_taken_32 : decode cX7_taken 32 = .ok (.iload_n 2, 1) := by decide +kernel
theorem dX7_taken_33 : decode cX7_taken 33 = .ok (.iload_n 3, 1) := by decide +kernel
theorem dX7_taken_34 : decode cX7_taken 34 = .ok (.invokevirtual 168, 3) := by decide +kernel
theorem dX7_taken_37 : decode cX7_taken 37 = .ok (.invokestatic 180, 3) := by decide +kernel
theorem dX7_taken_40 : decode cX7_taken 40 = .ok (.ireturn, 1) := by decide +kernel
set_option maxRecDepth 20000 in
theorem ggX7_safe_X7_noGate : GoodIn wsX7_safe wsX7_noGate := goodIn_r _ [8, 2, 9, 73, 74, 75, 76, 77, 78, 79, 80, 81, 82, 83, 84, 85, 86, 87, 88, 89] (by decide +kernel) (by decide +kernel)
set_option maxRecDepth 20000 in
theorem gX7_safe_X7_noGate : GoodIn wsX7_safe (wsV RX7 133 RX7 yX7_noGate wsX7_noGate) := goodIn_app (goodIn_of _ (by decide +kernel)) ggX7_safe_X7_noGate
set_option maxRecDepth 20000 in
theorem ggX7_safe_X7_isHour : GoodIn wsX7_safe wsX7_isHour := goodIn_r _ [13] (by decide +kernel) (by decide +kernel)
set_option maxRecDepth 20000 in
theorem gX7_safe_X7_isHour : GoodIn wsX7_safe (wsV RX7 159 RX7 yX7_isHour wsX7_isHour) := goodIn_app (goodIn_of _ (by decide +kernel)) ggX7_safe_X7_isHour
set_option maxRecDepth 20000 in
theorem ggX7_safe_X7_isAhead : GoodIn wsX7_safe wsX7_isAhead := goodIn_r _ [17] (by decide +kernel) (by decide +kernel)
set_option maxRecDepth 20000 in
theorem gX7_safe_X7_isAhead : GoodIn wsX7_safe (wsV RX7 227 RX7 yX7_isAhead wsX7_isAhead) := goodIn_app (goodIn_of _ (by decide +kernel)) ggX7_safe_X7_isAhead
set_option maxRecDepth 20000 in
theorem ggX7_safe_X2_wordsIn : GoodIn wsX7_safe wsX2_wordsIn := goodIn_r _ [22, 23, 24, 25, 26, 21, 27, 28, 29, 30, 31, 32, 33, 34, 35, 36, 37, 38, 39, 40, 41, 7, 42, 43, 44, 45, 46, 47, 48, 49, 50, 51, 52, 53, 54, 55, 56, 57, 58, 59, 60, 61, 62, 63, 64, 65, 66, 67, 68, 69, 70, 71, 72, 82, 83, 84, 85, 86, 87, 88, 89, 90, 91, 92, 93, 94, 95, 96, 97] (by decide +kernel) (by decide +kernel)
set_option maxRecDepth 20000 in
theorem gX7_safe_X2_wordsIn : GoodIn wsX7_safe (wsV RX7 230 RX2 yX2_wordsIn wsX2_wordsIn) := goodIn_app (goodIn_of _ (by decide +kernel)) ggX7_safe_X2_wordsIn
theorem dX7_safe_0 : decode cX7_safe 0 = .ok (.aload_n 0, 1) := by decide +kernel
theorem dX7_safe_1 : decode cX7_safe 1 = .ok (.invokevirtual 133, 3) := by decide +kernel
theorem dX7_safe_4 : decode cX7_safe 4 = .ok (.ifCond .eq 6, 3) := by decide +kernel
theorem dX7_safe_7 : decode cX7_safe 7 = .ok (.ldc 136, 2) := by decide +kernel
theorem dX7_safe_9 : decode cX7_safe 9 = .ok (.ireturn, 1) := by decide +kernel
theorem dX7_safe_10 : decode cX7_safe 10 = .ok (.aload_n 0, 1) := by decide +kernel
theorem dX7_safe_11 : decode cX7_safe 11 = .ok (.iload_n 1, 1) := by decide +kernel
theorem dX7_safe_12 : decode cX7_safe 12 = .ok (.invokevirtual 159, 3) := by decide +kernel
theorem dX7_safe_15 : decode cX7_safe 15 = .ok (.ifCond .eq 23, 3) := by decide +kernel
theorem dX7_safe_18 : decode cX7_safe 18 = .ok (.aload_n 0, 1) := by decide +kernel
theorem dX7_safe_19 : decode cX7_safe 19 = .ok (.iload_n 2, 1) := by decide +kernel
theorem dX7_safe_20 : decode cX7_safe 20 = .ok (.invokevirtual 227, 3) := by decide +kernel
theorem dX7_safe_23 : decode cX7_safe 23 = .ok (.ifCond .eq 15, 3) := by decide +kernel
theorem dX7_safe_26 : decode cX7_safe 26 = .ok (.aload_n 0, 1) := by decide +kernel
theorem dX7_safe_27 : decode cX7_safe 27 = .ok (.getfield 25, 3) := by decide +kernel
theorem dX7_safe_30 : decode cX7_safe 30 = .ok (.iload_n 1, 1) := by decide +kernel
theorem dX7_safe_31 : decode cX7_safe 31 = .ok (.iload_n 2, 1) := by decide +kernel
theorem dX7_safe_32 : decode cX7_safe 32 = .ok (.invokevirtual 230, 3) := by decide +kernel
theorem dX7_safe_35 : decode cX7_safe 35 = .ok (.goto 5, 3) := by decide +kernel
theorem dX7_safe_38 : decode cX7_safe 38 = .ok (.ldc 59, 2) := by decide +kernel
theorem dX7_safe_40 : decode cX7_safe 40 = .ok (.ireturn, 1) := by decide +kernel
set_option maxRecDepth 20000 in
theorem ggX7_open_X7_noGate : GoodIn wsX7_open wsX7_noGate := goodIn_r _ [8, 2, 9, 77, 78, 79, 80, 81, 82, 83, 84, 85, 86, 87, 88, 89, 90, 91, 92, 93] (by decide +kernel) (by decide +kernel)
set_option maxRecDepth 20000 in
theorem gX7_open_X7_noGate : GoodIn wsX7_open (wsV RX7 133 RX7 yX7_noGate wsX7_noGate) := goodIn_app (goodIn_of _ (by decide +kernel)) ggX7_open_X7_noGate
set_option maxRecDepth 20000 in
theorem ggX7_open_X7_areWords : GoodIn wsX7_open wsX7_areWords := goodIn_r _ [13, 2, 9, 77, 78, 79, 80, 81, 82, 83, 84, 85, 86, 87, 88, 89, 90, 91, 92, 93] (by decide +kernel) (by decide +kernel)
set_option maxRecDepth 20000 in
theorem gX7_open_X7_areWords : GoodIn wsX7_open (wsV RX7 233 RX7 yX7_areWords wsX7_areWords) := goodIn_app (goodIn_of _ (by decide +kernel)) ggX7_open_X7_areWords
set_option maxRecDepth 20000 in
theorem ggX7_open_X7_isAhead : GoodIn wsX7_open wsX7_isAhead := goodIn_r _ [17] (by decide +kernel) (by decide +kernel)
set_option maxRecDepth 20000 in
theorem gX7_open_X7_isAhead : GoodIn wsX7_open (wsV RX7 227 RX7 yX7_isAhead wsX7_isAhead) := goodIn_app (goodIn_of _ (by decide +kernel)) ggX7_open_X7_isAhead
set_option maxRecDepth 20000 in
theorem ggX7_open_X2_hoursOpen : GoodIn wsX7_open wsX2_hoursOpen := goodIn_r _ [22, 23, 24, 25, 21, 26, 27, 28, 29, 30, 31, 32, 33, 34, 35, 36, 37, 38, 39, 40, 41, 42, 43, 44, 45, 7, 46, 47, 48, 49, 50, 51, 52, 53, 54, 55, 56, 57, 58, 59, 60, 61, 62, 63, 64, 65, 66, 67, 68, 69, 70, 71, 72, 73, 74, 75, 76, 86, 87, 88, 89, 90, 91, 92, 93, 94, 95, 96, 97, 98, 99, 100, 101] (by decide +kernel) (by decide +kernel)
set_option maxRecDepth 20000 in
theorem gX7_open_X2_hoursOpen : GoodIn wsX7_open (wsV RX7 236 RX2 yX2_hoursOpen wsX2_hoursOpen) := goodIn_app (goodIn_of _ (by decide +kernel)) ggX7_open_X2_hoursOpen
theorem dX7_open_0 : decode cX7_open 0 = .ok (.aload_n 0, 1) := by decide +kernel
theorem dX7_open_1 : decode cX7_open 1 = .ok (.invokevirtual 133, 3) := by decide +kernel
theorem dX7_open_4 : decode cX7_open 4 = .ok (.ifCond .eq 6, 3) := by decide +kernel
theorem dX7_open_7 : decode cX7_open 7 = .ok (.ldc 136, 2) := by decide +kernel
theorem dX7_open_9 : decode cX7_open 9 = .ok (.ireturn, 1) := by decide +kernel
theorem dX7_open_10 : decode cX7_open 10 = .ok (.aload_n 0, 1) := by decide +kernel
theorem dX7_open_11 : decode cX7_open 11 = .ok (.iload_n 1, 1) := by decide +kernel
theorem dX7_open_12 : decode cX7_open 12 = .ok (.invokevirtual 233, 3) := by decide +kernel
theorem dX7_open_15 : decode cX7_open 15 = .ok (.ifCond .eq 23, 3) := by decide +kernel
theorem dX7_open_18 : decode cX7_open 18 = .ok (.aload_n 0, 1) := by decide +kernel
theorem dX7_open_19 : decode cX7_open 19 = .ok (.iload_n 2, 1) := by decide +kernel
theorem dX7_open_20 : decode cX7_open 20 = .ok (.invokevirtual 227, 3) := by decide +kernel
theorem dX7_open_23 : decode cX7_open 23 = .ok (.ifCond .eq 15, 3) := by decide +kernel
theorem dX7_open_26 : decode cX7_open 26 = .ok (.aload_n 0, 1) := by decide +kernel
theorem dX7_open_27 : decode cX7_open 27 = .ok (.getfield 25, 3) := by decide +kernel
theorem dX7_open_30 : decode cX7_open 30 = .ok (.iload_n 1, 1) := by decide +kernel
theorem dX7_open_31 : decode cX7_open 31 = .ok (.iload_n 2, 1) := by decide +kernel
theorem dX7_open_32 : decode cX7_open 32 = .ok (.invokevirtual 236, 3) := by decide +kernel
theorem dX7_open_35 : decode cX7_open 35 = .ok (.goto 5, 3) := by decide +kernel
theorem dX7_open_38 : decode cX7_open 38 = .ok (.ldc 59, 2) := by decide +kernel
theorem dX7_open_40 : decode cX7_open 40 = .ok (.ireturn, 1) := by decide +kernel
set_option maxRecDepth 20000 in
theorem ggX7_next_X7_isWord : GoodIn wsX7_next wsX7_isWord := goodIn_r _ [7, 1, 8, 31, 32, 33, 34, 35, 36, 37, 38, 39, 40, 41, 42, 43, 44, 45, 46, 47] (by decide +kernel) (by decide +kernel)
set_option maxRecDepth 20000 in
theorem gX7_next_X7_isWord : GoodIn wsX7_next (wsV RX7 156 RX7 yX7_isWord wsX7_isWord) := goodIn_app (goodIn_of _ (by decide +kernel)) ggX7_next_X7_isWord
set_option maxRecDepth 20000 in
theorem ggX7_next_X2_nightsUntil : GoodIn wsX7_next wsX2_nightsUntil := goodIn_r _ [13, 14, 15, 16, 17, 12, 18, 19, 20, 21, 22, 23, 24, 25, 26, 27, 28, 29, 6, 30, 40, 41, 42, 43, 44, 45, 46, 47, 48, 49, 50, 51, 52, 53, 54, 55] (by decide +kernel) (by decide +kernel)
set_option maxRecDepth 20000 in
theorem gX7_next_X2_nightsUntil : GoodIn wsX7_next (wsV RX7 239 RX2 yX2_nightsUntil wsX2_nightsUntil) := goodIn_app (goodIn_of _ (by decide +kernel)) ggX7_next_X2_nightsUntil
theorem dX7_next_0 : decode cX7_next 0 = .ok (.aload_n 0, 1) := by decide +kernel
theorem dX7_next_1 : decode cX7_next 1 = .ok (.iload_n 1, 1) := by decide +kernel
theorem dX7_next_2 : decode cX7_next 2 = .ok (.invokevirtual 156, 3) := by decide +kernel
theorem dX7_next_5 : decode cX7_next 5 = .ok (.ifCond .eq 14, 3) := by decide +kernel
theorem dX7_next_8 : decode cX7_next 8 = .ok (.aload_n 0, 1) := by decide +kernel
theorem dX7_next_9 : decode cX7_next 9 = .ok (.getfield 25, 3) := by decide +kernel
theorem dX7_next_12 : decode cX7_next 12 = .ok (.iload_n 1, 1) := by decide +kernel
theorem dX7_next_13 : decode cX7_next 13 = .ok (.invokevirtual 239, 3) := by decide +kernel
theorem dX7_next_16 : decode cX7_next 16 = .ok (.goto 5, 3) := by decide +kernel
theorem dX7_next_19 : decode cX7_next 19 = .ok (.ldc 59, 2) := by decide +kernel
theorem dX7_next_21 : decode cX7_next 21 = .ok (.ireturn, 1) := by decide +kernel
set_option maxRecDepth 20000 in
theorem ggX7_agree_X7_noGate : GoodIn wsX7_agree wsX7_noGate := goodIn_r _ [7, 2, 8, 41, 42, 43, 44, 45, 46, 47, 48, 49, 50, 51, 52, 53, 54, 55, 56, 57] (by decide +kernel) (by decide +kernel)
set_option maxRecDepth 20000 in
theorem gX7_agree_X7_noGate : GoodIn wsX7_agree (wsV RX7 133 RX7 yX7_noGate wsX7_noGate) := goodIn_app (goodIn_of _ (by decide +kernel)) ggX7_agree_X7_noGate
set_option maxRecDepth 20000 in
theorem ggX7_agree_X3_agreeing : GoodIn wsX7_agree wsX3_agreeing := goodIn_r _ [12, 13, 14, 15, 11, 16, 17, 18, 19, 20, 21, 22, 23, 24, 25, 26, 27, 28, 29, 30, 31, 32, 33, 34, 35, 36, 37, 38, 39, 6, 40, 50, 51, 52, 53, 54, 55, 56, 57, 58, 59, 60, 61, 62, 63, 64, 65] (by decide +kernel) (by decide +kernel)
set_option maxRecDepth 20000 in
theorem gX7_agree_X3_agreeing : GoodIn wsX7_agree (va_wsS RX7 242 yX3_agreeing wsX3_agreeing) := goodIn_app (goodIn_of _ (by decide +kernel)) ggX7_agree_X3_agreeing
theorem dX7_agree_0 : decode cX7_agree 0 = .ok (.aload_n 0, 1) := by decide +kernel
theorem dX7_agree_1 : decode cX7_agree 1 = .ok (.invokevirtual 133, 3) := by decide +kernel
theorem dX7_agree_4 : decode cX7_agree 4 = .ok (.ifCond .eq 8, 3) := by decide +kernel
theorem dX7_agree_7 : decode cX7_agree 7 = .ok (.ldc 136, 2) := by decide +kernel
theorem dX7_agree_9 : decode cX7_agree 9 = .ok (.goto 10, 3) := by decide +kernel
theorem dX7_agree_12 : decode cX7_agree 12 = .ok (.aload_n 0, 1) := by decide +kernel
theorem dX7_agree_13 : decode cX7_agree 13 = .ok (.getfield 25, 3) := by decide +kernel
theorem dX7_agree_16 : decode cX7_agree 16 = .ok (.invokestatic 242, 3) := by decide +kernel
theorem dX7_agree_19 : decode cX7_agree 19 = .ok (.ireturn, 1) := by decide +kernel
set_option maxRecDepth 20000 in
theorem ggX7_man_X7_noGate : GoodIn wsX7_man wsX7_noGate := goodIn_r _ [8, 3, 9, 82, 83, 84, 85, 86, 87, 88, 89, 90, 91, 92, 93, 94, 95, 96, 97, 98] (by decide +kernel) (by decide +kernel)
set_option maxRecDepth 20000 in
theorem gX7_man_X7_noGate : GoodIn wsX7_man (wsV RX7 133 RX7 yX7_noGate wsX7_noGate) := goodIn_app (goodIn_of _ (by decide +kernel)) ggX7_man_X7_noGate
set_option maxRecDepth 20000 in
theorem ggX7_man_X3_agreeing : GoodIn wsX7_man wsX3_agreeing := goodIn_r _ [13, 14, 15, 16, 12, 17, 18, 19, 20, 21, 22, 23, 24, 25, 26, 27, 28, 29, 30, 31, 32, 33, 34, 35, 36, 37, 38, 39, 40, 7, 41, 91, 92, 93, 94, 95, 96, 97, 98, 99, 100, 101, 102, 103, 104, 105, 106] (by decide +kernel) (by decide +kernel)
set_option maxRecDepth 20000 in
theorem gX7_man_X3_agreeing : GoodIn wsX7_man (va_wsS RX7 242 yX3_agreeing wsX3_agreeing) := goodIn_app (goodIn_of _ (by decide +kernel)) ggX7_man_X3_agreeing
set_option maxRecDepth 20000 in
theorem ggX7_man_X3_bestTry : GoodIn wsX7_man wsX3_bestTry := goodIn_r _ [44, 14, 45, 46, 12, 47, 48, 49, 50, 51, 52, 53, 54, 18, 24, 55, 56, 57, 29, 58, 59, 60, 61, 62, 63, 64, 65, 7, 66, 67, 68, 69, 70, 71, 72, 73, 27, 28, 30, 31, 32, 33, 34, 35, 36, 37, 38, 39, 40, 41, 74, 75, 76, 77, 78, 79, 80, 91, 92, 93, 94, 95, 96, 97, 98, 99, 100, 101, 102, 103, 104, 105, 106] (by decide +kernel) (by decide +kernel)
set_option maxRecDepth 20000 in
theorem gX7_man_X3_bestTry : GoodIn wsX7_man (va_wsS RX7 246 yX3_bestTry wsX3_bestTry) := goodIn_app (goodIn_of _ (by decide +kernel)) ggX7_man_X3_bestTry
set_option maxRecDepth 20000 in
theorem ggX7_man_X3_leftAtWorst : GoodIn wsX7_man wsX3_leftAtWorst := goodIn_r _ [47, 48, 49, 50, 51, 52, 53, 12, 54, 14, 18, 24, 55, 56, 57, 29, 58, 59, 60, 61, 62, 63, 64, 65, 7, 66, 67, 68, 69, 70, 71, 72, 73, 27, 28, 30, 31, 32, 33, 34, 35, 36, 37, 38, 39, 40, 41, 74, 75, 76, 77, 78, 79, 80, 91, 92, 93, 94, 95, 96, 97, 98, 99, 100, 101, 102, 103, 104, 105, 106] (by decide +kernel) (by decide +kernel)
set_option maxRecDepth 20000 in
theorem gX7_man_X3_leftAtWorst : GoodIn wsX7_man (va_wsS RX7 250 yX3_leftAtWorst wsX3_leftAtWorst) := goodIn_app (goodIn_of _ (by decide +kernel)) ggX7_man_X3_leftAtWorst
theorem dX7_man_0 : decode cX7_man 0 = .ok (.aload_n 0, 1) := by decide +kernel
theorem dX7_man_1 : decode cX7_man 1 = .ok (.invokevirtual 133, 3) := by decide +kernel
theorem dX7_man_4 : decode cX7_man 4 = .ok (.ifCond .eq 6, 3) := by decide +kernel
theorem dX7_man_7 : decode cX7_man 7 = .ok (.ldc 136, 2) := by decide +kernel
theorem dX7_man_9 : decode cX7_man 9 = .ok (.ireturn, 1) := by decide +kernel
theorem dX7_man_10 : decode cX7_man 10 = .ok (.iload_n 1, 1) := by decide +kernel
theorem dX7_man_11 : decode cX7_man 11 = .ok (.ifCond .lt 8, 3) := by decide +kernel
theorem dX7_man_14 : decode cX7_man 14 = .ok (.iload_n 1, 1) := by decide +kernel
theorem dX7_man_15 : decode cX7_man 15 = .ok (.iconst 2, 1) := by decide +kernel
theorem dX7_man_16 : decode cX7_man 16 = .ok (.if_icmp .le 6, 3) := by decide +kernel
theorem dX7_man_19 : decode cX7_man 19 = .ok (.ldc 59, 2) := by decide +kernel
theorem dX7_man_21 : decode cX7_man 21 = .ok (.ireturn, 1) := by decide +kernel
theorem dX7_man_22 : decode cX7_man 22 = .ok (.aload_n 0, 1) := by decide +kernel
theorem dX7_man_23 : decode cX7_man 23 = .ok (.getfield 25, 3) := by decide +kernel
theorem dX7_man_26 : decode cX7_man 26 = .ok (.invokestatic 242, 3) := by decide +kernel
theorem dX7_man_29 : decode cX7_man 29 = .ok (.istore_n 2, 1) := by decide +kernel
theorem dX7_man_30 : decode cX7_man 30 = .ok (.aload_n 0, 1) := by decide +kernel
theorem dX7_man_31 : decode cX7_man 31 = .ok (.getfield 25, 3) := by decide +kernel
theorem dX7_man_34 : decode cX7_man 34 = .ok (.iload_n 2, 1) := by decide +kernel
theorem dX7_man_35 : decode cX7_man 35 = .ok (.invokestatic 246, 3) := by decide +kernel
theorem dX7_man_38 : decode cX7_man 38 = .ok (.istore_n 3, 1) := by decide +kernel
theorem dX7_man_39 : decode cX7_man 39 = .ok (.iload_n 1, 1) := by decide +kernel
theorem dX7_man_40 : decode cX7_man 40 = .ok (.iconst 2, 1) := by decide +kernel
theorem dX7_man_41 : decode cX7_man 41 = .ok (.if_icmp .ne 13, 3) := by decide +kernel
theorem dX7_man_44 : decode cX7_man 44 = .ok (.aload_n 0, 1) := by decide +kernel
theorem dX7_man_45 : decode cX7_man 45 = .ok (.getfield 25, 3) := by decide +kernel
theorem dX7_man_48 : decode cX7_man 48 = .ok (.iload_n 3, 1) := by decide +kernel
theorem dX7_man_49 : decode cX7_man 49 = .ok (.iload_n 2, 1) := by decide +kernel
theorem dX7_man_50 : decode cX7_man 50 = .ok (.invokestatic 250, 3) := by decide +kernel
theorem dX7_man_53 : decode cX7_man 53 = .ok (.ireturn, 1) := by decide +kernel
theorem dX7_man_54 : decode cX7_man 54 = .ok (.iload_n 1, 1) := by decide +kernel
theorem dX7_man_55 : decode cX7_man 55 = .ok (.ifCond .ne 10, 3) := by decide +kernel
theorem dX7_man_58 : decode cX7_man 58 = .ok (.iload_n 3, 1) := by decide +kernel
theorem dX7_man_59 : decode cX7_man 59 = .ok (.bipush 6, 2) := by decide +kernel
theorem dX7_man_61 : decode cX7_man 61 = .ok (.idiv, 1) := by decide +kernel
theorem dX7_man_62 : decode cX7_man 62 = .ok (.goto 7, 3) := by decide +kernel
theorem dX7_man_65 : decode cX7_man 65 = .ok (.iload_n 3, 1) := by decide +kernel
theorem dX7_man_66 : decode cX7_man 66 = .ok (.bipush 6, 2) := by decide +kernel
theorem dX7_man_68 : decode cX7_man 68 = .ok (.irem, 1) := by decide +kernel
theorem dX7_man_69 : decode cX7_man 69 = .ok (.ireturn, 1) := by decide +kernel
set_option maxRecDepth 20000 in
theorem ggX7_fewest_X7_noGate : GoodIn wsX7_fewest wsX7_noGate := goodIn_r _ [8, 3, 9, 89, 90, 91, 92, 93, 94, 95, 96, 97, 98, 99, 100, 101, 102, 103, 104, 105] (by decide +kernel) (by decide +kernel)
set_option maxRecDepth 20000 in
theorem gX7_fewest_X7_noGate : GoodIn wsX7_fewest (wsV RX7 133 RX7 yX7_noGate wsX7_noGate) := goodIn_app (goodIn_of _ (by decide +kernel)) ggX7_fewest_X7_noGate
set_option maxRecDepth 20000 in
theorem ggX7_fewest_X3_agreeing : GoodIn wsX7_fewest wsX3_agreeing := goodIn_r _ [13, 14, 15, 16, 12, 17, 18, 19, 20, 21, 22, 23, 24, 25, 26, 27, 28, 29, 30, 31, 32, 33, 34, 35, 36, 37, 38, 39, 40, 7, 41, 98, 99, 100, 101, 102, 103, 104, 105, 106, 107, 108, 109, 110, 111, 112, 113] (by decide +kernel) (by decide +kernel)
set_option maxRecDepth 20000 in
theorem gX7_fewest_X3_agreeing : GoodIn wsX7_fewest (va_wsS RX7 242 yX3_agreeing wsX3_agreeing) := goodIn_app (goodIn_of _ (by decide +kernel)) ggX7_fewest_X3_agreeing
set_option maxRecDepth 20000 in
theorem ggX7_fewest_X3_fewestMen : GoodIn wsX7_fewest wsX3_fewestMen := goodIn_r _ [45, 14, 46, 47, 48, 49, 50, 12, 51, 18, 24, 52, 53, 54, 29, 55, 56, 57, 58, 59, 60, 61, 62, 7, 63, 64, 65, 66, 67, 68, 69, 70, 27, 28, 30, 31, 32, 33, 34, 35, 36, 37, 38, 39, 40, 41, 71, 72, 73, 74, 75, 76, 77, 78, 79, 80, 81, 82, 83, 84, 85, 86, 87, 88, 98, 99, 100, 101, 102, 103, 104, 105, 114, 115, 106, 107, 108, 109, 110, 111, 112, 113] (by decide +kernel) (by decide +kernel)
set_option maxRecDepth 20000 in
theorem gX7_fewest_X3_fewestMen : GoodIn wsX7_fewest (wsV RX7 254 RX3 yX3_fewestMen wsX3_fewestMen) := goodIn_app (goodIn_of _ (by decide +kernel)) ggX7_fewest_X3_fewestMen
theorem dX7_fewest_0 : decode cX7_fewest 0 = .ok (.aload_n 0, 1) := by decide +kernel
theorem dX7_fewest_1 : decode cX7_fewest 1 = .ok (.invokevirtual 133, 3) := by decide +kernel
theorem dX7_fewest_4 : decode cX7_fewest 4 = .ok (.ifCond .eq 8, 3) := by decide +kernel
theorem dX7_fewest_7 : decode cX7_fewest 7 = .ok (.ldc 136, 2) := by decide +kernel
theorem dX7_fewest_9 : decode cX7_fewest 9 = .ok (.goto 21, 3) := by decide +kernel
theorem dX7_fewest_12 : decode cX7_fewest 12 = .ok (.aload_n 0, 1) := by decide +kernel
theorem dX7_fewest_13 : decode cX7_fewest 13 = .ok (.getfield 43, 3) := by decide +kernel
theorem dX7_fewest_16 : decode cX7_fewest 16 = .ok (.aload_n 0, 1) := by decide +kernel
theorem dX7_fewest_17 : decode cX7_fewest 17 = .ok (.getfield 25, 3) := by decide +kernel
theorem dX7_fewest_20 : decode cX7_fewest 20 = .ok (.aload_n 0, 1) := by decide +kernel
theorem dX7_fewest_21 : decode cX7_fewest 21 = .ok (.getfield 25, 3) := by decide +kernel
theorem dX7_fewest_24 : decode cX7_fewest 24 = .ok (.invokestatic 242, 3) := by decide +kernel
theorem dX7_fewest_27 : decode cX7_fewest 27 = .ok (.invokevirtual 254, 3) := by decide +kernel
theorem dX7_fewest_30 : decode cX7_fewest 30 = .ok (.ireturn, 1) := by decide +kernel
set_option maxRecDepth 20000 in
theorem ggX7_march_X7_noGate : GoodIn wsX7_march wsX7_noGate := goodIn_r _ [8, 9, 10, 100, 101, 102, 103, 104, 105, 106, 107, 108, 109, 110, 111, 112, 113, 114, 115, 116] (by decide +kernel) (by decide +kernel)
set_option maxRecDepth 20000 in
theorem gX7_march_X7_noGate : GoodIn wsX7_march (wsV RX7 133 RX7 yX7_noGate wsX7_noGate) := goodIn_app (goodIn_of _ (by decide +kernel)) ggX7_march_X7_noGate
set_option maxRecDepth 20000 in
theorem ggX7_march_X7_isRow : GoodIn wsX7_march wsX7_isRow := goodIn_r _ [14] (by decide +kernel) (by decide +kernel)
set_option maxRecDepth 20000 in
theorem gX7_march_X7_isRow : GoodIn wsX7_march (wsV RX7 55 RX7 yX7_isRow wsX7_isRow) := goodIn_app (goodIn_of _ (by decide +kernel)) ggX7_march_X7_isRow
set_option maxRecDepth 20000 in
theorem ggX7_march_X5_findingOf : GoodIn wsX7_march wsX5_findingOf := goodIn_r _ [19, 20, 21, 22, 23, 18, 24, 25, 117, 118, 119] (by decide +kernel) (by decide +kernel)
set_option maxRecDepth 20000 in
theorem gX7_march_X5_findingOf : GoodIn wsX7_march (wsV RX7 71 RX5 yX5_findingOf wsX5_findingOf) := goodIn_app (goodIn_of _ (by decide +kernel)) ggX7_march_X5_findingOf
set_option maxRecDepth 20000 in
theorem ggX7_march_X7_found : GoodIn wsX7_march wsX7_found := goodIn_r _ [29, 30, 31, 100, 101, 102, 103, 104, 105, 106, 107, 108] (by decide +kernel) (by decide +kernel)
set_option maxRecDepth 20000 in
theorem gX7_march_X7_found : GoodIn wsX7_march (wsV RX7 60 RX7 yX7_found wsX7_found) := goodIn_app (goodIn_of _ (by decide +kernel)) ggX7_march_X7_found
set_option maxRecDepth 20000 in
theorem ggX7_march_X7_hourOfLast : GoodIn wsX7_march wsX7_hourOfLast := goodIn_r _ [35, 36, 9, 37, 38, 39, 40, 7, 41, 10, 42, 43, 44, 45, 46, 47, 48, 49, 50, 51, 52, 53, 54, 55, 56, 57, 58, 59, 60, 61, 62, 63, 64, 65, 66, 67, 68, 69, 70, 71, 72, 73, 74, 75, 76, 77, 78, 79, 80, 81, 82, 83, 84, 85, 86, 87, 88, 89, 90, 91, 92, 93, 94, 95, 117, 118, 119, 100, 101, 102, 103, 104, 105, 106, 107, 108, 109, 110, 111, 112, 113, 114, 115, 116, 120, 121, 122, 123, 124, 125, 126, 127] (by decide +kernel) (by decide +kernel)
set_option maxRecDepth 20000 in
theorem gX7_march_X7_hourOfLast : GoodIn wsX7_march (wsV RX7 257 RX7 yX7_hourOfLast wsX7_hourOfLast) := goodIn_app (goodIn_of _ (by decide +kernel)) ggX7_march_X7_hourOfLast
set_option maxRecDepth 20000 in
theorem ggX7_march_X7_unfound : GoodIn wsX7_march wsX7_unfound := goodIn_r _ [99, 30, 100, 101, 102, 103, 104, 105, 106, 107, 108] (by decide +kernel) (by decide +kernel)
set_option maxRecDepth 20000 in
theorem gX7_march_X7_unfound : GoodIn wsX7_march (wsV RX7 68 RX7 yX7_unfound wsX7_unfound) := goodIn_app (goodIn_of _ (by decide +kernel)) ggX7_march_X7_unfound
theorem dX7_march_0 : decode cX7_march 0 = .ok (.aload_n 0, 1) := by decide +kernel
theorem dX7_march_1 : decode cX7_march 1 = .ok (.invokevirtual 133, 3) := by decide +kernel
theorem dX7_march_4 : decode cX7_march 4 = .ok (.ifCond .eq 6, 3) := by decide +kernel
theorem dX7_march_7 : decode cX7_march 7 = .ok (.ldc 136, 2) := by decide +kernel
theorem dX7_march_9 : decode cX7_march 9 = .ok (.ireturn, 1) := by decide +kernel
theorem dX7_march_10 : decode cX7_march 10 = .ok (.aload_n 0, 1) := by decide +kernel
theorem dX7_march_11 : decode cX7_march 11 = .ok (.iload_n 1, 1) := by decide +kernel
theorem dX7_march_12 : decode cX7_march 12 = .ok (.invokevirtual 55, 3) := by decide +kernel
theorem dX7_march_15 : decode cX7_march 15 = .ok (.ifCond .eq 26, 3) := by decide +kernel
theorem dX7_march_18 : decode cX7_march 18 = .ok (.iload_n 3, 1) := by decide +kernel
theorem dX7_march_19 : decode cX7_march 19 = .ok (.iconst 1, 1) := by decide +kernel
theorem dX7_march_20 : decode cX7_march 20 = .ok (.if_icmp .lt 21, 3) := by decide +kernel
theorem dX7_march_23 : decode cX7_march 23 = .ok (.iload_n 3, 1) := by decide +kernel
theorem dX7_march_24 : decode cX7_march 24 = .ok (.bipush 6, 2) := by decide +kernel
theorem dX7_march_26 : decode cX7_march 26 = .ok (.if_icmp .gt 15, 3) := by decide +kernel
theorem dX7_march_29 : decode cX7_march 29 = .ok (.iload 4, 2) := by decide +kernel
theorem dX7_march_31 : decode cX7_march 31 = .ok (.iconst (-1), 1) := by decide +kernel
theorem dX7_march_32 : decode cX7_march 32 = .ok (.if_icmp .lt 9, 3) := by decide +kernel
theorem dX7_march_35 : decode cX7_march 35 = .ok (.iload 4, 2) := by decide +kernel
theorem dX7_march_37 : decode cX7_march 37 = .ok (.iload_n 3, 1) := by decide +kernel
theorem dX7_march_38 : decode cX7_march 38 = .ok (.if_icmp .lt 6, 3) := by decide +kernel
theorem dX7_march_41 : decode cX7_march 41 = .ok (.ldc 59, 2) := by decide +kernel
theorem dX7_march_43 : decode cX7_march 43 = .ok (.ireturn, 1) := by decide +kernel
theorem dX7_march_44 : decode cX7_march 44 = .ok (.aload_n 0, 1) := by decide +kernel
theorem dX7_march_45 : decode cX7_march 45 = .ok (.getfield 11, 3) := by decide +kernel
theorem dX7_march_48 : decode cX7_march 48 = .ok (.iload_n 1, 1) := by decide +kernel
theorem dX7_march_49 : decode cX7_march 49 = .ok (.aaload, 1) := by decide +kernel
theorem dX7_march_50 : decode cX7_march 50 = .ok (.iload_n 2, 1) := by decide +kernel
theorem dX7_march_51 : decode cX7_march 51 = .ok (.iload_n 3, 1) := by decide +kernel
theorem dX7_march_52 : decode cX7_march 52 = .ok (.invokevirtual 71, 3) := by decide +kernel
theorem dX7_march_55 : decode cX7_march 55 = .ok (.istore 5, 2) := by decide +kernel
theorem dX7_march_57 : decode cX7_march 57 = .ok (.iload 5, 2) := by decide +kernel
theorem dX7_march_59 : decode cX7_march 59 = .ok (.ifCond .eq 10, 3) := by decide +kernel
theorem dX7_march_62 : decode cX7_march 62 = .ok (.aload_n 0, 1) := by decide +kernel
theorem dX7_march_63 : decode cX7_march 63 = .ok (.iload 5, 2) := by decide +kernel
theorem dX7_march_65 : decode cX7_march 65 = .ok (.invokevirtual 60, 3) := by decide +kernel
theorem dX7_march_68 : decode cX7_march 68 = .ok (.ireturn, 1) := by decide +kernel
theorem dX7_march_69 : decode cX7_march 69 = .ok (.aload_n 0, 1) := by decide +kernel
theorem dX7_march_70 : decode cX7_march 70 = .ok (.aload_n 0, 1) := by decide +kernel
theorem dX7_march_71 : decode cX7_march 71 = .ok (.aload_n 0, 1) := by decide +kernel
theorem dX7_march_72 : decode cX7_march 72 = .ok (.getfield 11, 3) := by decide +kernel
theorem dX7_march_75 : decode cX7_march 75 = .ok (.iload_n 1, 1) := by decide +kernel
theorem dX7_march_76 : decode cX7_march 76 = .ok (.aaload, 1) := by decide +kernel
theorem dX7_march_77 : decode cX7_march 77 = .ok (.iload_n 2, 1) := by decide +kernel
theorem dX7_march_78 : decode cX7_march 78 = .ok (.iload 4, 2) := by decide +kernel
theorem dX7_march_80 : decode cX7_march 80 = .ok (.iconst (-1), 1) := by decide +kernel
theorem dX7_march_81 : decode cX7_march 81 = .ok (.if_icmp .ne 7, 3) := by decide +kernel
theorem dX7_march_84 : decode cX7_march 84 = .ok (.iload_n 3, 1) := by decide +kernel
theorem dX7_march_85 : decode cX7_march 85 = .ok (.goto 7, 3) := by decide +kernel
theorem dX7_march_88 : decode cX7_march 88 = .ok (.iload 4, 2) := by decide +kernel
theorem dX7_march_90 : decode cX7_march 90 = .ok (.iconst 1, 1) := by decide +kernel
theorem dX7_march_91 : decode cX7_march 91 = .ok (.iadd, 1) := by decide +kernel
theorem dX7_march_92 : decode cX7_march 92 = .ok (.invokevirtual 257, 3) := by decide +kernel
theorem dX7_march_95 : decode cX7_march 95 = .ok (.invokevirtual 68, 3) := by decide +kernel
theorem dX7_march_98 : decode cX7_march 98 = .ok (.ireturn, 1) := by decide +kernel
set_option maxRecDepth 20000 in
theorem ggX7_cheap_X7_noGate : GoodIn wsX7_cheap wsX7_noGate := goodIn_r _ [8, 3, 9, 82, 83, 84, 85, 86, 87, 88, 89, 90, 91, 92, 93, 94, 95, 96, 97, 98] (by decide +kernel) (by decide +kernel)
set_option maxRecDepth 20000 in
theorem gX7_cheap_X7_noGate : GoodIn wsX7_cheap (wsV RX7 133 RX7 yX7_noGate wsX7_noGate) := goodIn_app (goodIn_of _ (by decide +kernel)) ggX7_cheap_X7_noGate
set_option maxRecDepth 20000 in
theorem ggX7_cheap_X7_areWords : GoodIn wsX7_cheap wsX7_areWords := goodIn_r _ [13, 3, 9, 82, 83, 84, 85, 86, 87, 88, 89, 90, 91, 92, 93, 94, 95, 96, 97, 98] (by decide +kernel) (by decide +kernel)
set_option maxRecDepth 20000 in
theorem gX7_cheap_X7_areWords : GoodIn wsX7_cheap (wsV RX7 233 RX7 yX7_areWords wsX7_areWords) := goodIn_app (goodIn_of _ (by decide +kernel)) ggX7_cheap_X7_areWords
set_option maxRecDepth 20000 in
theorem ggX7_cheap_X7_isAhead : GoodIn wsX7_cheap wsX7_isAhead := goodIn_r _ [17] (by decide +kernel) (by decide +kernel)
set_option maxRecDepth 20000 in
theorem gX7_cheap_X7_isAhead : GoodIn wsX7_cheap (wsV RX7 227 RX7 yX7_isAhead wsX7_isAhead) := goodIn_app (goodIn_of _ (by decide +kernel)) ggX7_cheap_X7_isAhead
set_option maxRecDepth 20000 in
theorem ggX7_cheap_X2_guardsAgainst : GoodIn wsX7_cheap wsX2_guardsAgainst := goodIn_r _ [22, 23, 24, 25, 26, 27, 21, 28, 29, 30, 31, 32, 33, 34, 35, 36, 37, 38, 39, 40, 41, 42, 43, 44, 45, 7, 46, 47, 48, 49, 50, 51, 52, 53, 54, 55, 56, 57, 58, 59, 60, 61, 62, 63, 64, 65, 66, 67, 68, 69, 70, 71, 72, 73, 74, 75, 76, 91, 92, 93, 94, 95, 96, 97, 98, 99, 100, 101, 102, 103, 104, 105, 106] (by decide +kernel) (by decide +kernel)
set_option maxRecDepth 20000 in
theorem gX7_cheap_X2_guardsAgainst : GoodIn wsX7_cheap (wsV RX7 261 RX2 yX2_guardsAgainst wsX2_guardsAgainst) := goodIn_app (goodIn_of _ (by decide +kernel)) ggX7_cheap_X2_guardsAgainst
set_option maxRecDepth 20000 in
theorem ggX7_cheap_X2_feeOf : GoodIn wsX7_cheap wsX2_feeOf := goodIn_r _ [80, 56, 81, 91, 92, 93, 94, 95, 96, 97, 98] (by decide +kernel) (by decide +kernel)
set_option maxRecDepth 20000 in
theorem gX7_cheap_X2_feeOf : GoodIn wsX7_cheap (wsV RX7 264 RX2 yX2_feeOf wsX2_feeOf) := goodIn_app (goodIn_of _ (by decide +kernel)) ggX7_cheap_X2_feeOf
theorem dX7_cheap_0 : decode cX7_cheap 0 = .ok (.aload_n 0, 1) := by decide +kernel
theorem dX7_cheap_1 : decode cX7_cheap 1 = .ok (.invokevirtual 133, 3) := by decide +kernel
theorem dX7_cheap_4 : decode cX7_cheap 4 = .ok (.ifCond .eq 6, 3) := by decide +kernel
theorem dX7_cheap_7 : decode cX7_cheap 7 = .ok (.ldc 136, 2) := by decide +kernel
theorem dX7_cheap_9 : decode cX7_cheap 9 = .ok (.ireturn, 1) := by decide +kernel
theorem dX7_cheap_10 : decode cX7_cheap 10 = .ok (.aload_n 0, 1) := by decide +kernel
theorem dX7_cheap_11 : decode cX7_cheap 11 = .ok (.iload_n 1, 1) := by decide +kernel
theorem dX7_cheap_12 : decode cX7_cheap 12 = .ok (.invokevirtual 233, 3) := by decide +kernel
theorem dX7_cheap_15 : decode cX7_cheap 15 = .ok (.ifCond .eq 20, 3) := by decide +kernel
theorem dX7_cheap_18 : decode cX7_cheap 18 = .ok (.aload_n 0, 1) := by decide +kernel
theorem dX7_cheap_19 : decode cX7_cheap 19 = .ok (.iload_n 2, 1) := by decide +kernel
theorem dX7_cheap_20 : decode cX7_cheap 20 = .ok (.invokevirtual 227, 3) := by decide +kernel
theorem dX7_cheap_23 : decode cX7_cheap 23 = .ok (.ifCond .eq 12, 3) := by decide +kernel
theorem dX7_cheap_26 : decode cX7_cheap 26 = .ok (.iload_n 3, 1) := by decide +kernel
theorem dX7_cheap_27 : decode cX7_cheap 27 = .ok (.ifCond .lt 8, 3) := by decide +kernel
theorem dX7_cheap_30 : decode cX7_cheap 30 = .ok (.iload_n 3, 1) := by decide +kernel
theorem dX7_cheap_31 : decode cX7_cheap 31 = .ok (.iconst 1, 1) := by decide +kernel
theorem dX7_cheap_32 : decode cX7_cheap 32 = .ok (.if_icmp .le 6, 3) := by decide +kernel
theorem dX7_cheap_35 : decode cX7_cheap 35 = .ok (.ldc 59, 2) := by decide +kernel
theorem dX7_cheap_37 : decode cX7_cheap 37 = .ok (.ireturn, 1) := by decide +kernel
theorem dX7_cheap_38 : decode cX7_cheap 38 = .ok (.aload_n 0, 1) := by decide +kernel
theorem dX7_cheap_39 : decode cX7_cheap 39 = .ok (.getfield 25, 3) := by decide +kernel
theorem dX7_cheap_42 : decode cX7_cheap 42 = .ok (.iload_n 1, 1) := by decide +kernel
theorem dX7_cheap_43 : decode cX7_cheap 43 = .ok (.iload_n 2, 1) := by decide +kernel
theorem dX7_cheap_44 : decode cX7_cheap 44 = .ok (.invokevirtual 261, 3) := by decide +kernel
theorem dX7_cheap_47 : decode cX7_cheap 47 = .ok (.istore 4, 2) := by decide +kernel
theorem dX7_cheap_49 : decode cX7_cheap 49 = .ok (.iload_n 3, 1) := by decide +kernel
theorem dX7_cheap_50 : decode cX7_cheap 50 = .ok (.ifCond .ne 15, 3) := by decide +kernel
theorem dX7_cheap_53 : decode cX7_cheap 53 = .ok (.aload_n 0, 1) := by decide +kernel
theorem dX7_cheap_54 : decode cX7_cheap 54 = .ok (.getfield 25, 3) := by decide +kernel
theorem dX7_cheap_57 : decode cX7_cheap 57 = .ok (.iload 4, 2) := by decide +kernel
theorem dX7_cheap_59 : decode cX7_cheap 59 = .ok (.invokevirtual 264, 3) := by decide +kernel
theorem dX7_cheap_62 : decode cX7_cheap 62 = .ok (.goto 5, 3) := by decide +kernel
theorem dX7_cheap_65 : decode cX7_cheap 65 = .ok (.iload 4, 2) := by decide +kernel
theorem dX7_cheap_67 : decode cX7_cheap 67 = .ok (.ireturn, 1) := by decide +kernel
set_option maxRecDepth 20000 in
theorem ggX7_near_X7_isWord : GoodIn wsX7_near wsX7_isWord := goodIn_r _ [8, 2, 9, 23, 24, 25, 26, 27, 28, 29, 30, 31, 32, 33, 34, 35, 36, 37, 38, 39] (by decide +kernel) (by decide +kernel)
set_option maxRecDepth 20000 in
theorem gX7_near_X7_isWord : GoodIn wsX7_near (wsV RX7 156 RX7 yX7_isWord wsX7_isWord) := goodIn_app (goodIn_of _ (by decide +kernel)) ggX7_near_X7_isWord
set_option maxRecDepth 20000 in
theorem ggX7_near_X2_nearestTo : GoodIn wsX7_near wsX2_nearestTo := goodIn_r _ [14, 15, 16, 17, 18, 19, 13, 20, 21, 32, 33, 34, 35, 36, 37, 38, 39] (by decide +kernel) (by decide +kernel)
set_option maxRecDepth 20000 in
theorem gX7_near_X2_nearestTo : GoodIn wsX7_near (wsV RX7 267 RX2 yX2_nearestTo wsX2_nearestTo) := goodIn_app (goodIn_of _ (by decide +kernel)) ggX7_near_X2_nearestTo
set_option maxRecDepth 20000 in
theorem ggX7_near_X2_distance : GoodIn wsX7_near wsX2_distance := goodIn_r _ [20, 21, 32, 33, 34, 35, 36, 37, 38, 39] (by decide +kernel) (by decide +kernel)
set_option maxRecDepth 20000 in
theorem gX7_near_X2_distance : GoodIn wsX7_near (wsV RX7 203 RX2 yX2_distance wsX2_distance) := goodIn_app (goodIn_of _ (by decide +kernel)) ggX7_near_X2_distance
theorem dX7_near_0 : decode cX7_near 0 = .ok (.aload_n 0, 1) := by decide +kernel
theorem dX7_near_1 : decode cX7_near 1 = .ok (.iload_n 1, 1) := by decide +kernel
theorem dX7_near_2 : decode cX7_near 2 = .ok (.invokevirtual 156, 3) := by decide +kernel
theorem dX7_near_5 : decode cX7_near 5 = .ok (.ifCond .eq 12, 3) := by decide +kernel
theorem dX7_near_8 : decode cX7_near 8 = .ok (.iload_n 2, 1) := by decide +kernel
theorem dX7_near_9 : decode cX7_near 9 = .ok (.ifCond .lt 8, 3) := by decide +kernel
theorem dX7_near_12 : decode cX7_near 12 = .ok (.iload_n 2, 1) := by decide +kernel
theorem dX7_near_13 : decode cX7_near 13 = .ok (.iconst 1, 1) := by decide +kernel
theorem dX7_near_14 : decode cX7_near 14 = .ok (.if_icmp .le 6, 3) := by decide +kernel
theorem dX7_near_17 : decode cX7_near 17 = .ok (.ldc 59, 2) := by decide +kernel
theorem dX7_near_19 : decode cX7_near 19 = .ok (.ireturn, 1) := by decide +kernel
theorem dX7_near_20 : decode cX7_near 20 = .ok (.aload_n 0, 1) := by decide +kernel
theorem dX7_near_21 : decode cX7_near 21 = .ok (.getfield 25, 3) := by decide +kernel
theorem dX7_near_24 : decode cX7_near 24 = .ok (.iload_n 1, 1) := by decide +kernel
theorem dX7_near_25 : decode cX7_near 25 = .ok (.invokevirtual 267, 3) := by decide +kernel
theorem dX7_near_28 : decode cX7_near 28 = .ok (.istore_n 3, 1) := by decide +kernel
theorem dX7_near_29 : decode cX7_near 29 = .ok (.iload_n 2, 1) := by decide +kernel
theorem dX7_near_30 : decode cX7_near 30 = .ok (.ifCond .eq 9, 3) := by decide +kernel
theorem dX7_near_33 : decode cX7_near 33 = .ok (.iload_n 3, 1) := by decide +kernel
theorem dX7_near_34 : decode cX7_near 34 = .ok (.ldc 175, 2) := by decide +kernel
theorem dX7_near_36 : decode cX7_near 36 = .ok (.if_icmp .ne 7, 3) := by decide +kernel
theorem dX7_near_39 : decode cX7_near 39 = .ok (.iload_n 3, 1) := by decide +kernel
theorem dX7_near_40 : decode cX7_near 40 = .ok (.goto 12, 3) := by decide +kernel
theorem dX7_near_43 : decode cX7_near 43 = .ok (.aload_n 0, 1) := by decide +kernel
theorem dX7_near_44 : decode cX7_near 44 = .ok (.getfield 25, 3) := by decide +kernel
theorem dX7_near_47 : decode cX7_near 47 = .ok (.iload_n 1, 1) := by decide +kernel
theorem dX7_near_48 : decode cX7_near 48 = .ok (.iload_n 3, 1) := by decide +kernel
theorem dX7_near_49 : decode cX7_near 49 = .ok (.invokevirtual 203, 3) := by decide +kernel
theorem dX7_near_52 : decode cX7_near 52 = .ok (.ireturn, 1) := by decide +kernel
set_option maxRecDepth 20000 in
theorem ggX7_rules_X7_noGate : GoodIn wsX7_rules wsX7_noGate := goodIn_r _ [8, 9, 10, 57, 58, 59, 60, 61, 62, 63, 64, 65, 66, 67, 68, 69, 70, 71, 72, 73] (by decide +kernel) (by decide +kernel)
set_option maxRecDepth 20000 in
theorem gX7_rules_X7_noGate : GoodIn wsX7_rules (wsV RX7 133 RX7 yX7_noGate wsX7_noGate) := goodIn_app (goodIn_of _ (by decide +kernel)) ggX7_rules_X7_noGate
set_option maxRecDepth 20000 in
theorem ggX7_rules_X7_isRow : GoodIn wsX7_rules wsX7_isRow := goodIn_r _ [14] (by decide +kernel) (by decide +kernel)
set_option maxRecDepth 20000 in
theorem gX7_rules_X7_isRow : GoodIn wsX7_rules (wsV RX7 55 RX7 yX7_isRow wsX7_isRow) := goodIn_app (goodIn_of _ (by decide +kernel)) ggX7_rules_X7_isRow
set_option maxRecDepth 20000 in
theorem ggX7_rules_X5_findingOf : GoodIn wsX7_rules wsX5_findingOf := goodIn_r _ [19, 20, 21, 22, 23, 18, 24, 25, 74, 75, 76] (by decide +kernel) (by decide +kernel)
set_option maxRecDepth 20000 in
theorem gX7_rules_X5_findingOf : GoodIn wsX7_rules (wsV RX7 71 RX5 yX5_findingOf wsX5_findingOf) := goodIn_app (goodIn_of _ (by decide +kernel)) ggX7_rules_X5_findingOf
set_option maxRecDepth 20000 in
theorem ggX7_rules_X7_found : GoodIn wsX7_rules wsX7_found := goodIn_r _ [29, 30, 31, 57, 58, 59, 60, 61, 62, 63, 64, 65] (by decide +kernel) (by decide +kernel)
set_option maxRecDepth 20000 in
theorem gX7_rules_X7_found : GoodIn wsX7_rules (wsV RX7 60 RX7 yX7_found wsX7_found) := goodIn_app (goodIn_of _ (by decide +kernel)) ggX7_rules_X7_found
set_option maxRecDepth 20000 in
theorem ggX7_rules_X7_rulesThatTell : GoodIn wsX7_rules wsX7_rulesThatTell := goodIn_r _ [35, 9, 36, 37, 38, 39, 40, 41, 42, 43, 44, 45, 46, 47, 48, 7, 49, 50, 51, 52, 57, 58, 59, 60, 61, 62, 63, 64, 65, 66, 67, 68, 69, 70, 71, 72, 73, 77, 78, 79, 80, 81, 82, 83, 84, 74, 75, 76] (by decide +kernel) (by decide +kernel)
set_option maxRecDepth 20000 in
theorem gX7_rules_X7_rulesThatTell : GoodIn wsX7_rules (wsV RX7 270 RX7 yX7_rulesThatTell wsX7_rulesThatTell) := goodIn_app (goodIn_of _ (by decide +kernel)) ggX7_rules_X7_rulesThatTell
set_option maxRecDepth 20000 in
theorem ggX7_rules_X7_unfound : GoodIn wsX7_rules wsX7_unfound := goodIn_r _ [56, 30, 57, 58, 59, 60, 61, 62, 63, 64, 65] (by decide +kernel) (by decide +kernel)
set_option maxRecDepth 20000 in
theorem gX7_rules_X7_unfound : GoodIn wsX7_rules (wsV RX7 68 RX7 yX7_unfound wsX7_unfound) := goodIn_app (goodIn_of _ (by decide +kernel)) ggX7_rules_X7_unfound
theorem dX7_rules_0 : decode cX7_rules 0 = .ok (.aload_n 0, 1) := by decide +kernel
theorem dX7_rules_1 : decode cX7_rules 1 = .ok (.invokevirtual 133, 3) := by decide +kernel
theorem dX7_rules_4 : decode cX7_rules 4 = .ok (.ifCond .eq 6, 3) := by decide +kernel
theorem dX7_rules_7 : decode cX7_rules 7 = .ok (.ldc 136, 2) := by decide +kernel
theorem dX7_rules_9 : decode cX7_rules 9 = .ok (.ireturn, 1) := by decide +kernel
theorem dX7_rules_10 : decode cX7_rules 10 = .ok (.aload_n 0, 1) := by decide +kernel
theorem dX7_rules_11 : decode cX7_rules 11 = .ok (.iload_n 1, 1) := by decide +kernel
theorem dX7_rules_12 : decode cX7_rules 12 = .ok (.invokevirtual 55, 3) := by decide +kernel
theorem dX7_rules_15 : decode cX7_rules 15 = .ok (.ifCond .eq 25, 3) := by decide +kernel
theorem dX7_rules_18 : decode cX7_rules 18 = .ok (.iload_n 3, 1) := by decide +kernel
theorem dX7_rules_19 : decode cX7_rules 19 = .ok (.iconst 1, 1) := by decide +kernel
theorem dX7_rules_20 : decode cX7_rules 20 = .ok (.if_icmp .lt 20, 3) := by decide +kernel
theorem dX7_rules_23 : decode cX7_rules 23 = .ok (.iload_n 3, 1) := by decide +kernel
theorem dX7_rules_24 : decode cX7_rules 24 = .ok (.bipush 16, 2) := by decide +kernel
theorem dX7_rules_26 : decode cX7_rules 26 = .ok (.if_icmp .gt 14, 3) := by decide +kernel
theorem dX7_rules_29 : decode cX7_rules 29 = .ok (.iload 4, 2) := by decide +kernel
theorem dX7_rules_31 : decode cX7_rules 31 = .ok (.ifCond .lt 9, 3) := by decide +kernel
theorem dX7_rules_34 : decode cX7_rules 34 = .ok (.iload 4, 2) := by decide +kernel
theorem dX7_rules_36 : decode cX7_rules 36 = .ok (.iconst 2, 1) := by decide +kernel
theorem dX7_rules_37 : decode cX7_rules 37 = .ok (.if_icmp .le 6, 3) := by decide +kernel
theorem dX7_rules_40 : decode cX7_rules 40 = .ok (.ldc 59, 2) := by decide +kernel
theorem dX7_rules_42 : decode cX7_rules 42 = .ok (.ireturn, 1) := by decide +kernel
theorem dX7_rules_43 : decode cX7_rules 43 = .ok (.aload_n 0, 1) := by decide +kernel
theorem dX7_rules_44 : decode cX7_rules 44 = .ok (.getfield 11, 3) := by decide +kernel
theorem dX7_rules_47 : decode cX7_rules 47 = .ok (.iload_n 1, 1) := by decide +kernel
theorem dX7_rules_48 : decode cX7_rules 48 = .ok (.aaload, 1) := by decide +kernel
theorem dX7_rules_49 : decode cX7_rules 49 = .ok (.iload_n 2, 1) := by decide +kernel
theorem dX7_rules_50 : decode cX7_rules 50 = .ok (.iload_n 3, 1) := by decide +kernel
theorem dX7_rules_51 : decode cX7_rules 51 = .ok (.invokevirtual 71, 3) := by decide +kernel
theorem dX7_rules_54 : decode cX7_rules 54 = .ok (.istore 5, 2) := by decide +kernel
theorem dX7_rules_56 : decode cX7_rules 56 = .ok (.iload 5, 2) := by decide +kernel
theorem dX7_rules_58 : decode cX7_rules 58 = .ok (.ifCond .eq 12, 3) := by decide +kernel
theorem dX7_rules_61 : decode cX7_rules 61 = .ok (.aload_n 0, 1) := by decide +kernel
theorem dX7_rules_62 : decode cX7_rules 62 = .ok (.iload 5, 2) := by decide +kernel
theorem dX7_rules_64 : decode cX7_rules 64 = .ok (.invokevirtual 60, 3) := by decide +kernel
theorem dX7_rules_67 : decode cX7_rules 67 = .ok (.goto 21, 3) := by decide +kernel
theorem dX7_rules_70 : decode cX7_rules 70 = .ok (.aload_n 0, 1) := by decide +kernel
theorem dX7_rules_71 : decode cX7_rules 71 = .ok (.aload_n 0, 1) := by decide +kernel
theorem dX7_rules_72 : decode cX7_rules 72 = .ok (.aload_n 0, 1) := by decide +kernel
theorem dX7_rules_73 : decode cX7_rules 73 = .ok (.getfield 11, 3) := by decide +kernel
theorem dX7_rules_76 : decode cX7_rules 76 = .ok (.iload_n 1, 1) := by decide +kernel
theorem dX7_rules_77 : decode cX7_rules 77 = .ok (.aaload, 1) := by decide +kernel
theorem dX7_rules_78 : decode cX7_rules 78 = .ok (.iload_n 2, 1) := by decide +kernel
theorem dX7_rules_79 : decode cX7_rules 79 = .ok (.iload_n 3, 1) := by decide +kernel
theorem dX7_rules_80 : decode cX7_rules 80 = .ok (.iload 4, 2) := by decide +kernel
theorem dX7_rules_82 : decode cX7_rules 82 = .ok (.invokevirtual 270, 3) := by decide +kernel
theorem dX7_rules_85 : decode cX7_rules 85 = .ok (.invokevirtual 68, 3) := by decide +kernel
theorem dX7_rules_88 : decode cX7_rules 88 = .ok (.ireturn, 1) := by decide +kernel
set_option maxRecDepth 20000 in
theorem ggX7_fits_X7_isGuard : GoodIn wsX7_fits wsX7_isGuard := goodIn_r _ [10, 3, 11, 85, 86, 87, 88, 89, 90, 91, 92, 93, 94, 95, 96, 97, 98, 99, 100, 101] (by decide +kernel) (by decide +kernel)
set_option maxRecDepth 20000 in
theorem gX7_fits_X7_isGuard : GoodIn wsX7_fits (wsV RX7 187 RX7 yX7_isGuard wsX7_isGuard) := goodIn_app (goodIn_of _ (by decide +kernel)) ggX7_fits_X7_isGuard
set_option maxRecDepth 20000 in
theorem ggX7_fits_X7_isRow : GoodIn wsX7_fits wsX7_isRow := goodIn_r _ [15] (by decide +kernel) (by decide +kernel)
set_option maxRecDepth 20000 in
theorem gX7_fits_X7_isRow : GoodIn wsX7_fits (wsV RX7 55 RX7 yX7_isRow wsX7_isRow) := goodIn_app (goodIn_of _ (by decide +kernel)) ggX7_fits_X7_isRow
set_option maxRecDepth 20000 in
theorem ggX7_fits_X5_findingOf : GoodIn wsX7_fits wsX5_findingOf := goodIn_r _ [20, 21, 22, 23, 24, 19, 25, 26, 102, 103, 104] (by decide +kernel) (by decide +kernel)
set_option maxRecDepth 20000 in
theorem gX7_fits_X5_findingOf : GoodIn wsX7_fits (wsV RX7 71 RX5 yX5_findingOf wsX5_findingOf) := goodIn_app (goodIn_of _ (by decide +kernel)) ggX7_fits_X5_findingOf
set_option maxRecDepth 20000 in
theorem ggX7_fits_X7_found : GoodIn wsX7_fits wsX7_found := goodIn_r _ [30, 31, 32, 85, 86, 87, 88, 89, 90, 91, 92, 93] (by decide +kernel) (by decide +kernel)
set_option maxRecDepth 20000 in
theorem gX7_fits_X7_found : GoodIn wsX7_fits (wsV RX7 60 RX7 yX7_found wsX7_found) := goodIn_app (goodIn_of _ (by decide +kernel)) ggX7_fits_X7_found
set_option maxRecDepth 20000 in
theorem ggX7_fits_X7_kindsThatFit : GoodIn wsX7_fits wsX7_kindsThatFit := goodIn_r _ [36, 3, 37, 38, 39, 40, 41, 42, 43, 44, 45, 46, 47, 48, 49, 50, 51, 52, 9, 53, 54, 55, 56, 57, 4, 58, 59, 60, 61, 62, 63, 64, 65, 66, 67, 68, 69, 70, 71, 72, 73, 74, 75, 76, 85, 86, 87, 88, 89, 90, 91, 92, 93, 94, 95, 96, 97, 98, 99, 100, 101, 105, 106, 107, 108, 109, 110, 111, 112, 102, 103, 104] (by decide +kernel) (by decide +kernel)
set_option maxRecDepth 20000 in
theorem gX7_fits_X7_kindsThatFit : GoodIn wsX7_fits (wsV RX7 274 RX7 yX7_kindsThatFit wsX7_kindsThatFit) := goodIn_app (goodIn_of _ (by decide +kernel)) ggX7_fits_X7_kindsThatFit
set_option maxRecDepth 20000 in
theorem ggX7_fits_X7_secretsThatFit : GoodIn wsX7_fits wsX7_secretsThatFit := goodIn_r _ [80, 3, 4, 54, 55, 56, 9, 57, 58, 59, 60, 61, 62, 63, 40, 64, 65, 66, 67, 68, 69, 70, 71, 72, 73, 74, 75, 76, 85, 86, 87, 88, 89, 90, 91, 92, 93, 94, 95, 96, 97, 98, 99, 100, 101, 105, 106, 107, 108, 109, 110, 111, 112, 102, 103, 104] (by decide +kernel) (by decide +kernel)
set_option maxRecDepth 20000 in
theorem gX7_fits_X7_secretsThatFit : GoodIn wsX7_fits (wsV RX7 281 RX7 yX7_secretsThatFit wsX7_secretsThatFit) := goodIn_app (goodIn_of _ (by decide +kernel)) ggX7_fits_X7_secretsThatFit
set_option maxRecDepth 20000 in
theorem ggX7_fits_X7_unfound : GoodIn wsX7_fits wsX7_unfound := goodIn_r _ [84, 31, 85, 86, 87, 88, 89, 90, 91, 92, 93] (by decide +kernel) (by decide +kernel)
set_option maxRecDepth 20000 in
theorem gX7_fits_X7_unfound : GoodIn wsX7_fits (wsV RX7 68 RX7 yX7_unfound wsX7_unfound) := goodIn_app (goodIn_of _ (by decide +kernel)) ggX7_fits_X7_unfound
theorem dX7_fits_0 : decode cX7_fits 0 = .ok (.aload_n 0, 1) := by decide +kernel
theorem dX7_fits_1 : decode cX7_fits 1 = .ok (.iload_n 1, 1) := by decide +kernel
theorem dX7_fits_2 : decode cX7_fits 2 = .ok (.invokevirtual 187, 3) := by decide +kernel
theorem dX7_fits_5 : decode cX7_fits 5 = .ok (.ifCond .eq 22, 3) := by decide +kernel
theorem dX7_fits_8 : decode cX7_fits 8 = .ok (.aload_n 0, 1) := by decide +kernel
theorem dX7_fits_9 : decode cX7_fits 9 = .ok (.iload_n 2, 1) := by decide +kernel
theorem dX7_fits_10 : decode cX7_fits 10 = .ok (.invokevirtual 55, 3) := by decide +kernel
theorem dX7_fits_13 : decode cX7_fits 13 = .ok (.ifCond .eq 14, 3) := by decide +kernel
theorem dX7_fits_16 : decode cX7_fits 16 = .ok (.iload 4, 2) := by decide +kernel
theorem dX7_fits_18 : decode cX7_fits 18 = .ok (.ifCond .lt 9, 3) := by decide +kernel
theorem dX7_fits_21 : decode cX7_fits 21 = .ok (.iload 4, 2) := by decide +kernel
theorem dX7_fits_23 : decode cX7_fits 23 = .ok (.iconst 1, 1) := by decide +kernel
theorem dX7_fits_24 : decode cX7_fits 24 = .ok (.if_icmp .le 6, 3) := by decide +kernel
theorem dX7_fits_27 : decode cX7_fits 27 = .ok (.ldc 59, 2) := by decide +kernel
theorem dX7_fits_29 : decode cX7_fits 29 = .ok (.ireturn, 1) := by decide +kernel
theorem dX7_fits_30 : decode cX7_fits 30 = .ok (.aload_n 0, 1) := by decide +kernel
theorem dX7_fits_31 : decode cX7_fits 31 = .ok (.getfield 11, 3) := by decide +kernel
theorem dX7_fits_34 : decode cX7_fits 34 = .ok (.iload_n 2, 1) := by decide +kernel
theorem dX7_fits_35 : decode cX7_fits 35 = .ok (.aaload, 1) := by decide +kernel
theorem dX7_fits_36 : decode cX7_fits 36 = .ok (.iload_n 3, 1) := by decide +kernel
theorem dX7_fits_37 : decode cX7_fits 37 = .ok (.aload_n 0, 1) := by decide +kernel
theorem dX7_fits_38 : decode cX7_fits 38 = .ok (.getfield 25, 3) := by decide +kernel
theorem dX7_fits_41 : decode cX7_fits 41 = .ok (.getfield 130, 3) := by decide +kernel
theorem dX7_fits_44 : decode cX7_fits 44 = .ok (.invokevirtual 71, 3) := by decide +kernel
theorem dX7_fits_47 : decode cX7_fits 47 = .ok (.istore 5, 2) := by decide +kernel
theorem dX7_fits_49 : decode cX7_fits 49 = .ok (.iload 5, 2) := by decide +kernel
theorem dX7_fits_51 : decode cX7_fits 51 = .ok (.ifCond .eq 10, 3) := by decide +kernel
theorem dX7_fits_54 : decode cX7_fits 54 = .ok (.aload_n 0, 1) := by decide +kernel
theorem dX7_fits_55 : decode cX7_fits 55 = .ok (.iload 5, 2) := by decide +kernel
theorem dX7_fits_57 : decode cX7_fits 57 = .ok (.invokevirtual 60, 3) := by decide +kernel
theorem dX7_fits_60 : decode cX7_fits 60 = .ok (.ireturn, 1) := by decide +kernel
theorem dX7_fits_61 : decode cX7_fits 61 = .ok (.aload_n 0, 1) := by decide +kernel
theorem dX7_fits_62 : decode cX7_fits 62 = .ok (.iload 4, 2) := by decide +kernel
theorem dX7_fits_64 : decode cX7_fits 64 = .ok (.ifCond .ne 17, 3) := by decide +kernel
theorem dX7_fits_67 : decode cX7_fits 67 = .ok (.aload_n 0, 1) := by decide +kernel
theorem dX7_fits_68 : decode cX7_fits 68 = .ok (.aload_n 0, 1) := by decide +kernel
theorem dX7_fits_69 : decode cX7_fits 69 = .ok (.getfield 11, 3) := by decide +kernel
theorem dX7_fits_72 : decode cX7_fits 72 = .ok (.iload_n 2, 1) := by decide +kernel
theorem dX7_fits_73 : decode cX7_fits 73 = .ok (.aaload, 1) := by decide +kernel
theorem dX7_fits_74 : decode cX7_fits 74 = .ok (.iload_n 3, 1) := by decide +kernel
theorem dX7_fits_75 : decode cX7_fits 75 = .ok (.invokevirtual 274, 3) := by decide +kernel
theorem dX7_fits_78 : decode cX7_fits 78 = .ok (.goto 23, 3) := by decide +kernel
theorem dX7_fits_81 : decode cX7_fits 81 = .ok (.aload_n 0, 1) := by decide +kernel
theorem dX7_fits_82 : decode cX7_fits 82 = .ok (.aload_n 0, 1) := by decide +kernel
theorem dX7_fits_83 : decode cX7_fits 83 = .ok (.getfield 25, 3) := by decide +kernel
theorem dX7_fits_86 : decode cX7_fits 86 = .ok (.getfield 278, 3) := by decide +kernel
theorem dX7_fits_89 : decode cX7_fits 89 = .ok (.iload_n 1, 1) := by decide +kernel
theorem dX7_fits_90 : decode cX7_fits 90 = .ok (.iaload, 1) := by decide +kernel
theorem dX7_fits_91 : decode cX7_fits 91 = .ok (.aload_n 0, 1) := by decide +kernel
theorem dX7_fits_92 : decode cX7_fits 92 = .ok (.getfield 11, 3) := by decide +kernel
theorem dX7_fits_95 : decode cX7_fits 95 = .ok (.iload_n 2, 1) := by decide +kernel
theorem dX7_fits_96 : decode cX7_fits 96 = .ok (.aaload, 1) := by decide +kernel
theorem dX7_fits_97 : decode cX7_fits 97 = .ok (.iload_n 3, 1) := by decide +kernel
theorem dX7_fits_98 : decode cX7_fits 98 = .ok (.invokevirtual 281, 3) := by decide +kernel
theorem dX7_fits_101 : decode cX7_fits 101 = .ok (.invokevirtual 68, 3) := by decide +kernel
theorem dX7_fits_104 : decode cX7_fits 104 = .ok (.ireturn, 1) := by decide +kernel
set_option maxRecDepth 20000 in
theorem ggX7_sure_X7_isWord : GoodIn wsX7_sure wsX7_isWord := goodIn_r _ [7, 2, 8, 80, 81, 82, 83, 84, 85, 86, 87, 88, 89, 90, 91, 92, 93, 94, 95, 96] (by decide +kernel) (by decide +kernel)
set_option maxRecDepth 20000 in
theorem gX7_sure_X7_isWord : GoodIn wsX7_sure (wsV RX7 156 RX7 yX7_isWord wsX7_isWord) := goodIn_app (goodIn_of _ (by decide +kernel)) ggX7_sure_X7_isWord
set_option maxRecDepth 20000 in
theorem ggX7_sure_X7_isHour : GoodIn wsX7_sure wsX7_isHour := goodIn_r _ [12] (by decide +kernel) (by decide +kernel)
set_option maxRecDepth 20000 in
theorem gX7_sure_X7_isHour : GoodIn wsX7_sure (wsV RX7 159 RX7 yX7_isHour wsX7_isHour) := goodIn_app (goodIn_of _ (by decide +kernel)) ggX7_sure_X7_isHour
set_option maxRecDepth 20000 in
theorem ggX7_sure_X3_agreeing : GoodIn wsX7_sure wsX3_agreeing := goodIn_r _ [16, 17, 18, 19, 15, 20, 21, 22, 23, 24, 25, 26, 27, 28, 29, 30, 31, 32, 33, 34, 35, 36, 37, 38, 39, 40, 41, 42, 43, 6, 44, 89, 90, 91, 92, 93, 94, 95, 96, 97, 98, 99, 100, 101, 102, 103, 104] (by decide +kernel) (by decide +kernel)
set_option maxRecDepth 20000 in
theorem gX7_sure_X3_agreeing : GoodIn wsX7_sure (va_wsS RX7 242 yX3_agreeing wsX3_agreeing) := goodIn_app (goodIn_of _ (by decide +kernel)) ggX7_sure_X3_agreeing
set_option maxRecDepth 20000 in
theorem ggX7_sure_J6_bitCount_0f7a4 : GoodIn wsX7_sure wsJ6_bitCount_0f7a4 := goodIn_r _ [48, 49, 50, 51] (by decide +kernel) (by decide +kernel)
set_option maxRecDepth 20000 in
theorem gX7_sure_J6_bitCount_0f7a4 : GoodIn wsX7_sure (va_wsS RX7 285 yJ6_bitCount_0f7a4 wsJ6_bitCount_0f7a4) := goodIn_app (goodIn_of _ (by decide +kernel)) ggX7_sure_J6_bitCount_0f7a4
set_option maxRecDepth 20000 in
theorem ggX7_sure_X3_secretsCatching : GoodIn wsX7_sure wsX3_secretsCatching := goodIn_r _ [54, 17, 21, 27, 55, 56, 57, 32, 58, 59, 60, 61, 62, 63, 64, 65, 6, 66, 67, 68, 69, 70, 71, 72, 73, 30, 31, 33, 34, 35, 36, 37, 38, 39, 40, 41, 42, 43, 44, 89, 90, 91, 92, 93, 94, 95, 96, 97, 98, 99, 100, 101, 102, 103, 104] (by decide +kernel) (by decide +kernel)
set_option maxRecDepth 20000 in
theorem gX7_sure_X3_secretsCatching : GoodIn wsX7_sure (va_wsS RX7 290 yX3_secretsCatching wsX3_secretsCatching) := goodIn_app (goodIn_of _ (by decide +kernel)) ggX7_sure_X3_secretsCatching
set_option maxRecDepth 20000 in
theorem ggX7_sure_X7_commonDivisor : GoodIn wsX7_sure wsX7_commonDivisor := goodIn_r _ [76] (by decide +kernel) (by decide +kernel)
set_option maxRecDepth 20000 in
theorem gX7_sure_X7_commonDivisor : GoodIn wsX7_sure (va_wsS RX7 293 yX7_commonDivisor wsX7_commonDivisor) := goodIn_app (goodIn_of _ (by decide +kernel)) ggX7_sure_X7_commonDivisor
set_option maxRecDepth 20000 in
theorem ggX7_sure_X7_lowest : GoodIn wsX7_sure wsX7_lowest := goodIn_r _ [79] (by decide +kernel) (by decide +kernel)
set_option maxRecDepth 20000 in
theorem gX7_sure_X7_lowest : GoodIn wsX7_sure (va_wsS RX7 296 yX7_lowest wsX7_lowest) := goodIn_app (goodIn_of _ (by decide +kernel)) ggX7_sure_X7_lowest
theorem dX7_sure_0 : decode cX7_sure 0 = .ok (.aload_n 0, 1) := by decide +kernel
theorem dX7_sure_1 : decode cX7_sure 1 = .ok (.iload_n 1, 1) := by decide +kernel
theorem dX7_sure_2 : decode cX7_sure 2 = .ok (.invokevirtual 156, 3) := by decide +kernel
theorem dX7_sure_5 : decode cX7_sure 5 = .ok (.ifCond .eq 32, 3) := by decide +kernel
theorem dX7_sure_8 : decode cX7_sure 8 = .ok (.aload_n 0, 1) := by decide +kernel
theorem dX7_sure_9 : decode cX7_sure 9 = .ok (.iload_n 2, 1) := by decide +kernel
theorem dX7_sure_10 : decode cX7_sure 10 = .ok (.invokevirtual 159, 3) := by decide +kernel
theorem dX7_sure_13 : decode cX7_sure 13 = .ok (.ifCond .eq 24, 3) := by decide +kernel
theorem dX7_sure_16 : decode cX7_sure 16 = .ok (.iload_n 3, 1) := by decide +kernel
theorem dX7_sure_17 : decode cX7_sure 17 = .ok (.ifCond .lt 20, 3) := by decide +kernel
theorem dX7_sure_20 : decode cX7_sure 20 = .ok (.iload_n 3, 1) := by decide +kernel
theorem dX7_sure_21 : decode cX7_sure 21 = .ok (.bipush 10, 2) := by decide +kernel
theorem dX7_sure_23 : decode cX7_sure 23 = .ok (.if_icmp .gt 14, 3) := by decide +kernel
theorem dX7_sure_26 : decode cX7_sure 26 = .ok (.iload 4, 2) := by decide +kernel
theorem dX7_sure_28 : decode cX7_sure 28 = .ok (.ifCond .lt 9, 3) := by decide +kernel
theorem dX7_sure_31 : decode cX7_sure 31 = .ok (.iload 4, 2) := by decide +kernel
theorem dX7_sure_33 : decode cX7_sure 33 = .ok (.iconst 1, 1) := by decide +kernel
theorem dX7_sure_34 : decode cX7_sure 34 = .ok (.if_icmp .le 6, 3) := by decide +kernel
theorem dX7_sure_37 : decode cX7_sure 37 = .ok (.ldc 59, 2) := by decide +kernel
theorem dX7_sure_39 : decode cX7_sure 39 = .ok (.ireturn, 1) := by decide +kernel
theorem dX7_sure_40 : decode cX7_sure 40 = .ok (.aload_n 0, 1) := by decide +kernel
theorem dX7_sure_41 : decode cX7_sure 41 = .ok (.getfield 25, 3) := by decide +kernel
theorem dX7_sure_44 : decode cX7_sure 44 = .ok (.invokestatic 242, 3) := by decide +kernel
theorem dX7_sure_47 : decode cX7_sure 47 = .ok (.istore 5, 2) := by decide +kernel
theorem dX7_sure_49 : decode cX7_sure 49 = .ok (.iload 5, 2) := by decide +kernel
theorem dX7_sure_51 : decode cX7_sure 51 = .ok (.invokestatic 285, 3) := by decide +kernel
theorem dX7_sure_54 : decode cX7_sure 54 = .ok (.istore 6, 2) := by decide +kernel
theorem dX7_sure_56 : decode cX7_sure 56 = .ok (.iload 5, 2) := by decide +kernel
theorem dX7_sure_58 : decode cX7_sure 58 = .ok (.aload_n 0, 1) := by decide +kernel
theorem dX7_sure_59 : decode cX7_sure 59 = .ok (.getfield 25, 3) := by decide +kernel
theorem dX7_sure_62 : decode cX7_sure 62 = .ok (.iload_n 1, 1) := by decide +kernel
theorem dX7_sure_63 : decode cX7_sure 63 = .ok (.iload_n 2, 1) := by decide +kernel
theorem dX7_sure_64 : decode cX7_sure 64 = .ok (.invokestatic 290, 3) := by decide +kernel
theorem dX7_sure_67 : decode cX7_sure 67 = .ok (.iand, 1) := by decide +kernel
theorem dX7_sure_68 : decode cX7_sure 68 = .ok (.invokestatic 285, 3) := by decide +kernel
theorem dX7_sure_71 : decode cX7_sure 71 = .ok (.istore 7, 2) := by decide +kernel
theorem dX7_sure_73 : decode cX7_sure 73 = .ok (.iload 6, 2) := by decide +kernel
theorem dX7_sure_75 : decode cX7_sure 75 = .ok (.iload 7, 2) := by decide +kernel
theorem dX7_sure_77 : decode cX7_sure 77 = .ok (.isub, 1) := by decide +kernel
theorem dX7_sure_78 : decode cX7_sure 78 = .ok (.bipush 10, 2) := by decide +kernel
theorem dX7_sure_80 : decode cX7_sure 80 = .ok (.imul, 1) := by decide +kernel
theorem dX7_sure_81 : decode cX7_sure 81 = .ok (.iload 7, 2) := by decide +kernel
theorem dX7_sure_83 : decode cX7_sure 83 = .ok (.iload_n 3, 1) := by decide +kernel
theorem dX7_sure_84 : decode cX7_sure 84 = .ok (.imul, 1) := by decide +kernel
theorem dX7_sure_85 : decode cX7_sure 85 = .ok (.iadd, 1) := by decide +kernel
theorem dX7_sure_86 : decode cX7_sure 86 = .ok (.istore 8, 2) := by decide +kernel
theorem dX7_sure_88 : decode cX7_sure 88 = .ok (.iload 6, 2) := by decide +kernel
theorem dX7_sure_90 : decode cX7_sure 90 = .ok (.ifCond .ne 7, 3) := by decide +kernel
theorem dX7_sure_93 : decode cX7_sure 93 = .ok (.iconst 1, 1) := by decide +kernel
theorem dX7_sure_94 : decode cX7_sure 94 = .ok (.goto 8, 3) := by decide +kernel
theorem dX7_sure_97 : decode cX7_sure 97 = .ok (.iload 6, 2) := by decide +kernel
theorem dX7_sure_99 : decode cX7_sure 99 = .ok (.bipush 10, 2) := by decide +kernel
theorem dX7_sure_101 : decode cX7_sure 101 = .ok (.imul, 1) := by decide +kernel
theorem dX7_sure_102 : decode cX7_sure 102 = .ok (.istore 9, 2) := by decide +kernel
theorem dX7_sure_104 : decode cX7_sure 104 = .ok (.iload 4, 2) := by decide +kernel
theorem dX7_sure_106 : decode cX7_sure 106 = .ok (.ifCond .ne 8, 3) := by decide +kernel
theorem dX7_sure_109 : decode cX7_sure 109 = .ok (.iload 8, 2) := by decide +kernel
theorem dX7_sure_111 : decode cX7_sure 111 = .ok (.goto 5, 3) := by decide +kernel
theorem dX7_sure_114 : decode cX7_sure 114 = .ok (.iload 9, 2) := by decide +kernel
theorem dX7_sure_116 : decode cX7_sure 116 = .ok (.iload 8, 2) := by decide +kernel
theorem dX7_sure_118 : decode cX7_sure 118 = .ok (.iload 9, 2) := by decide +kernel
theorem dX7_sure_120 : decode cX7_sure 120 = .ok (.invokestatic 293, 3) := by decide +kernel
theorem dX7_sure_123 : decode cX7_sure 123 = .ok (.invokestatic 296, 3) := by decide +kernel
theorem dX7_sure_126 : decode cX7_sure 126 = .ok (.ireturn, 1) := by decide +kernel
set_option maxRecDepth 20000 in
theorem ggX7_drawn_X7_noGate : GoodIn wsX7_drawn wsX7_noGate := goodIn_r _ [12, 6, 7, 63, 64, 65, 66, 67, 68, 69, 70, 71, 72, 73, 74, 75, 76, 77, 78, 79] (by decide +kernel) (by decide +kernel)
set_option maxRecDepth 20000 in
theorem gX7_drawn_X7_noGate : GoodIn wsX7_drawn (wsV RX7 133 RX7 yX7_noGate wsX7_noGate) := goodIn_app (goodIn_of _ (by decide +kernel)) ggX7_drawn_X7_noGate
set_option maxRecDepth 20000 in
theorem ggX7_drawn_X7_rest : GoodIn wsX7_drawn wsX7_rest := goodIn_r _ [15] (by decide +kernel) (by decide +kernel)
set_option maxRecDepth 20000 in
theorem gX7_drawn_X7_rest : GoodIn wsX7_drawn (va_wsS RX7 304 yX7_rest wsX7_rest) := goodIn_app (goodIn_of _ (by decide +kernel)) ggX7_drawn_X7_rest
set_option maxRecDepth 20000 in
theorem ggX7_drawn_X2_catches : GoodIn wsX7_drawn wsX2_catches := goodIn_r _ [20, 21, 22, 23, 24, 25, 19, 26, 27, 28, 29, 30, 31, 32, 33, 34, 14, 11, 15, 35, 36, 37, 38, 39, 40, 41, 42, 43, 44, 45, 46, 47, 48, 49, 50, 51, 52, 53, 54, 55, 56, 57, 58, 59, 60, 61, 62, 72, 73, 74, 75, 76, 77, 78, 79, 80, 81, 82, 83, 84, 85, 86, 87] (by decide +kernel) (by decide +kernel)
set_option maxRecDepth 20000 in
theorem gX7_drawn_X2_catches : GoodIn wsX7_drawn (wsV RX7 168 RX2 yX2_catches wsX2_catches) := goodIn_app (goodIn_of _ (by decide +kernel)) ggX7_drawn_X2_catches
theorem dX7_drawn_0 : decode cX7_drawn 0 = .ok (.aload_n 0, 1) := by decide +kernel
theorem dX7_drawn_1 : decode cX7_drawn 1 = .ok (.invokevirtual 133, 3) := by decide +kernel
theorem dX7_drawn_4 : decode cX7_drawn 4 = .ok (.ifCond .eq 6, 3) := by decide +kernel
theorem dX7_drawn_7 : decode cX7_drawn 7 = .ok (.ldc 136, 2) := by decide +kernel
theorem dX7_drawn_9 : decode cX7_drawn 9 = .ok (.ireturn, 1) := by decide +kernel
theorem dX7_drawn_10 : decode cX7_drawn 10 = .ok (.iload_n 1, 1) := by decide +kernel
theorem dX7_drawn_11 : decode cX7_drawn 11 = .ok (.ifCond .lt 30, 3) := by decide +kernel
theorem dX7_drawn_14 : decode cX7_drawn 14 = .ok (.iload_n 1, 1) := by decide +kernel
theorem dX7_drawn_15 : decode cX7_drawn 15 = .ok (.bipush 60, 2) := by decide +kernel
theorem dX7_drawn_17 : decode cX7_drawn 17 = .ok (.if_icmp .gt 24, 3) := by decide +kernel
theorem dX7_drawn_20 : decode cX7_drawn 20 = .ok (.iload_n 2, 1) := by decide +kernel
theorem dX7_drawn_21 : decode cX7_drawn 21 = .ok (.iconst 1, 1) := by decide +kernel
theorem dX7_drawn_22 : decode cX7_drawn 22 = .ok (.if_icmp .lt 19, 3) := by decide +kernel
theorem dX7_drawn_25 : decode cX7_drawn 25 = .ok (.iload_n 2, 1) := by decide +kernel
theorem dX7_drawn_26 : decode cX7_drawn 26 = .ok (.ldc_w 299, 3) := by decide +kernel
theorem dX7_drawn_29 : decode cX7_drawn 29 = .ok (.if_icmp .gt 12, 3) := by decide +kernel
theorem dX7_drawn_32 : decode cX7_drawn 32 = .ok (.iload_n 3, 1) := by decide +kernel
theorem dX7_drawn_33 : decode cX7_drawn 33 = .ok (.ifCond .lt 8, 3) := by decide +kernel
theorem dX7_drawn_36 : decode cX7_drawn 36 = .ok (.iload_n 3, 1) := by decide +kernel
theorem dX7_drawn_37 : decode cX7_drawn 37 = .ok (.iconst 1, 1) := by decide +kernel
theorem dX7_drawn_38 : decode cX7_drawn 38 = .ok (.if_icmp .le 6, 3) := by decide +kernel
theorem dX7_drawn_41 : decode cX7_drawn 41 = .ok (.ldc 59, 2) := by decide +kernel
theorem dX7_drawn_43 : decode cX7_drawn 43 = .ok (.ireturn, 1) := by decide +kernel
theorem dX7_drawn_44 : decode cX7_drawn 44 = .ok (.iload_n 2, 1) := by decide +kernel
theorem dX7_drawn_45 : decode cX7_drawn 45 = .ok (.i2l, 1) := by decide +kernel
theorem dX7_drawn_46 : decode cX7_drawn 46 = .ok (.lstore 4, 2) := by decide +kernel
theorem dX7_drawn_48 : decode cX7_drawn 48 = .ok (.iconst 0, 1) := by decide +kernel
theorem dX7_drawn_49 : decode cX7_drawn 49 = .ok (.istore 6, 2) := by decide +kernel
theorem dX7_drawn_51 : decode cX7_drawn 51 = .ok (.iconst 0, 1) := by decide +kernel
theorem dX7_drawn_52 : decode cX7_drawn 52 = .ok (.istore 7, 2) := by decide +kernel
theorem dX7_drawn_54 : decode cX7_drawn 54 = .ok (.iconst 0, 1) := by decide +kernel
theorem dX7_drawn_55 : decode cX7_drawn 55 = .ok (.istore 8, 2) := by decide +kernel
theorem dX7_drawn_57 : decode cX7_drawn 57 = .ok (.iload 8, 2) := by decide +kernel
theorem dX7_drawn_59 : decode cX7_drawn 59 = .ok (.iload_n 1, 1) := by decide +kernel
theorem dX7_drawn_60 : decode cX7_drawn 60 = .ok (.if_icmp .ge 71, 3) := by decide +kernel
theorem dX7_drawn_63 : decode cX7_drawn 63 = .ok (.lload 4, 2) := by decide +kernel
theorem dX7_drawn_65 : decode cX7_drawn 65 = .ok (.ldc2_w 300, 3) := by decide +kernel
theorem dX7_drawn_68 : decode cX7_drawn 68 = .ok (.lmul, 1) := by decide +kernel
theorem dX7_drawn_69 : decode cX7_drawn 69 = .ok (.ldc2_w 302, 3) := by decide +kernel
theorem dX7_drawn_72 : decode cX7_drawn 72 = .ok (.lrem, 1) := by decide +kernel
theorem dX7_drawn_73 : decode cX7_drawn 73 = .ok (.lstore 4, 2) := by decide +kernel
theorem dX7_drawn_75 : decode cX7_drawn 75 = .ok (.lload 4, 2) := by decide +kernel
theorem dX7_drawn_77 : decode cX7_drawn 77 = .ok (.l2i, 1) := by decide +kernel
theorem dX7_drawn_78 : decode cX7_drawn 78 = .ok (.aload_n 0, 1) := by decide +kernel
theorem dX7_drawn_79 : decode cX7_drawn 79 = .ok (.getfield 25, 3) := by decide +kernel
theorem dX7_drawn_82 : decode cX7_drawn 82 = .ok (.getfield 130, 3) := by decide +kernel
theorem dX7_drawn_85 : decode cX7_drawn 85 = .ok (.invokestatic 304, 3) := by decide +kernel
theorem dX7_drawn_88 : decode cX7_drawn 88 = .ok (.istore 9, 2) := by decide +kernel
theorem dX7_drawn_90 : decode cX7_drawn 90 = .ok (.aload_n 0, 1) := by decide +kernel
theorem dX7_drawn_91 : decode cX7_drawn 91 = .ok (.getfield 25, 3) := by decide +kernel
theorem dX7_drawn_94 : decode cX7_drawn 94 = .ok (.iload 9, 2) := by decide +kernel
theorem dX7_drawn_96 : decode cX7_drawn 96 = .ok (.lload 4, 2) := by decide +kernel
theorem dX7_drawn_98 : decode cX7_drawn 98 = .ok (.l2i, 1) := by decide +kernel
theorem dX7_drawn_99 : decode cX7_drawn 99 = .ok (.bipush 6, 2) := by decide +kernel
theorem dX7_drawn_101 : decode cX7_drawn 101 = .ok (.irem, 1) := by decide +kernel
theorem dX7_drawn_102 : decode cX7_drawn 102 = .ok (.iload 8, 2) := by decide +kernel
theorem dX7_drawn_104 : decode cX7_drawn 104 = .ok (.invokevirtual 168, 3) := by decide +kernel
theorem dX7_drawn_107 : decode cX7_drawn 107 = .ok (.ifCond .eq 9, 3) := by decide +kernel
theorem dX7_drawn_110 : decode cX7_drawn 110 = .ok (.iinc 6 1, 3) := by decide +kernel
theorem dX7_drawn_113 : decode cX7_drawn 113 = .ok (.goto 12, 3) := by decide +kernel
theorem dX7_drawn_116 : decode cX7_drawn 116 = .ok (.iload 7, 2) := by decide +kernel
theorem dX7_drawn_118 : decode cX7_drawn 118 = .ok (.iconst 1, 1) := by decide +kernel
theorem dX7_drawn_119 : decode cX7_drawn 119 = .ok (.iload 9, 2) := by decide +kernel
theorem dX7_drawn_121 : decode cX7_drawn 121 = .ok (.ishl, 1) := by decide +kernel
theorem dX7_drawn_122 : decode cX7_drawn 122 = .ok (.ior, 1) := by decide +kernel
theorem dX7_drawn_123 : decode cX7_drawn 123 = .ok (.istore 7, 2) := by decide +kernel
theorem dX7_drawn_125 : decode cX7_drawn 125 = .ok (.iinc 8 1, 3) := by decide +kernel
theorem dX7_drawn_128 : decode cX7_drawn 128 = .ok (.goto (-71), 3) := by decide +kernel
theorem dX7_drawn_131 : decode cX7_drawn 131 = .ok (.iload_n 3, 1) := by decide +kernel
theorem dX7_drawn_132 : decode cX7_drawn 132 = .ok (.ifCond .ne 8, 3) := by decide +kernel
theorem dX7_drawn_135 : decode cX7_drawn 135 = .ok (.iload 6, 2) := by decide +kernel
theorem dX7_drawn_137 : decode cX7_drawn 137 = .ok (.goto 5, 3) := by decide +kernel
theorem dX7_drawn_140 : decode cX7_drawn 140 = .ok (.iload 7, 2) := by decide +kernel
theorem dX7_drawn_142 : decode cX7_drawn 142 = .ok (.ireturn, 1) := by decide +kernel
set_option maxRecDepth 20000 in
theorem ggX7_image_X7_noGate : GoodIn wsX7_image wsX7_noGate := goodIn_r _ [9, 4, 10, 42, 43, 44, 45, 46, 47, 48, 49, 50, 51, 52, 53, 54, 55, 56, 57, 58] (by decide +kernel) (by decide +kernel)
set_option maxRecDepth 20000 in
theorem gX7_image_X7_noGate : GoodIn wsX7_image (wsV RX7 133 RX7 yX7_noGate wsX7_noGate) := goodIn_app (goodIn_of _ (by decide +kernel)) ggX7_image_X7_noGate
set_option maxRecDepth 20000 in
theorem ggX7_image_X2_become : GoodIn wsX7_image wsX2_become := goodIn_r _ [15, 16, 17, 18, 19, 20, 21, 22, 23, 24, 25, 26, 27, 28, 29, 30, 31, 32, 33, 34, 35, 36, 37, 38, 39, 40, 41, 51, 52, 53, 54, 55, 56, 57, 58, 59, 60, 61, 62, 63, 64, 65, 66] (by decide +kernel) (by decide +kernel)
set_option maxRecDepth 20000 in
theorem gX7_image_X2_become : GoodIn wsX7_image (wsV RX7 123 RX2 yX2_become wsX2_become) := goodIn_app (goodIn_of _ (by decide +kernel)) ggX7_image_X2_become
theorem dX7_image_0 : decode cX7_image 0 = .ok (.iload_n 1, 1) := by decide +kernel
theorem dX7_image_1 : decode cX7_image 1 = .ok (.ifCond .lt 8, 3) := by decide +kernel
theorem dX7_image_4 : decode cX7_image 4 = .ok (.iload_n 1, 1) := by decide +kernel
theorem dX7_image_5 : decode cX7_image 5 = .ok (.iconst 2, 1) := by decide +kernel
theorem dX7_image_6 : decode cX7_image 6 = .ok (.if_icmp .lt 6, 3) := by decide +kernel
theorem dX7_image_9 : decode cX7_image 9 = .ok (.ldc 59, 2) := by decide +kernel
theorem dX7_image_11 : decode cX7_image 11 = .ok (.ireturn, 1) := by decide +kernel
theorem dX7_image_12 : decode cX7_image 12 = .ok (.aload_n 0, 1) := by decide +kernel
theorem dX7_image_13 : decode cX7_image 13 = .ok (.invokevirtual 133, 3) := by decide +kernel
theorem dX7_image_16 : decode cX7_image 16 = .ok (.ifCond .eq 6, 3) := by decide +kernel
theorem dX7_image_19 : decode cX7_image 19 = .ok (.ldc 136, 2) := by decide +kernel
theorem dX7_image_21 : decode cX7_image 21 = .ok (.ireturn, 1) := by decide +kernel
theorem dX7_image_22 : decode cX7_image 22 = .ok (.aload_n 0, 1) := by decide +kernel
theorem dX7_image_23 : decode cX7_image 23 = .ok (.getfield 36, 3) := by decide +kernel
theorem dX7_image_26 : decode cX7_image 26 = .ok (.iload_n 1, 1) := by decide +kernel
theorem dX7_image_27 : decode cX7_image 27 = .ok (.aaload, 1) := by decide +kernel
theorem dX7_image_28 : decode cX7_image 28 = .ok (.aload_n 0, 1) := by decide +kernel
theorem dX7_image_29 : decode cX7_image 29 = .ok (.getfield 25, 3) := by decide +kernel
theorem dX7_image_32 : decode cX7_image 32 = .ok (.invokevirtual 123, 3) := by decide +kernel
theorem dX7_image_35 : decode cX7_image 35 = .ok (.iconst 1, 1) := by decide +kernel
theorem dX7_image_36 : decode cX7_image 36 = .ok (.ireturn, 1) := by decide +kernel
set_option maxRecDepth 20000 in
theorem ggX7_restore_X2_become : GoodIn wsX7_restore wsX2_become := goodIn_r _ [11, 12, 13, 14, 15, 16, 17, 18, 19, 20, 21, 22, 23, 24, 25, 26, 27, 28, 29, 30, 31, 32, 33, 34, 35, 36, 37, 53, 54, 55, 56, 57, 58, 59, 60, 61, 62, 63, 64, 65, 66, 67, 68] (by decide +kernel) (by decide +kernel)
set_option maxRecDepth 20000 in
theorem gX7_restore_X2_become : GoodIn wsX7_restore (wsV RX7 123 RX2 yX2_become wsX2_become) := goodIn_app (goodIn_of _ (by decide +kernel)) ggX7_restore_X2_become
set_option maxRecDepth 20000 in
theorem ggX7_restore_X0_forget : GoodIn wsX7_restore wsX0_forget := goodIn_r _ [42, 43, 69, 70, 71] (by decide +kernel) (by decide +kernel)
set_option maxRecDepth 20000 in
theorem gX7_restore_X0_forget : GoodIn wsX7_restore (wsV RX7 127 RX0 yX0_forget wsX0_forget) := goodIn_app (goodIn_of _ (by decide +kernel)) ggX7_restore_X0_forget
theorem dX7_restore_0 : decode cX7_restore 0 = .ok (.iload_n 1, 1) := by decide +kernel
theorem dX7_restore_1 : decode cX7_restore 1 = .ok (.ifCond .lt 8, 3) := by decide +kernel
theorem dX7_restore_4 : decode cX7_restore 4 = .ok (.iload_n 1, 1) := by decide +kernel
theorem dX7_restore_5 : decode cX7_restore 5 = .ok (.iconst 2, 1) := by decide +kernel
theorem dX7_restore_6 : decode cX7_restore 6 = .ok (.if_icmp .lt 6, 3) := by decide +kernel
theorem dX7_restore_9 : decode cX7_restore 9 = .ok (.ldc 59, 2) := by decide +kernel
theorem dX7_restore_11 : decode cX7_restore 11 = .ok (.ireturn, 1) := by decide +kernel
theorem dX7_restore_12 : decode cX7_restore 12 = .ok (.aload_n 0, 1) := by decide +kernel
theorem dX7_restore_13 : decode cX7_restore 13 = .ok (.getfield 36, 3) := by decide +kernel
theorem dX7_restore_16 : decode cX7_restore 16 = .ok (.iload_n 1, 1) := by decide +kernel
theorem dX7_restore_17 : decode cX7_restore 17 = .ok (.aaload, 1) := by decide +kernel
theorem dX7_restore_18 : decode cX7_restore 18 = .ok (.getfield 130, 3) := by decide +kernel
theorem dX7_restore_21 : decode cX7_restore 21 = .ok (.ifCond .ne 6, 3) := by decide +kernel
theorem dX7_restore_24 : decode cX7_restore 24 = .ok (.ldc 136, 2) := by decide +kernel
theorem dX7_restore_26 : decode cX7_restore 26 = .ok (.ireturn, 1) := by decide +kernel
theorem dX7_restore_27 : decode cX7_restore 27 = .ok (.aload_n 0, 1) := by decide +kernel
theorem dX7_restore_28 : decode cX7_restore 28 = .ok (.getfield 25, 3) := by decide +kernel
theorem dX7_restore_31 : decode cX7_restore 31 = .ok (.aload_n 0, 1) := by decide +kernel
theorem dX7_restore_32 : decode cX7_restore 32 = .ok (.getfield 36, 3) := by decide +kernel
theorem dX7_restore_35 : decode cX7_restore 35 = .ok (.iload_n 1, 1) := by decide +kernel
theorem dX7_restore_36 : decode cX7_restore 36 = .ok (.aaload, 1) := by decide +kernel
theorem dX7_restore_37 : decode cX7_restore 37 = .ok (.invokevirtual 123, 3) := by decide +kernel
theorem dX7_restore_40 : decode cX7_restore 40 = .ok (.aload_n 0, 1) := by decide +kernel
theorem dX7_restore_41 : decode cX7_restore 41 = .ok (.getfield 32, 3) := by decide +kernel
theorem dX7_restore_44 : decode cX7_restore 44 = .ok (.invokevirtual 127, 3) := by decide +kernel
theorem dX7_restore_47 : decode cX7_restore 47 = .ok (.iconst 1, 1) := by decide +kernel
theorem dX7_restore_48 : decode cX7_restore 48 = .ok (.ireturn, 1) := by decide +kernel
set_option maxRecDepth 20000 in
theorem ggX7_kind_X7_isGuard : GoodIn wsX7_kind wsX7_isGuard := goodIn_r _ [8, 1, 9, 10, 11, 12, 13, 14, 15, 16, 17, 18, 19, 20, 21, 22, 23, 24, 25, 26] (by decide +kernel) (by decide +kernel)
set_option maxRecDepth 20000 in
theorem gX7_kind_X7_isGuard : GoodIn wsX7_kind (wsV RX7 187 RX7 yX7_isGuard wsX7_isGuard) := goodIn_app (goodIn_of _ (by decide +kernel)) ggX7_kind_X7_isGuard
theorem dX7_kind_0 : decode cX7_kind 0 = .ok (.aload_n 0, 1) := by decide +kernel
theorem dX7_kind_1 : decode cX7_kind 1 = .ok (.iload_n 1, 1) := by decide +kernel
theorem dX7_kind_2 : decode cX7_kind 2 = .ok (.invokevirtual 187, 3) := by decide +kernel
theorem dX7_kind_5 : decode cX7_kind 5 = .ok (.ifCond .eq 15, 3) := by decide +kernel
theorem dX7_kind_8 : decode cX7_kind 8 = .ok (.aload_n 0, 1) := by decide +kernel
theorem dX7_kind_9 : decode cX7_kind 9 = .ok (.getfield 25, 3) := by decide +kernel
theorem dX7_kind_12 : decode cX7_kind 12 = .ok (.getfield 278, 3) := by decide +kernel
theorem dX7_kind_15 : decode cX7_kind 15 = .ok (.iload_n 1, 1) := by decide +kernel
theorem dX7_kind_16 : decode cX7_kind 16 = .ok (.iaload, 1) := by decide +kernel
theorem dX7_kind_17 : decode cX7_kind 17 = .ok (.goto 5, 3) := by decide +kernel
theorem dX7_kind_20 : decode cX7_kind 20 = .ok (.ldc 59, 2) := by decide +kernel
theorem dX7_kind_22 : decode cX7_kind 22 = .ok (.ireturn, 1) := by decide +kernel
set_option maxRecDepth 20000 in
theorem ggX7_as_X7_isGuard : GoodIn wsX7_as wsX7_isGuard := goodIn_r _ [8, 2, 9, 25, 26, 27, 28, 29, 30, 31, 32, 33, 34, 35, 36, 37, 38, 39, 40, 41] (by decide +kernel) (by decide +kernel)
set_option maxRecDepth 20000 in
theorem gX7_as_X7_isGuard : GoodIn wsX7_as (wsV RX7 187 RX7 yX7_isGuard wsX7_isGuard) := goodIn_app (goodIn_of _ (by decide +kernel)) ggX7_as_X7_isGuard
set_option maxRecDepth 20000 in
theorem ggX7_as_X1_isA : GoodIn wsX7_as wsX1_isA := goodIn_r _ [13, 14] (by decide +kernel) (by decide +kernel)
set_option maxRecDepth 20000 in
theorem gX7_as_X1_isA : GoodIn wsX7_as (va_wsS RX7 307 yX1_isA wsX1_isA) := goodIn_app (goodIn_of _ (by decide +kernel)) ggX7_as_X1_isA
set_option maxRecDepth 20000 in
theorem ggX7_as_X7_unfound : GoodIn wsX7_as wsX7_unfound := goodIn_r _ [18, 19, 25, 26, 27, 28, 29, 30, 31, 32, 33] (by decide +kernel) (by decide +kernel)
set_option maxRecDepth 20000 in
theorem gX7_as_X7_unfound : GoodIn wsX7_as (wsV RX7 68 RX7 yX7_unfound wsX7_unfound) := goodIn_app (goodIn_of _ (by decide +kernel)) ggX7_as_X7_unfound
set_option maxRecDepth 20000 in
theorem ggX7_as_X7_found : GoodIn wsX7_as wsX7_found := goodIn_r _ [23, 19, 24, 25, 26, 27, 28, 29, 30, 31, 32, 33] (by decide +kernel) (by decide +kernel)
set_option maxRecDepth 20000 in
theorem gX7_as_X7_found : GoodIn wsX7_as (wsV RX7 60 RX7 yX7_found wsX7_found) := goodIn_app (goodIn_of _ (by decide +kernel)) ggX7_as_X7_found
theorem dX7_as_0 : decode cX7_as 0 = .ok (.aload_n 0, 1) := by decide +kernel
theorem dX7_as_1 : decode cX7_as 1 = .ok (.iload_n 1, 1) := by decide +kernel
theorem dX7_as_2 : decode cX7_as 2 = .ok (.invokevirtual 187, 3) := by decide +kernel
theorem dX7_as_5 : decode cX7_as 5 = .ok (.ifCond .eq 12, 3) := by decide +kernel
theorem dX7_as_8 : decode cX7_as 8 = .ok (.iload_n 2, 1) := by decide +kernel
theorem dX7_as_9 : decode cX7_as 9 = .ok (.ifCond .lt 8, 3) := by decide +kernel
theorem dX7_as_12 : decode cX7_as 12 = .ok (.iload_n 2, 1) := by decide +kernel
theorem dX7_as_13 : decode cX7_as 13 = .ok (.iconst 5, 1) := by decide +kernel
theorem dX7_as_14 : decode cX7_as 14 = .ok (.if_icmp .le 6, 3) := by decide +kernel
theorem dX7_as_17 : decode cX7_as 17 = .ok (.ldc 59, 2) := by decide +kernel
theorem dX7_as_19 : decode cX7_as 19 = .ok (.ireturn, 1) := by decide +kernel
theorem dX7_as_20 : decode cX7_as 20 = .ok (.aload_n 0, 1) := by decide +kernel
theorem dX7_as_21 : decode cX7_as 21 = .ok (.getfield 25, 3) := by decide +kernel
theorem dX7_as_24 : decode cX7_as 24 = .ok (.getfield 278, 3) := by decide +kernel
theorem dX7_as_27 : decode cX7_as 27 = .ok (.iload_n 1, 1) := by decide +kernel
theorem dX7_as_28 : decode cX7_as 28 = .ok (.iaload, 1) := by decide +kernel
theorem dX7_as_29 : decode cX7_as 29 = .ok (.iload_n 2, 1) := by decide +kernel
theorem dX7_as_30 : decode cX7_as 30 = .ok (.invokestatic 307, 3) := by decide +kernel
theorem dX7_as_33 : decode cX7_as 33 = .ok (.ifCond .eq 11, 3) := by decide +kernel
theorem dX7_as_36 : decode cX7_as 36 = .ok (.aload_n 0, 1) := by decide +kernel
theorem dX7_as_37 : decode cX7_as 37 = .ok (.iload_n 1, 1) := by decide +kernel
theorem dX7_as_38 : decode cX7_as 38 = .ok (.invokevirtual 68, 3) := by decide +kernel
theorem dX7_as_41 : decode cX7_as 41 = .ok (.goto 8, 3) := by decide +kernel
theorem dX7_as_44 : decode cX7_as 44 = .ok (.aload_n 0, 1) := by decide +kernel
theorem dX7_as_45 : decode cX7_as 45 = .ok (.iconst 3, 1) := by decide +kernel
theorem dX7_as_46 : decode cX7_as 46 = .ok (.invokevirtual 60, 3) := by decide +kernel
theorem dX7_as_49 : decode cX7_as 49 = .ok (.ireturn, 1) := by decide +kernel
set_option maxRecDepth 20000 in
theorem ggX7_ask_X7_isGuard : GoodIn wsX7_ask wsX7_isGuard := goodIn_r _ [12, 3, 13, 46, 47, 48, 49, 50, 51, 52, 53, 54, 55, 56, 57, 58, 59, 60, 61, 62] (by decide +kernel) (by decide +kernel)
set_option maxRecDepth 20000 in
theorem gX7_ask_X7_isGuard : GoodIn wsX7_ask (wsV RX7 187 RX7 yX7_isGuard wsX7_isGuard) := goodIn_app (goodIn_of _ (by decide +kernel)) ggX7_ask_X7_isGuard
set_option maxRecDepth 20000 in
theorem ggX7_ask_X1_turnTo : GoodIn wsX7_ask wsX1_turnTo := goodIn_r _ [18, 19, 20, 21, 22, 23, 71, 72, 73, 74, 75, 76] (by decide +kernel) (by decide +kernel)
set_option maxRecDepth 20000 in
theorem gX7_ask_X1_turnTo : GoodIn wsX7_ask (wsV RX7 310 RX1 yX1_turnTo wsX1_turnTo) := goodIn_app (goodIn_of _ (by decide +kernel)) ggX7_ask_X1_turnTo
set_option maxRecDepth 20000 in
theorem ggX7_ask_X1_answer : GoodIn wsX7_ask wsX1_answer := goodIn_r _ [27, 28, 29, 30, 17, 31, 32, 20, 33, 34, 35, 36, 37, 38, 39, 40, 21, 19, 22, 41, 42, 43, 44, 23, 45, 71, 72, 73, 74, 75, 76] (by decide +kernel) (by decide +kernel)
set_option maxRecDepth 20000 in
theorem gX7_ask_X1_answer : GoodIn wsX7_ask (wsV RX7 314 RX1 yX1_answer wsX1_answer) := goodIn_app (goodIn_of _ (by decide +kernel)) ggX7_ask_X1_answer
theorem dX7_ask_0 : decode cX7_ask 0 = .ok (.aload_n 0, 1) := by decide +kernel
theorem dX7_ask_1 : decode cX7_ask 1 = .ok (.iload_n 1, 1) := by decide +kernel
theorem dX7_ask_2 : decode cX7_ask 2 = .ok (.invokevirtual 187, 3) := by decide +kernel
theorem dX7_ask_5 : decode cX7_ask 5 = .ok (.ifCond .eq 12, 3) := by decide +kernel
theorem dX7_ask_8 : decode cX7_ask 8 = .ok (.iload_n 2, 1) := by decide +kernel
theorem dX7_ask_9 : decode cX7_ask 9 = .ok (.ifCond .lt 8, 3) := by decide +kernel
theorem dX7_ask_12 : decode cX7_ask 12 = .ok (.iload_n 2, 1) := by decide +kernel
theorem dX7_ask_13 : decode cX7_ask 13 = .ok (.iconst 1, 1) := by decide +kernel
theorem dX7_ask_14 : decode cX7_ask 14 = .ok (.if_icmp .le 6, 3) := by decide +kernel
theorem dX7_ask_17 : decode cX7_ask 17 = .ok (.ldc 59, 2) := by decide +kernel
theorem dX7_ask_19 : decode cX7_ask 19 = .ok (.ireturn, 1) := by decide +kernel
theorem dX7_ask_20 : decode cX7_ask 20 = .ok (.aload_n 0, 1) := by decide +kernel
theorem dX7_ask_21 : decode cX7_ask 21 = .ok (.getfield 50, 3) := by decide +kernel
theorem dX7_ask_24 : decode cX7_ask 24 = .ok (.iload_n 1, 1) := by decide +kernel
theorem dX7_ask_25 : decode cX7_ask 25 = .ok (.aload_n 0, 1) := by decide +kernel
theorem dX7_ask_26 : decode cX7_ask 26 = .ok (.getfield 25, 3) := by decide +kernel
theorem dX7_ask_29 : decode cX7_ask 29 = .ok (.getfield 278, 3) := by decide +kernel
theorem dX7_ask_32 : decode cX7_ask 32 = .ok (.iload_n 1, 1) := by decide +kernel
theorem dX7_ask_33 : decode cX7_ask 33 = .ok (.iaload, 1) := by decide +kernel
theorem dX7_ask_34 : decode cX7_ask 34 = .ok (.aload_n 0, 1) := by decide +kernel
theorem dX7_ask_35 : decode cX7_ask 35 = .ok (.getfield 25, 3) := by decide +kernel
theorem dX7_ask_38 : decode cX7_ask 38 = .ok (.getfield 209, 3) := by decide +kernel
theorem dX7_ask_41 : decode cX7_ask 41 = .ok (.iload_n 1, 1) := by decide +kernel
theorem dX7_ask_42 : decode cX7_ask 42 = .ok (.iaload, 1) := by decide +kernel
theorem dX7_ask_43 : decode cX7_ask 43 = .ok (.aload_n 0, 1) := by decide +kernel
theorem dX7_ask_44 : decode cX7_ask 44 = .ok (.getfield 25, 3) := by decide +kernel
theorem dX7_ask_47 : decode cX7_ask 47 = .ok (.getfield 137, 3) := by decide +kernel
theorem dX7_ask_50 : decode cX7_ask 50 = .ok (.getfield 212, 3) := by decide +kernel
theorem dX7_ask_53 : decode cX7_ask 53 = .ok (.iload_n 1, 1) := by decide +kernel
theorem dX7_ask_54 : decode cX7_ask 54 = .ok (.iaload, 1) := by decide +kernel
theorem dX7_ask_55 : decode cX7_ask 55 = .ok (.invokevirtual 310, 3) := by decide +kernel
theorem dX7_ask_58 : decode cX7_ask 58 = .ok (.aload_n 0, 1) := by decide +kernel
theorem dX7_ask_59 : decode cX7_ask 59 = .ok (.getfield 50, 3) := by decide +kernel
theorem dX7_ask_62 : decode cX7_ask 62 = .ok (.iload_n 2, 1) := by decide +kernel
theorem dX7_ask_63 : decode cX7_ask 63 = .ok (.invokevirtual 314, 3) := by decide +kernel
theorem dX7_ask_66 : decode cX7_ask 66 = .ok (.ireturn, 1) := by decide +kernel
theorem dX7_trace_0 : decode cX7_trace 0 = .ok (.iload_n 1, 1) := by decide +kernel
theorem dX7_trace_1 : decode cX7_trace 1 = .ok (.ifCond .lt 14, 3) := by decide +kernel
theorem dX7_trace_4 : decode cX7_trace 4 = .ok (.iload_n 1, 1) := by decide +kernel
theorem dX7_trace_5 : decode cX7_trace 5 = .ok (.aload_n 0, 1) := by decide +kernel
theorem dX7_trace_6 : decode cX7_trace 6 = .ok (.getfield 50, 3) := by decide +kernel
theorem dX7_trace_9 : decode cX7_trace 9 = .ok (.getfield 317, 3) := by decide +kernel
theorem dX7_trace_12 : decode cX7_trace 12 = .ok (.if_icmp .lt 8, 3) := by decide +kernel
theorem dX7_trace_15 : decode cX7_trace 15 = .ok (.ldc 175, 2) := by decide +kernel
theorem dX7_trace_17 : decode cX7_trace 17 = .ok (.goto 12, 3) := by decide +kernel
theorem dX7_trace_20 : decode cX7_trace 20 = .ok (.aload_n 0, 1) := by decide +kernel
theorem dX7_trace_21 : decode cX7_trace 21 = .ok (.getfield 50, 3) := by decide +kernel
theorem dX7_trace_24 : decode cX7_trace 24 = .ok (.getfield 320, 3) := by decide +kernel
theorem dX7_trace_27 : decode cX7_trace 27 = .ok (.iload_n 1, 1) := by decide +kernel
theorem dX7_trace_28 : decode cX7_trace 28 = .ok (.iaload, 1) := by decide +kernel
theorem dX7_trace_29 : decode cX7_trace 29 = .ok (.ireturn, 1) := by decide +kernel
set_option maxRecDepth 20000 in
theorem ggX7_count_X7_rowsThere : GoodIn wsX7_count wsX7_rowsThere := goodIn_r _ [18, 19, 20, 27, 28, 29, 30, 31, 32, 33, 34, 35, 62, 63, 64] (by decide +kernel) (by decide +kernel)
set_option maxRecDepth 20000 in
theorem gX7_count_X7_rowsThere : GoodIn wsX7_count (wsV RX7 323 RX7 yX7_rowsThere wsX7_rowsThere) := goodIn_app (goodIn_of _ (by decide +kernel)) ggX7_count_X7_rowsThere
set_option maxRecDepth 20000 in
theorem ggX7_count_X4_tookInAll : GoodIn wsX7_count wsX4_tookInAll := goodIn_r _ [25, 26, 44, 45, 46, 47, 48, 49, 50, 51] (by decide +kernel) (by decide +kernel)
set_option maxRecDepth 20000 in
theorem gX7_count_X4_tookInAll : GoodIn wsX7_count (wsV RX7 330 RX4 yX4_tookInAll wsX4_tookInAll) := goodIn_app (goodIn_of _ (by decide +kernel)) ggX7_count_X4_tookInAll
theorem dX7_count_0 : decode cX7_count 0 = .ok (.iload_n 1, 1) := by decide +kernel
theorem dX7_count_1 : decode cX7_count 1 = .ok (.tableswitch 147 0 9 #[55, 60, 68, 76, 87, 98, 109, 117, 125, 136], 55) := by decide +kernel
theorem dX7_count_56 : decode cX7_count 56 = .ok (.aload_n 0, 1) := by decide +kernel
theorem dX7_count_57 : decode cX7_count 57 = .ok (.invokevirtual 323, 3) := by decide +kernel
theorem dX7_count_60 : decode cX7_count 60 = .ok (.ireturn, 1) := by decide +kernel
theorem dX7_count_61 : decode cX7_count 61 = .ok (.aload_n 0, 1) := by decide +kernel
theorem dX7_count_62 : decode cX7_count 62 = .ok (.getfield 25, 3) := by decide +kernel
theorem dX7_count_65 : decode cX7_count 65 = .ok (.getfield 130, 3) := by decide +kernel
theorem dX7_count_68 : decode cX7_count 68 = .ok (.ireturn, 1) := by decide +kernel
theorem dX7_count_69 : decode cX7_count 69 = .ok (.aload_n 0, 1) := by decide +kernel
theorem dX7_count_70 : decode cX7_count 70 = .ok (.getfield 25, 3) := by decide +kernel
theorem dX7_count_73 : decode cX7_count 73 = .ok (.getfield 327, 3) := by decide +kernel
theorem dX7_count_76 : decode cX7_count 76 = .ok (.ireturn, 1) := by decide +kernel
theorem dX7_count_77 : decode cX7_count 77 = .ok (.aload_n 0, 1) := by decide +kernel
theorem dX7_count_78 : decode cX7_count 78 = .ok (.getfield 25, 3) := by decide +kernel
theorem dX7_count_81 : decode cX7_count 81 = .ok (.getfield 137, 3) := by decide +kernel
theorem dX7_count_84 : decode cX7_count 84 = .ok (.getfield 141, 3) := by decide +kernel
theorem dX7_count_87 : decode cX7_count 87 = .ok (.ireturn, 1) := by decide +kernel
theorem dX7_count_88 : decode cX7_count 88 = .ok (.aload_n 0, 1) := by decide +kernel
theorem dX7_count_89 : decode cX7_count 89 = .ok (.getfield 25, 3) := by decide +kernel
theorem dX7_count_92 : decode cX7_count 92 = .ok (.getfield 137, 3) := by decide +kernel
theorem dX7_count_95 : decode cX7_count 95 = .ok (.getfield 162, 3) := by decide +kernel
theorem dX7_count_98 : decode cX7_count 98 = .ok (.ireturn, 1) := by decide +kernel
theorem dX7_count_99 : decode cX7_count 99 = .ok (.aload_n 0, 1) := by decide +kernel
theorem dX7_count_100 : decode cX7_count 100 = .ok (.getfield 25, 3) := by decide +kernel
theorem dX7_count_103 : decode cX7_count 103 = .ok (.getfield 137, 3) := by decide +kernel
theorem dX7_count_106 : decode cX7_count 106 = .ok (.getfield 190, 3) := by decide +kernel
theorem dX7_count_109 : decode cX7_count 109 = .ok (.ireturn, 1) := by decide +kernel
theorem dX7_count_110 : decode cX7_count 110 = .ok (.aload_n 0, 1) := by decide +kernel
theorem dX7_count_111 : decode cX7_count 111 = .ok (.getfield 32, 3) := by decide +kernel
theorem dX7_count_114 : decode cX7_count 114 = .ok (.getfield 197, 3) := by decide +kernel
theorem dX7_count_117 : decode cX7_count 117 = .ok (.ireturn, 1) := by decide +kernel
theorem dX7_count_118 : decode cX7_count 118 = .ok (.aload_n 0, 1) := by decide +kernel
theorem dX7_count_119 : decode cX7_count 119 = .ok (.getfield 18, 3) := by decide +kernel
theorem dX7_count_122 : decode cX7_count 122 = .ok (.getfield 102, 3) := by decide +kernel
theorem dX7_count_125 : decode cX7_count 125 = .ok (.ireturn, 1) := by decide +kernel
theorem dX7_count_126 : decode cX7_count 126 = .ok (.aload_n 0, 1) := by decide +kernel
theorem dX7_count_127 : decode cX7_count 127 = .ok (.getfield 25, 3) := by decide +kernel
theorem dX7_count_130 : decode cX7_count 130 = .ok (.getfield 137, 3) := by decide +kernel
theorem dX7_count_133 : decode cX7_count 133 = .ok (.getfield 184, 3) := by decide +kernel
theorem dX7_count_136 : decode cX7_count 136 = .ok (.ireturn, 1) := by decide +kernel
theorem dX7_count_137 : decode cX7_count 137 = .ok (.aload_n 0, 1) := by decide +kernel
theorem dX7_count_138 : decode cX7_count 138 = .ok (.getfield 25, 3) := by decide +kernel
theorem dX7_count_141 : decode cX7_count 141 = .ok (.getfield 137, 3) := by decide +kernel
theorem dX7_count_144 : decode cX7_count 144 = .ok (.invokevirtual 330, 3) := by decide +kernel
theorem dX7_count_147 : decode cX7_count 147 = .ok (.ireturn, 1) := by decide +kernel
theorem dX7_count_148 : decode cX7_count 148 = .ok (.ldc 59, 2) := by decide +kernel
theorem dX7_count_150 : decode cX7_count 150 = .ok (.ireturn, 1) := by decide +kernel
theorem dX7_status_0 : decode cX7_status 0 = .ok (.aload_n 0, 1) := by decide +kernel
theorem dX7_status_1 : decode cX7_status 1 = .ok (.getfield 333, 3) := by decide +kernel
theorem dX7_status_4 : decode cX7_status 4 = .ok (.ireturn, 1) := by decide +kernel
theorem dX7_found_0 : decode cX7_found 0 = .ok (.aload_n 0, 1) := by decide +kernel
theorem dX7_found_1 : decode cX7_found 1 = .ok (.iload_n 1, 1) := by decide +kernel
theorem dX7_found_2 : decode cX7_found 2 = .ok (.putfield 333, 3) := by decide +kernel
theorem dX7_found_5 : decode cX7_found 5 = .ok (.ldc_w 336, 3) := by decide +kernel
theorem dX7_found_8 : decode cX7_found 8 = .ok (.iload_n 1, 1) := by decide +kernel
theorem dX7_found_9 : decode cX7_found 9 = .ok (.isub, 1) := by decide +kernel
theorem dX7_found_10 : decode cX7_found 10 = .ok (.ireturn, 1) := by decide +kernel
theorem dX7_unfound_0 : decode cX7_unfound 0 = .ok (.aload_n 0, 1) := by decide +kernel
theorem dX7_unfound_1 : decode cX7_unfound 1 = .ok (.iconst 0, 1) := by decide +kernel
theorem dX7_unfound_2 : decode cX7_unfound 2 = .ok (.putfield 333, 3) := by decide +kernel
theorem dX7_unfound_5 : decode cX7_unfound 5 = .ok (.iload_n 1, 1) := by decide +kernel
theorem dX7_unfound_6 : decode cX7_unfound 6 = .ok (.ireturn, 1) := by decide +kernel
theorem dX7_noGate_0 : decode cX7_noGate 0 = .ok (.aload_n 0, 1) := by decide +kernel
theorem dX7_noGate_1 : decode cX7_noGate 1 = .ok (.getfield 25, 3) := by decide +kernel
theorem dX7_noGate_4 : decode cX7_noGate 4 = .ok (.getfield 130, 3) := by decide +kernel
theorem dX7_noGate_7 : decode cX7_noGate 7 = .ok (.ifCond .ne 7, 3) := by decide +kernel
theorem dX7_noGate_10 : decode cX7_noGate 10 = .ok (.iconst 1, 1) := by decide +kernel
theorem dX7_noGate_11 : decode cX7_noGate 11 = .ok (.goto 4, 3) := by decide +kernel
theorem dX7_noGate_14 : decode cX7_noGate 14 = .ok (.iconst 0, 1) := by decide +kernel
theorem dX7_noGate_15 : decode cX7_noGate 15 = .ok (.ireturn, 1) := by decide +kernel
theorem dX7_isRow_0 : decode cX7_isRow 0 = .ok (.iload_n 1, 1) := by decide +kernel
theorem dX7_isRow_1 : decode cX7_isRow 1 = .ok (.ifCond .lt 13, 3) := by decide +kernel
theorem dX7_isRow_4 : decode cX7_isRow 4 = .ok (.iload_n 1, 1) := by decide +kernel
theorem dX7_isRow_5 : decode cX7_isRow 5 = .ok (.bipush 8, 2) := by decide +kernel
theorem dX7_isRow_7 : decode cX7_isRow 7 = .ok (.if_icmp .ge 7, 3) := by decide +kernel
theorem dX7_isRow_10 : decode cX7_isRow 10 = .ok (.iconst 1, 1) := by decide +kernel
theorem dX7_isRow_11 : decode cX7_isRow 11 = .ok (.goto 4, 3) := by decide +kernel
theorem dX7_isRow_14 : decode cX7_isRow 14 = .ok (.iconst 0, 1) := by decide +kernel
theorem dX7_isRow_15 : decode cX7_isRow 15 = .ok (.ireturn, 1) := by decide +kernel
theorem dX7_isWord_0 : decode cX7_isWord 0 = .ok (.iload_n 1, 1) := by decide +kernel
theorem dX7_isWord_1 : decode cX7_isWord 1 = .ok (.ifCond .lt 18, 3) := by decide +kernel
theorem dX7_isWord_4 : decode cX7_isWord 4 = .ok (.iload_n 1, 1) := by decide +kernel
theorem dX7_isWord_5 : decode cX7_isWord 5 = .ok (.aload_n 0, 1) := by decide +kernel
theorem dX7_isWord_6 : decode cX7_isWord 6 = .ok (.getfield 25, 3) := by decide +kernel
theorem dX7_isWord_9 : decode cX7_isWord 9 = .ok (.getfield 130, 3) := by decide +kernel
theorem dX7_isWord_12 : decode cX7_isWord 12 = .ok (.if_icmp .ge 7, 3) := by decide +kernel
theorem dX7_isWord_15 : decode cX7_isWord 15 = .ok (.iconst 1, 1) := by decide +kernel
theorem dX7_isWord_16 : decode cX7_isWord 16 = .ok (.goto 4, 3) := by decide +kernel
theorem dX7_isWord_19 : decode cX7_isWord 19 = .ok (.iconst 0, 1) := by decide +kernel
theorem dX7_isWord_20 : decode cX7_isWord 20 = .ok (.ireturn, 1) := by decide +kernel
theorem dX7_areWords_0 : decode cX7_areWords 0 = .ok (.iload_n 1, 1) := by decide +kernel
theorem dX7_areWords_1 : decode cX7_areWords 1 = .ok (.ifCond .lt 20, 3) := by decide +kernel
theorem dX7_areWords_4 : decode cX7_areWords 4 = .ok (.iload_n 1, 1) := by decide +kernel
theorem dX7_areWords_5 : decode cX7_areWords 5 = .ok (.iconst 1, 1) := by decide +kernel
theorem dX7_areWords_6 : decode cX7_areWords 6 = .ok (.aload_n 0, 1) := by decide +kernel
theorem dX7_areWords_7 : decode cX7_areWords 7 = .ok (.getfield 25, 3) := by decide +kernel
theorem dX7_areWords_10 : decode cX7_areWords 10 = .ok (.getfield 130, 3) := by decide +kernel
theorem dX7_areWords_13 : decode cX7_areWords 13 = .ok (.ishl, 1) := by decide +kernel
theorem dX7_areWords_14 : decode cX7_areWords 14 = .ok (.if_icmp .ge 7, 3) := by decide +kernel
theorem dX7_areWords_17 : decode cX7_areWords 17 = .ok (.iconst 1, 1) := by decide +kernel
theorem dX7_areWords_18 : decode cX7_areWords 18 = .ok (.goto 4, 3) := by decide +kernel
theorem dX7_areWords_21 : decode cX7_areWords 21 = .ok (.iconst 0, 1) := by decide +kernel
theorem dX7_areWords_22 : decode cX7_areWords 22 = .ok (.ireturn, 1) := by decide +kernel
theorem dX7_isGuard_0 : decode cX7_isGuard 0 = .ok (.iload_n 1, 1) := by decide +kernel
theorem dX7_isGuard_1 : decode cX7_isGuard 1 = .ok (.ifCond .lt 18, 3) := by decide +kernel
theorem dX7_isGuard_4 : decode cX7_isGuard 4 = .ok (.iload_n 1, 1) := by decide +kernel
theorem dX7_isGuard_5 : decode cX7_isGuard 5 = .ok (.aload_n 0, 1) := by decide +kernel
theorem dX7_isGuard_6 : decode cX7_isGuard 6 = .ok (.getfield 25, 3) := by decide +kernel
theorem dX7_isGuard_9 : decode cX7_isGuard 9 = .ok (.getfield 327, 3) := by decide +kernel
theorem dX7_isGuard_12 : decode cX7_isGuard 12 = .ok (.if_icmp .ge 7, 3) := by decide +kernel
theorem dX7_isGuard_15 : decode cX7_isGuard 15 = .ok (.iconst 1, 1) := by decide +kernel
theorem dX7_isGuard_16 : decode cX7_isGuard 16 = .ok (.goto 4, 3) := by decide +kernel
theorem dX7_isGuard_19 : decode cX7_isGuard 19 = .ok (.iconst 0, 1) := by decide +kernel
theorem dX7_isGuard_20 : decode cX7_isGuard 20 = .ok (.ireturn, 1) := by decide +kernel
theorem dX7_isHour_0 : decode cX7_isHour 0 = .ok (.iload_n 1, 1) := by decide +kernel
theorem dX7_isHour_1 : decode cX7_isHour 1 = .ok (.ifCond .lt 13, 3) := by decide +kernel
theorem dX7_isHour_4 : decode cX7_isHour 4 = .ok (.iload_n 1, 1) := by decide +kernel
theorem dX7_isHour_5 : decode cX7_isHour 5 = .ok (.bipush 6, 2) := by decide +kernel
theorem dX7_isHour_7 : decode cX7_isHour 7 = .ok (.if_icmp .ge 7, 3) := by decide +kernel
theorem dX7_isHour_10 : decode cX7_isHour 10 = .ok (.iconst 1, 1) := by decide +kernel
theorem dX7_isHour_11 : decode cX7_isHour 11 = .ok (.goto 4, 3) := by decide +kernel
theorem dX7_isHour_14 : decode cX7_isHour 14 = .ok (.iconst 0, 1) := by decide +kernel
theorem dX7_isHour_15 : decode cX7_isHour 15 = .ok (.ireturn, 1) := by decide +kernel
theorem dX7_isAhead_0 : decode cX7_isAhead 0 = .ok (.iload_n 1, 1) := by decide +kernel
theorem dX7_isAhead_1 : decode cX7_isAhead 1 = .ok (.ifCond .lt 13, 3) := by decide +kernel
theorem dX7_isAhead_4 : decode cX7_isAhead 4 = .ok (.iload_n 1, 1) := by decide +kernel
theorem dX7_isAhead_5 : decode cX7_isAhead 5 = .ok (.bipush 60, 2) := by decide +kernel
theorem dX7_isAhead_7 : decode cX7_isAhead 7 = .ok (.if_icmp .gt 7, 3) := by decide +kernel
theorem dX7_isAhead_10 : decode cX7_isAhead 10 = .ok (.iconst 1, 1) := by decide +kernel
theorem dX7_isAhead_11 : decode cX7_isAhead 11 = .ok (.goto 4, 3) := by decide +kernel
theorem dX7_isAhead_14 : decode cX7_isAhead 14 = .ok (.iconst 0, 1) := by decide +kernel
theorem dX7_isAhead_15 : decode cX7_isAhead 15 = .ok (.ireturn, 1) := by decide +kernel
theorem dX7_rowsThere_0 : decode cX7_rowsThere 0 = .ok (.iconst 0, 1) := by decide +kernel
theorem dX7_rowsThere_1 : decode cX7_rowsThere 1 = .ok (.istore_n 1, 1) := by decide +kernel
theorem dX7_rowsThere_2 : decode cX7_rowsThere 2 = .ok (.iconst 0, 1) := by decide +kernel
theorem dX7_rowsThere_3 : decode cX7_rowsThere 3 = .ok (.istore_n 2, 1) := by decide +kernel
theorem dX7_rowsThere_4 : decode cX7_rowsThere 4 = .ok (.iload_n 2, 1) := by decide +kernel
theorem dX7_rowsThere_5 : decode cX7_rowsThere 5 = .ok (.bipush 8, 2) := by decide +kernel
theorem dX7_rowsThere_7 : decode cX7_rowsThere 7 = .ok (.if_icmp .ge 25, 3) := by decide +kernel
theorem dX7_rowsThere_10 : decode cX7_rowsThere 10 = .ok (.aload_n 0, 1) := by decide +kernel
theorem dX7_rowsThere_11 : decode cX7_rowsThere 11 = .ok (.getfield 11, 3) := by decide +kernel
theorem dX7_rowsThere_14 : decode cX7_rowsThere 14 = .ok (.iload_n 2, 1) := by decide +kernel
theorem dX7_rowsThere_15 : decode cX7_rowsThere 15 = .ok (.aaload, 1) := by decide +kernel
theorem dX7_rowsThere_16 : decode cX7_rowsThere 16 = .ok (.getfield 78, 3) := by decide +kernel
theorem dX7_rowsThere_19 : decode cX7_rowsThere 19 = .ok (.iconst (-1), 1) := by decide +kernel
theorem dX7_rowsThere_20 : decode cX7_rowsThere 20 = .ok (.if_icmp .eq 6, 3) := by decide +kernel
theorem dX7_rowsThere_23 : decode cX7_rowsThere 23 = .ok (.iinc 1 1, 3) := by decide +kernel
theorem dX7_rowsThere_26 : decode cX7_rowsThere 26 = .ok (.iinc 2 1, 3) := by decide +kernel
theorem dX7_rowsThere_29 : decode cX7_rowsThere 29 = .ok (.goto (-25), 3) := by decide +kernel
theorem dX7_rowsThere_32 : decode cX7_rowsThere 32 = .ok (.iload_n 1, 1) := by decide +kernel
theorem dX7_rowsThere_33 : decode cX7_rowsThere 33 = .ok (.ireturn, 1) := by decide +kernel
set_option maxRecDepth 20000 in
theorem ggX7_hourOfLast_X7_isWord : GoodIn wsX7_hourOfLast wsX7_isWord := goodIn_r _ [8, 2, 9, 67, 68, 69, 70, 71, 72, 73, 74, 75, 76, 77, 78, 79, 80, 81, 82, 83] (by decide +kernel) (by decide +kernel)
set_option maxRecDepth 20000 in
theorem gX7_hourOfLast_X7_isWord : GoodIn wsX7_hourOfLast (wsV RX7 156 RX7 yX7_isWord wsX7_isWord) := goodIn_app (goodIn_of _ (by decide +kernel)) ggX7_hourOfLast_X7_isWord
set_option maxRecDepth 20000 in
theorem ggX7_hourOfLast_X2_hourIn : GoodIn wsX7_hourOfLast wsX2_hourIn := goodIn_r _ [14, 15, 16, 17, 18, 13, 19, 20, 21, 22, 23, 24, 25, 26, 27, 28, 29, 30, 31, 32, 33, 34, 7, 35, 36, 37, 38, 39, 40, 41, 42, 43, 44, 45, 46, 47, 48, 49, 50, 51, 52, 53, 54, 55, 56, 57, 58, 59, 60, 61, 62, 63, 76, 77, 78, 79, 80, 81, 82, 83, 84, 85, 86, 87, 88, 89, 90, 91] (by decide +kernel) (by decide +kernel)
set_option maxRecDepth 20000 in
theorem gX7_hourOfLast_X2_hourIn : GoodIn wsX7_hourOfLast (wsV RX7 337 RX2 yX2_hourIn wsX2_hourIn) := goodIn_app (goodIn_of _ (by decide +kernel)) ggX7_hourOfLast_X2_hourIn
theorem dX7_hourOfLast_0 : decode cX7_hourOfLast 0 = .ok (.iconst (-1), 1) := by decide +kernel
theorem dX7_hourOfLast_1 : decode cX7_hourOfLast 1 = .ok (.istore 4, 2) := by decide +kernel
theorem dX7_hourOfLast_3 : decode cX7_hourOfLast 3 = .ok (.iconst 0, 1) := by decide +kernel
theorem dX7_hourOfLast_4 : decode cX7_hourOfLast 4 = .ok (.istore 5, 2) := by decide +kernel
theorem dX7_hourOfLast_6 : decode cX7_hourOfLast 6 = .ok (.iload 5, 2) := by decide +kernel
theorem dX7_hourOfLast_8 : decode cX7_hourOfLast 8 = .ok (.iload_n 3, 1) := by decide +kernel
theorem dX7_hourOfLast_9 : decode cX7_hourOfLast 9 = .ok (.if_icmp .ge 59, 3) := by decide +kernel
theorem dX7_hourOfLast_12 : decode cX7_hourOfLast 12 = .ok (.aload_n 1, 1) := by decide +kernel
theorem dX7_hourOfLast_13 : decode cX7_hourOfLast 13 = .ok (.getfield 86, 3) := by decide +kernel
theorem dX7_hourOfLast_16 : decode cX7_hourOfLast 16 = .ok (.iload_n 2, 1) := by decide +kernel
theorem dX7_hourOfLast_17 : decode cX7_hourOfLast 17 = .ok (.iload 5, 2) := by decide +kernel
theorem dX7_hourOfLast_19 : decode cX7_hourOfLast 19 = .ok (.iadd, 1) := by decide +kernel
theorem dX7_hourOfLast_20 : decode cX7_hourOfLast 20 = .ok (.iaload, 1) := by decide +kernel
theorem dX7_hourOfLast_21 : decode cX7_hourOfLast 21 = .ok (.istore 6, 2) := by decide +kernel
theorem dX7_hourOfLast_23 : decode cX7_hourOfLast 23 = .ok (.aload_n 0, 1) := by decide +kernel
theorem dX7_hourOfLast_24 : decode cX7_hourOfLast 24 = .ok (.iload 6, 2) := by decide +kernel
theorem dX7_hourOfLast_26 : decode cX7_hourOfLast 26 = .ok (.invokevirtual 156, 3) := by decide +kernel
theorem dX7_hourOfLast_29 : decode cX7_hourOfLast 29 = .ok (.ifCond .eq 19, 3) := by decide +kernel
theorem dX7_hourOfLast_32 : decode cX7_hourOfLast 32 = .ok (.aload_n 0, 1) := by decide +kernel
theorem dX7_hourOfLast_33 : decode cX7_hourOfLast 33 = .ok (.getfield 25, 3) := by decide +kernel
theorem dX7_hourOfLast_36 : decode cX7_hourOfLast 36 = .ok (.iload 6, 2) := by decide +kernel
theorem dX7_hourOfLast_38 : decode cX7_hourOfLast 38 = .ok (.iload 4, 2) := by decide +kernel
theorem dX7_hourOfLast_40 : decode cX7_hourOfLast 40 = .ok (.iconst 1, 1) := by decide +kernel
theorem dX7_hourOfLast_41 : decode cX7_hourOfLast 41 = .ok (.iadd, 1) := by decide +kernel
theorem dX7_hourOfLast_42 : decode cX7_hourOfLast 42 = .ok (.invokevirtual 337, 3) := by decide +kernel
theorem dX7_hourOfLast_45 : decode cX7_hourOfLast 45 = .ok (.goto 5, 3) := by decide +kernel
theorem dX7_hourOfLast_48 : decode cX7_hourOfLast 48 = .ok (.ldc 175, 2) := by decide +kernel
theorem dX7_hourOfLast_50 : decode cX7_hourOfLast 50 = .ok (.istore 4, 2) := by decide +kernel
theorem dX7_hourOfLast_52 : decode cX7_hourOfLast 52 = .ok (.iload 4, 2) := by decide +kernel
theorem dX7_hourOfLast_54 : decode cX7_hourOfLast 54 = .ok (.ldc 175, 2) := by decide +kernel
theorem dX7_hourOfLast_56 : decode cX7_hourOfLast 56 = .ok (.if_icmp .ne 6, 3) := by decide +kernel
theorem dX7_hourOfLast_59 : decode cX7_hourOfLast 59 = .ok (.ldc 175, 2) := by decide +kernel
theorem dX7_hourOfLast_61 : decode cX7_hourOfLast 61 = .ok (.ireturn, 1) := by decide +kernel
theorem dX7_hourOfLast_62 : decode cX7_hourOfLast 62 = .ok (.iinc 5 1, 3) := by decide +kernel
theorem dX7_hourOfLast_65 : decode cX7_hourOfLast 65 = .ok (.goto (-59), 3) := by decide +kernel
theorem dX7_hourOfLast_68 : decode cX7_hourOfLast 68 = .ok (.iload 4, 2) := by decide +kernel
theorem dX7_hourOfLast_70 : decode cX7_hourOfLast 70 = .ok (.ireturn, 1) := by decide +kernel
set_option maxRecDepth 20000 in
theorem ggX7_rulesThatTell_X2_secretBy : GoodIn wsX7_rulesThatTell wsX2_secretBy := goodIn_r _ [12, 13, 14, 15, 16, 29, 30, 31, 32, 33, 34, 35, 36] (by decide +kernel) (by decide +kernel)
set_option maxRecDepth 20000 in
theorem gX7_rulesThatTell_X2_secretBy : GoodIn wsX7_rulesThatTell (wsV RX7 346 RX2 yX2_secretBy wsX2_secretBy) := goodIn_app (goodIn_of _ (by decide +kernel)) ggX7_rulesThatTell_X2_secretBy
set_option maxRecDepth 20000 in
theorem ggX7_rulesThatTell_X7_bit : GoodIn wsX7_rulesThatTell wsX7_bit := goodIn_r _ [19] (by decide +kernel) (by decide +kernel)
set_option maxRecDepth 20000 in
theorem gX7_rulesThatTell_X7_bit : GoodIn wsX7_rulesThatTell (va_wsS RX7 180 yX7_bit wsX7_bit) := goodIn_app (goodIn_of _ (by decide +kernel)) ggX7_rulesThatTell_X7_bit
theorem dX7_rulesThatTell_0 : decode cX7_rulesThatTell 0 = .ok (.iload 4, 2) := by decide +kernel
theorem dX7_rulesThatTell_2 : decode cX7_rulesThatTell 2 = .ok (.iconst 2, 1) := by decide +kernel
theorem dX7_rulesThatTell_3 : decode cX7_rulesThatTell 3 = .ok (.if_icmp .ne 8, 3) := by decide +kernel
theorem dX7_rulesThatTell_6 : decode cX7_rulesThatTell 6 = .ok (.bipush 6, 2) := by decide +kernel
theorem dX7_rulesThatTell_8 : decode cX7_rulesThatTell 8 = .ok (.goto 16, 3) := by decide +kernel
theorem dX7_rulesThatTell_11 : decode cX7_rulesThatTell 11 = .ok (.iload 4, 2) := by decide +kernel
theorem dX7_rulesThatTell_13 : decode cX7_rulesThatTell 13 = .ok (.iconst 1, 1) := by decide +kernel
theorem dX7_rulesThatTell_14 : decode cX7_rulesThatTell 14 = .ok (.if_icmp .ne 8, 3) := by decide +kernel
theorem dX7_rulesThatTell_17 : decode cX7_rulesThatTell 17 = .ok (.bipush 9, 2) := by decide +kernel
theorem dX7_rulesThatTell_19 : decode cX7_rulesThatTell 19 = .ok (.goto 5, 3) := by decide +kernel
theorem dX7_rulesThatTell_22 : decode cX7_rulesThatTell 22 = .ok (.bipush 9, 2) := by decide +kernel
theorem dX7_rulesThatTell_24 : decode cX7_rulesThatTell 24 = .ok (.istore 5, 2) := by decide +kernel
theorem dX7_rulesThatTell_26 : decode cX7_rulesThatTell 26 = .ok (.iconst 0, 1) := by decide +kernel
theorem dX7_rulesThatTell_27 : decode cX7_rulesThatTell 27 = .ok (.istore 6, 2) := by decide +kernel
theorem dX7_rulesThatTell_29 : decode cX7_rulesThatTell 29 = .ok (.iconst 0, 1) := by decide +kernel
theorem dX7_rulesThatTell_30 : decode cX7_rulesThatTell 30 = .ok (.istore 7, 2) := by decide +kernel
theorem dX7_rulesThatTell_32 : decode cX7_rulesThatTell 32 = .ok (.iload 7, 2) := by decide +kernel
theorem dX7_rulesThatTell_34 : decode cX7_rulesThatTell 34 = .ok (.iload 5, 2) := by decide +kernel
theorem dX7_rulesThatTell_36 : decode cX7_rulesThatTell 36 = .ok (.if_icmp .gt 152, 3) := by decide +kernel
theorem dX7_rulesThatTell_39 : decode cX7_rulesThatTell 39 = .ok (.iload 4, 2) := by decide +kernel
theorem dX7_rulesThatTell_41 : decode cX7_rulesThatTell 41 = .ok (.ifCond .ne 8, 3) := by decide +kernel
theorem dX7_rulesThatTell_44 : decode cX7_rulesThatTell 44 = .ok (.iload 7, 2) := by decide +kernel
theorem dX7_rulesThatTell_46 : decode cX7_rulesThatTell 46 = .ok (.goto 13, 3) := by decide +kernel
theorem dX7_rulesThatTell_49 : decode cX7_rulesThatTell 49 = .ok (.aload_n 0, 1) := by decide +kernel
theorem dX7_rulesThatTell_50 : decode cX7_rulesThatTell 50 = .ok (.getfield 25, 3) := by decide +kernel
theorem dX7_rulesThatTell_53 : decode cX7_rulesThatTell 53 = .ok (.getfield 137, 3) := by decide +kernel
theorem dX7_rulesThatTell_56 : decode cX7_rulesThatTell 56 = .ok (.getfield 184, 3) := by decide +kernel
theorem dX7_rulesThatTell_59 : decode cX7_rulesThatTell 59 = .ok (.istore 8, 2) := by decide +kernel
theorem dX7_rulesThatTell_61 : decode cX7_rulesThatTell 61 = .ok (.iload 4, 2) := by decide +kernel
theorem dX7_rulesThatTell_63 : decode cX7_rulesThatTell 63 = .ok (.iconst 1, 1) := by decide +kernel
theorem dX7_rulesThatTell_64 : decode cX7_rulesThatTell 64 = .ok (.if_icmp .ne 8, 3) := by decide +kernel
theorem dX7_rulesThatTell_67 : decode cX7_rulesThatTell 67 = .ok (.iload 7, 2) := by decide +kernel
theorem dX7_rulesThatTell_69 : decode cX7_rulesThatTell 69 = .ok (.goto 10, 3) := by decide +kernel
theorem dX7_rulesThatTell_72 : decode cX7_rulesThatTell 72 = .ok (.aload_n 0, 1) := by decide +kernel
theorem dX7_rulesThatTell_73 : decode cX7_rulesThatTell 73 = .ok (.getfield 25, 3) := by decide +kernel
theorem dX7_rulesThatTell_76 : decode cX7_rulesThatTell 76 = .ok (.getfield 340, 3) := by decide +kernel
theorem dX7_rulesThatTell_79 : decode cX7_rulesThatTell 79 = .ok (.istore 9, 2) := by decide +kernel
theorem dX7_rulesThatTell_81 : decode cX7_rulesThatTell 81 = .ok (.iload 4, 2) := by decide +kernel
theorem dX7_rulesThatTell_83 : decode cX7_rulesThatTell 83 = .ok (.iconst 2, 1) := by decide +kernel
theorem dX7_rulesThatTell_84 : decode cX7_rulesThatTell 84 = .ok (.if_icmp .ne 8, 3) := by decide +kernel
theorem dX7_rulesThatTell_87 : decode cX7_rulesThatTell 87 = .ok (.iload 7, 2) := by decide +kernel
theorem dX7_rulesThatTell_89 : decode cX7_rulesThatTell 89 = .ok (.goto 10, 3) := by decide +kernel
theorem dX7_rulesThatTell_92 : decode cX7_rulesThatTell 92 = .ok (.aload_n 0, 1) := by decide +kernel
theorem dX7_rulesThatTell_93 : decode cX7_rulesThatTell 93 = .ok (.getfield 25, 3) := by decide +kernel
theorem dX7_rulesThatTell_96 : decode cX7_rulesThatTell 96 = .ok (.getfield 343, 3) := by decide +kernel
theorem dX7_rulesThatTell_99 : decode cX7_rulesThatTell 99 = .ok (.istore 10, 2) := by decide +kernel
theorem dX7_rulesThatTell_101 : decode cX7_rulesThatTell 101 = .ok (.iconst 1, 1) := by decide +kernel
theorem dX7_rulesThatTell_102 : decode cX7_rulesThatTell 102 = .ok (.istore 11, 2) := by decide +kernel
theorem dX7_rulesThatTell_104 : decode cX7_rulesThatTell 104 = .ok (.iconst 0, 1) := by decide +kernel
theorem dX7_rulesThatTell_105 : decode cX7_rulesThatTell 105 = .ok (.istore 12, 2) := by decide +kernel
theorem dX7_rulesThatTell_107 : decode cX7_rulesThatTell 107 = .ok (.iload 12, 2) := by decide +kernel
theorem dX7_rulesThatTell_109 : decode cX7_rulesThatTell 109 = .ok (.iload_n 3, 1) := by decide +kernel
theorem dX7_rulesThatTell_110 : decode cX7_rulesThatTell 110 = .ok (.if_icmp .ge 59, 3) := by decide +kernel
theorem dX7_rulesThatTell_113 : decode cX7_rulesThatTell 113 = .ok (.iload 11, 2) := by decide +kernel
theorem dX7_rulesThatTell_115 : decode cX7_rulesThatTell 115 = .ok (.ifCond .eq 54, 3) := by decide +kernel
theorem dX7_rulesThatTell_118 : decode cX7_rulesThatTell 118 = .ok (.aload_n 0, 1) := by decide +kernel
theorem dX7_rulesThatTell_119 : decode cX7_rulesThatTell 119 = .ok (.getfield 25, 3) := by decide +kernel
theorem dX7_rulesThatTell_122 : decode cX7_rulesThatTell 122 = .ok (.iload 8, 2) := by decide +kernel
theorem dX7_rulesThatTell_124 : decode cX7_rulesThatTell 124 = .ok (.iload 9, 2) := by decide +kernel
theorem dX7_rulesThatTell_126 : decode cX7_rulesThatTell 126 = .ok (.iload 10, 2) := by decide +kernel
theorem dX7_rulesThatTell_128 : decode cX7_rulesThatTell 128 = .ok (.aload_n 0, 1) := by decide +kernel
theorem dX7_rulesThatTell_129 : decode cX7_rulesThatTell 129 = .ok (.getfield 25, 3) := by decide +kernel
theorem dX7_rulesThatTell_132 : decode cX7_rulesThatTell 132 = .ok (.getfield 137, 3) := by decide +kernel
theorem dX7_rulesThatTell_135 : decode cX7_rulesThatTell 135 = .ok (.getfield 141, 3) := by decide +kernel
theorem dX7_rulesThatTell_138 : decode cX7_rulesThatTell 138 = .ok (.iload 12, 2) := by decide +kernel
theorem dX7_rulesThatTell_140 : decode cX7_rulesThatTell 140 = .ok (.iadd, 1) := by decide +kernel
theorem dX7_rulesThatTell_141 : decode cX7_rulesThatTell 141 = .ok (.invokevirtual 346, 3) := by decide +kernel
theorem dX7_rulesThatTell_144 : decode cX7_rulesThatTell 144 = .ok (.aload_n 1, 1) := by decide +kernel
theorem dX7_rulesThatTell_145 : decode cX7_rulesThatTell 145 = .ok (.getfield 86, 3) := by decide +kernel
theorem dX7_rulesThatTell_148 : decode cX7_rulesThatTell 148 = .ok (.iload_n 2, 1) := by decide +kernel
theorem dX7_rulesThatTell_149 : decode cX7_rulesThatTell 149 = .ok (.iload 12, 2) := by decide +kernel
theorem dX7_rulesThatTell_151 : decode cX7_rulesThatTell 151 = .ok (.iadd, 1) := by decide +kernel
theorem dX7_rulesThatTell_152 : decode cX7_rulesThatTell 152 = .ok (.iaload, 1) := by decide +kernel
theorem dX7_rulesThatTell_153 : decode cX7_rulesThatTell 153 = .ok (.if_icmp .ne 7, 3) := by decide +kernel
theorem dX7_rulesThatTell_156 : decode cX7_rulesThatTell 156 = .ok (.iconst 1, 1) := by decide +kernel
theorem dX7_rulesThatTell_157 : decode cX7_rulesThatTell 157 = .ok (.goto 4, 3) := by decide +kernel
theorem dX7_rulesThatTell_160 : decode cX7_rulesThatTell 160 = .ok (.iconst 0, 1) := by decide +kernel
theorem dX7_rulesThatTell_161 : decode cX7_rulesThatTell 161 = .ok (.istore 11, 2) := by decide +kernel
theorem dX7_rulesThatTell_163 : decode cX7_rulesThatTell 163 = .ok (.iinc 12 1, 3) := by decide +kernel
theorem dX7_rulesThatTell_166 : decode cX7_rulesThatTell 166 = .ok (.goto (-59), 3) := by decide +kernel
theorem dX7_rulesThatTell_169 : decode cX7_rulesThatTell 169 = .ok (.iload 6, 2) := by decide +kernel
theorem dX7_rulesThatTell_171 : decode cX7_rulesThatTell 171 = .ok (.iload 11, 2) := by decide +kernel
theorem dX7_rulesThatTell_173 : decode cX7_rulesThatTell 173 = .ok (.invokestatic 180, 3) := by decide +kernel
theorem dX7_rulesThatTell_176 : decode cX7_rulesThatTell 176 = .ok (.iload 7, 2) := by decide +kernel
theorem dX7_rulesThatTell_178 : decode cX7_rulesThatTell 178 = .ok (.ishl, 1) := by decide +kernel
theorem dX7_rulesThatTell_179 : decode cX7_rulesThatTell 179 = .ok (.ior, 1) := by decide +kernel
theorem dX7_rulesThatTell_180 : decode cX7_rulesThatTell 180 = .ok (.istore 6, 2) := by decide +kernel
theorem dX7_rulesThatTell_182 : decode cX7_rulesThatTell 182 = .ok (.iinc 7 1, 3) := by decide +kernel
theorem dX7_rulesThatTell_185 : decode cX7_rulesThatTell 185 = .ok (.goto (-153), 3) := by decide +kernel
theorem dX7_rulesThatTell_188 : decode cX7_rulesThatTell 188 = .ok (.iload 6, 2) := by decide +kernel
theorem dX7_rulesThatTell_190 : decode cX7_rulesThatTell 190 = .ok (.ireturn, 1) := by decide +kernel
set_option maxRecDepth 20000 in
theorem ggX7_kindsThatFit_X2_secretIn : GoodIn wsX7_kindsThatFit wsX2_secretIn := goodIn_r _ [6, 7, 8, 9, 10, 11, 12, 13, 14, 5, 15, 16, 17, 18, 19, 53, 54, 55, 56, 57, 58, 59, 60, 61, 62, 63, 64, 65, 66, 67, 68] (by decide +kernel) (by decide +kernel)
set_option maxRecDepth 20000 in
theorem gX7_kindsThatFit_X2_secretIn : GoodIn wsX7_kindsThatFit (wsV RX7 153 RX2 yX2_secretIn wsX2_secretIn) := goodIn_app (goodIn_of _ (by decide +kernel)) ggX7_kindsThatFit_X2_secretIn
set_option maxRecDepth 20000 in
theorem ggX7_kindsThatFit_X7_fitsTold : GoodIn wsX7_kindsThatFit wsX7_fitsTold := goodIn_r _ [23, 1, 24, 25, 26, 27, 28, 29, 30, 5, 31, 32, 33, 34, 35, 36, 37, 38, 39, 40, 41, 42, 18, 43, 44, 45, 46, 47, 48, 49, 50, 51, 52, 53, 54, 55, 56, 57, 58, 59, 60, 61, 62, 63, 64, 65, 66, 67, 68, 69, 70, 71] (by decide +kernel) (by decide +kernel)
set_option maxRecDepth 20000 in
theorem gX7_kindsThatFit_X7_fitsTold : GoodIn wsX7_kindsThatFit (wsV RX7 350 RX7 yX7_fitsTold wsX7_fitsTold) := goodIn_app (goodIn_of _ (by decide +kernel)) ggX7_kindsThatFit_X7_fitsTold
set_option maxRecDepth 20000 in
theorem ggX7_kindsThatFit_X7_bit : GoodIn wsX7_kindsThatFit wsX7_bit := goodIn_r _ [43] (by decide +kernel) (by decide +kernel)
set_option maxRecDepth 20000 in
theorem gX7_kindsThatFit_X7_bit : GoodIn wsX7_kindsThatFit (va_wsS RX7 180 yX7_bit wsX7_bit) := goodIn_app (goodIn_of _ (by decide +kernel)) ggX7_kindsThatFit_X7_bit
theorem dX7_kindsThatFit_0 : decode cX7_kindsThatFit 0 = .ok (.aload_n 0, 1) := by decide +kernel
theorem dX7_kindsThatFit_1 : decode cX7_kindsThatFit 1 = .ok (.getfield 25, 3) := by decide +kernel
theorem dX7_kindsThatFit_4 : decode cX7_kindsThatFit 4 = .ok (.iconst 0, 1) := by decide +kernel
theorem dX7_kindsThatFit_5 : decode cX7_kindsThatFit 5 = .ok (.invokevirtual 153, 3) := by decide +kernel
theorem dX7_kindsThatFit_8 : decode cX7_kindsThatFit 8 = .ok (.istore_n 3, 1) := by decide +kernel
theorem dX7_kindsThatFit_9 : decode cX7_kindsThatFit 9 = .ok (.iconst 0, 1) := by decide +kernel
theorem dX7_kindsThatFit_10 : decode cX7_kindsThatFit 10 = .ok (.istore 4, 2) := by decide +kernel
theorem dX7_kindsThatFit_12 : decode cX7_kindsThatFit 12 = .ok (.iconst 1, 1) := by decide +kernel
theorem dX7_kindsThatFit_13 : decode cX7_kindsThatFit 13 = .ok (.istore 5, 2) := by decide +kernel
theorem dX7_kindsThatFit_15 : decode cX7_kindsThatFit 15 = .ok (.iload 5, 2) := by decide +kernel
theorem dX7_kindsThatFit_17 : decode cX7_kindsThatFit 17 = .ok (.iconst 5, 1) := by decide +kernel
theorem dX7_kindsThatFit_18 : decode cX7_kindsThatFit 18 = .ok (.if_icmp .gt 29, 3) := by decide +kernel
theorem dX7_kindsThatFit_21 : decode cX7_kindsThatFit 21 = .ok (.iload 4, 2) := by decide +kernel
theorem dX7_kindsThatFit_23 : decode cX7_kindsThatFit 23 = .ok (.aload_n 0, 1) := by decide +kernel
theorem dX7_kindsThatFit_24 : decode cX7_kindsThatFit 24 = .ok (.iload 5, 2) := by decide +kernel
theorem dX7_kindsThatFit_26 : decode cX7_kindsThatFit 26 = .ok (.iload_n 3, 1) := by decide +kernel
theorem dX7_kindsThatFit_27 : decode cX7_kindsThatFit 27 = .ok (.aload_n 1, 1) := by decide +kernel
theorem dX7_kindsThatFit_28 : decode cX7_kindsThatFit 28 = .ok (.iload_n 2, 1) := by decide +kernel
theorem dX7_kindsThatFit_29 : decode cX7_kindsThatFit 29 = .ok (.invokevirtual 350, 3) := by decide +kernel
theorem dX7_kindsThatFit_32 : decode cX7_kindsThatFit 32 = .ok (.invokestatic 180, 3) := by decide +kernel
theorem dX7_kindsThatFit_35 : decode cX7_kindsThatFit 35 = .ok (.iload 5, 2) := by decide +kernel
theorem dX7_kindsThatFit_37 : decode cX7_kindsThatFit 37 = .ok (.ishl, 1) := by decide +kernel
theorem dX7_kindsThatFit_38 : decode cX7_kindsThatFit 38 = .ok (.ior, 1) := by decide +kernel
theorem dX7_kindsThatFit_39 : decode cX7_kindsThatFit 39 = .ok (.istore 4, 2) := by decide +kernel
theorem dX7_kindsThatFit_41 : decode cX7_kindsThatFit 41 = .ok (.iinc 5 1, 3) := by decide +kernel
theorem dX7_kindsThatFit_44 : decode cX7_kindsThatFit 44 = .ok (.goto (-29), 3) := by decide +kernel
theorem dX7_kindsThatFit_47 : decode cX7_kindsThatFit 47 = .ok (.iload 4, 2) := by decide +kernel
theorem dX7_kindsThatFit_49 : decode cX7_kindsThatFit 49 = .ok (.ireturn, 1) := by decide +kernel
set_option maxRecDepth 20000 in
theorem ggX7_secretsThatFit_X7_fitsTold : GoodIn wsX7_secretsThatFit wsX7_fitsTold := goodIn_r _ [7, 1, 2, 8, 9, 10, 11, 12, 13, 14, 15, 16, 17, 18, 19, 20, 21, 22, 23, 24, 25, 26, 6, 27, 28, 29, 30, 31, 32, 33, 34, 35, 36, 37, 38, 39, 40, 41, 42, 43, 44, 45, 46, 47, 48, 49, 50, 51, 52, 53, 54, 55] (by decide +kernel) (by decide +kernel)
set_option maxRecDepth 20000 in
theorem gX7_secretsThatFit_X7_fitsTold : GoodIn wsX7_secretsThatFit (wsV RX7 350 RX7 yX7_fitsTold wsX7_fitsTold) := goodIn_app (goodIn_of _ (by decide +kernel)) ggX7_secretsThatFit_X7_fitsTold
set_option maxRecDepth 20000 in
theorem ggX7_secretsThatFit_X7_bit : GoodIn wsX7_secretsThatFit wsX7_bit := goodIn_r _ [27] (by decide +kernel) (by decide +kernel)
set_option maxRecDepth 20000 in
theorem gX7_secretsThatFit_X7_bit : GoodIn wsX7_secretsThatFit (va_wsS RX7 180 yX7_bit wsX7_bit) := goodIn_app (goodIn_of _ (by decide +kernel)) ggX7_secretsThatFit_X7_bit
theorem dX7_secretsThatFit_0 : decode cX7_secretsThatFit 0 = .ok (.iconst 0, 1) := by decide +kernel
theorem dX7_secretsThatFit_1 : decode cX7_secretsThatFit 1 = .ok (.istore 4, 2) := by decide +kernel
theorem dX7_secretsThatFit_3 : decode cX7_secretsThatFit 3 = .ok (.iconst 0, 1) := by decide +kernel
theorem dX7_secretsThatFit_4 : decode cX7_secretsThatFit 4 = .ok (.istore 5, 2) := by decide +kernel
theorem dX7_secretsThatFit_6 : decode cX7_secretsThatFit 6 = .ok (.iload 5, 2) := by decide +kernel
theorem dX7_secretsThatFit_8 : decode cX7_secretsThatFit 8 = .ok (.aload_n 0, 1) := by decide +kernel
theorem dX7_secretsThatFit_9 : decode cX7_secretsThatFit 9 = .ok (.getfield 25, 3) := by decide +kernel
theorem dX7_secretsThatFit_12 : decode cX7_secretsThatFit 12 = .ok (.getfield 130, 3) := by decide +kernel
theorem dX7_secretsThatFit_15 : decode cX7_secretsThatFit 15 = .ok (.if_icmp .ge 29, 3) := by decide +kernel
theorem dX7_secretsThatFit_18 : decode cX7_secretsThatFit 18 = .ok (.iload 4, 2) := by decide +kernel
theorem dX7_secretsThatFit_20 : decode cX7_secretsThatFit 20 = .ok (.aload_n 0, 1) := by decide +kernel
theorem dX7_secretsThatFit_21 : decode cX7_secretsThatFit 21 = .ok (.iload_n 1, 1) := by decide +kernel
theorem dX7_secretsThatFit_22 : decode cX7_secretsThatFit 22 = .ok (.iload 5, 2) := by decide +kernel
theorem dX7_secretsThatFit_24 : decode cX7_secretsThatFit 24 = .ok (.aload_n 2, 1) := by decide +kernel
theorem dX7_secretsThatFit_25 : decode cX7_secretsThatFit 25 = .ok (.iload_n 3, 1) := by decide +kernel
theorem dX7_secretsThatFit_26 : decode cX7_secretsThatFit 26 = .ok (.invokevirtual 350, 3) := by decide +kernel
theorem dX7_secretsThatFit_29 : decode cX7_secretsThatFit 29 = .ok (.invokestatic 180, 3) := by decide +kernel
theorem dX7_secretsThatFit_32 : decode cX7_secretsThatFit 32 = .ok (.iload 5, 2) := by decide +kernel
theorem dX7_secretsThatFit_34 : decode cX7_secretsThatFit 34 = .ok (.ishl, 1) := by decide +kernel
theorem dX7_secretsThatFit_35 : decode cX7_secretsThatFit 35 = .ok (.ior, 1) := by decide +kernel
theorem dX7_secretsThatFit_36 : decode cX7_secretsThatFit 36 = .ok (.istore 4, 2) := by decide +kernel
theorem dX7_secretsThatFit_38 : decode cX7_secretsThatFit 38 = .ok (.iinc 5 1, 3) := by decide +kernel
theorem dX7_secretsThatFit_41 : decode cX7_secretsThatFit 41 = .ok (.goto (-35), 3) := by decide +kernel
theorem dX7_secretsThatFit_44 : decode cX7_secretsThatFit 44 = .ok (.iload 4, 2) := by decide +kernel
theorem dX7_secretsThatFit_46 : decode cX7_secretsThatFit 46 = .ok (.ireturn, 1) := by decide +kernel
set_option maxRecDepth 20000 in
theorem ggX7_fitsTold_X2_wouldTake : GoodIn wsX7_fitsTold wsX2_wouldTake := goodIn_r _ [10, 11, 12, 13, 9, 14, 15, 16, 17, 18, 19, 33, 34, 35, 36, 37, 38, 39, 40] (by decide +kernel) (by decide +kernel)
set_option maxRecDepth 20000 in
theorem gX7_fitsTold_X2_wouldTake : GoodIn wsX7_fitsTold (wsV RX7 354 RX2 yX2_wouldTake wsX2_wouldTake) := goodIn_app (goodIn_of _ (by decide +kernel)) ggX7_fitsTold_X2_wouldTake
set_option maxRecDepth 20000 in
theorem ggX7_fitsTold_X7_bit : GoodIn wsX7_fitsTold wsX7_bit := goodIn_r _ [23] (by decide +kernel) (by decide +kernel)
set_option maxRecDepth 20000 in
theorem gX7_fitsTold_X7_bit : GoodIn wsX7_fitsTold (va_wsS RX7 180 yX7_bit wsX7_bit) := goodIn_app (goodIn_of _ (by decide +kernel)) ggX7_fitsTold_X7_bit
theorem dX7_fitsTold_0 : decode cX7_fitsTold 0 = .ok (.iconst 0, 1) := by decide +kernel
theorem dX7_fitsTold_1 : decode cX7_fitsTold 1 = .ok (.istore 5, 2) := by decide +kernel
theorem dX7_fitsTold_3 : decode cX7_fitsTold 3 = .ok (.iload 5, 2) := by decide +kernel
theorem dX7_fitsTold_5 : decode cX7_fitsTold 5 = .ok (.aload_n 0, 1) := by decide +kernel
theorem dX7_fitsTold_6 : decode cX7_fitsTold 6 = .ok (.getfield 25, 3) := by decide +kernel
theorem dX7_fitsTold_9 : decode cX7_fitsTold 9 = .ok (.getfield 130, 3) := by decide +kernel
theorem dX7_fitsTold_12 : decode cX7_fitsTold 12 = .ok (.if_icmp .ge 48, 3) := by decide +kernel
theorem dX7_fitsTold_15 : decode cX7_fitsTold 15 = .ok (.aload_n 0, 1) := by decide +kernel
theorem dX7_fitsTold_16 : decode cX7_fitsTold 16 = .ok (.getfield 25, 3) := by decide +kernel
theorem dX7_fitsTold_19 : decode cX7_fitsTold 19 = .ok (.iload_n 1, 1) := by decide +kernel
theorem dX7_fitsTold_20 : decode cX7_fitsTold 20 = .ok (.iload 5, 2) := by decide +kernel
theorem dX7_fitsTold_22 : decode cX7_fitsTold 22 = .ok (.iload_n 2, 1) := by decide +kernel
theorem dX7_fitsTold_23 : decode cX7_fitsTold 23 = .ok (.aload_n 0, 1) := by decide +kernel
theorem dX7_fitsTold_24 : decode cX7_fitsTold 24 = .ok (.getfield 25, 3) := by decide +kernel
theorem dX7_fitsTold_27 : decode cX7_fitsTold 27 = .ok (.getfield 137, 3) := by decide +kernel
theorem dX7_fitsTold_30 : decode cX7_fitsTold 30 = .ok (.getfield 141, 3) := by decide +kernel
theorem dX7_fitsTold_33 : decode cX7_fitsTold 33 = .ok (.invokevirtual 354, 3) := by decide +kernel
theorem dX7_fitsTold_36 : decode cX7_fitsTold 36 = .ok (.invokestatic 180, 3) := by decide +kernel
theorem dX7_fitsTold_39 : decode cX7_fitsTold 39 = .ok (.aload_n 3, 1) := by decide +kernel
theorem dX7_fitsTold_40 : decode cX7_fitsTold 40 = .ok (.getfield 86, 3) := by decide +kernel
theorem dX7_fitsTold_43 : decode cX7_fitsTold 43 = .ok (.iload 4, 2) := by decide +kernel
theorem dX7_fitsTold_45 : decode cX7_fitsTold 45 = .ok (.iload 5, 2) := by decide +kernel
theorem dX7_fitsTold_47 : decode cX7_fitsTold 47 = .ok (.iadd, 1) := by decide +kernel
theorem dX7_fitsTold_48 : decode cX7_fitsTold 48 = .ok (.iaload, 1) := by decide +kernel
theorem dX7_fitsTold_49 : decode cX7_fitsTold 49 = .ok (.if_icmp .eq 5, 3) := by decide +kernel
theorem dX7_fitsTold_52 : decode cX7_fitsTold 52 = .ok (.iconst 0, 1) := by decide +kernel
theorem dX7_fitsTold_53 : decode cX7_fitsTold 53 = .ok (.ireturn, 1) := by decide +kernel
theorem dX7_fitsTold_54 : decode cX7_fitsTold 54 = .ok (.iinc 5 1, 3) := by decide +kernel
theorem dX7_fitsTold_57 : decode cX7_fitsTold 57 = .ok (.goto (-54), 3) := by decide +kernel
theorem dX7_fitsTold_60 : decode cX7_fitsTold 60 = .ok (.iconst 1, 1) := by decide +kernel
theorem dX7_fitsTold_61 : decode cX7_fitsTold 61 = .ok (.ireturn, 1) := by decide +kernel
theorem dX7_bit_0 : decode cX7_bit 0 = .ok (.iload_n 0, 1) := by decide +kernel
theorem dX7_bit_1 : decode cX7_bit 1 = .ok (.ifCond .eq 7, 3) := by decide +kernel
theorem dX7_bit_4 : decode cX7_bit 4 = .ok (.iconst 1, 1) := by decide +kernel
theorem dX7_bit_5 : decode cX7_bit 5 = .ok (.goto 4, 3) := by decide +kernel
theorem dX7_bit_8 : decode cX7_bit 8 = .ok (.iconst 0, 1) := by decide +kernel
theorem dX7_bit_9 : decode cX7_bit 9 = .ok (.ireturn, 1) := by decide +kernel
theorem dX7_rest_0 : decode cX7_rest 0 = .ok (.iload_n 1, 1) := by decide +kernel
theorem dX7_rest_1 : decode cX7_rest 1 = .ok (.ifCond .le 9, 3) := by decide +kernel
theorem dX7_rest_4 : decode cX7_rest 4 = .ok (.iload_n 0, 1) := by decide +kernel
theorem dX7_rest_5 : decode cX7_rest 5 = .ok (.iload_n 1, 1) := by decide +kernel
theorem dX7_rest_6 : decode cX7_rest 6 = .ok (.irem, 1) := by decide +kernel
theorem dX7_rest_7 : decode cX7_rest 7 = .ok (.goto 4, 3) := by decide +kernel
theorem dX7_rest_10 : decode cX7_rest 10 = .ok (.iconst 0, 1) := by decide +kernel
theorem dX7_rest_11 : decode cX7_rest 11 = .ok (.ireturn, 1) := by decide +kernel
theorem dX7_lowest_0 : decode cX7_lowest 0 = .ok (.iload_n 1, 1) := by decide +kernel
theorem dX7_lowest_1 : decode cX7_lowest 1 = .ok (.ifCond .le 9, 3) := by decide +kernel
theorem dX7_lowest_4 : decode cX7_lowest 4 = .ok (.iload_n 0, 1) := by decide +kernel
theorem dX7_lowest_5 : decode cX7_lowest 5 = .ok (.iload_n 1, 1) := by decide +kernel
theorem dX7_lowest_6 : decode cX7_lowest 6 = .ok (.idiv, 1) := by decide +kernel
theorem dX7_lowest_7 : decode cX7_lowest 7 = .ok (.goto 4, 3) := by decide +kernel
theorem dX7_lowest_10 : decode cX7_lowest 10 = .ok (.iload_n 0, 1) := by decide +kernel
theorem dX7_lowest_11 : decode cX7_lowest 11 = .ok (.ireturn, 1) := by decide +kernel
theorem dX7_commonDivisor_0 : decode cX7_commonDivisor 0 = .ok (.iload_n 1, 1) := by decide +kernel
theorem dX7_commonDivisor_1 : decode cX7_commonDivisor 1 = .ok (.istore_n 2, 1) := by decide +kernel
theorem dX7_commonDivisor_2 : decode cX7_commonDivisor 2 = .ok (.iload_n 2, 1) := by decide +kernel
theorem dX7_commonDivisor_3 : decode cX7_commonDivisor 3 = .ok (.iconst 1, 1) := by decide +kernel
theorem dX7_commonDivisor_4 : decode cX7_commonDivisor 4 = .ok (.if_icmp .le 23, 3) := by decide +kernel
theorem dX7_commonDivisor_7 : decode cX7_commonDivisor 7 = .ok (.iload_n 0, 1) := by decide +kernel
theorem dX7_commonDivisor_8 : decode cX7_commonDivisor 8 = .ok (.iload_n 2, 1) := by decide +kernel
theorem dX7_commonDivisor_9 : decode cX7_commonDivisor 9 = .ok (.irem, 1) := by decide +kernel
theorem dX7_commonDivisor_10 : decode cX7_commonDivisor 10 = .ok (.ifCond .ne 11, 3) := by decide +kernel
theorem dX7_commonDivisor_13 : decode cX7_commonDivisor 13 = .ok (.iload_n 1, 1) := by decide +kernel
theorem dX7_commonDivisor_14 : decode cX7_commonDivisor 14 = .ok (.iload_n 2, 1) := by decide +kernel
theorem dX7_commonDivisor_15 : decode cX7_commonDivisor 15 = .ok (.irem, 1) := by decide +kernel
theorem dX7_commonDivisor_16 : decode cX7_commonDivisor 16 = .ok (.ifCond .ne 5, 3) := by decide +kernel
theorem dX7_commonDivisor_19 : decode cX7_commonDivisor 19 = .ok (.iload_n 2, 1) := by decide +kernel
theorem dX7_commonDivisor_20 : decode cX7_commonDivisor 20 = .ok (.ireturn, 1) := by decide +kernel
theorem dX7_commonDivisor_21 : decode cX7_commonDivisor 21 = .ok (.iinc 2 (-1), 3) := by decide +kernel
theorem dX7_commonDivisor_24 : decode cX7_commonDivisor 24 = .ok (.goto (-22), 3) := by decide +kernel
theorem dX7_commonDivisor_27 : decode cX7_commonDivisor 27 = .ok (.iconst 1, 1) := by decide +kernel
theorem dX7_commonDivisor_28 : decode cX7_commonDivisor 28 = .ok (.ireturn, 1) := by decide +kernel
theorem dX8_init_0 : decode cX8_init 0 = .ok (.aload_n 0, 1) := by decide +kernel
theorem dX8_init_1 : decode cX8_init 1 = .ok (.invokespecial 1, 3) := by decide +kernel
theorem dX8_init_4 : decode cX8_init 4 = .ok (.aload_n 0, 1) := by decide +kernel
theorem dX8_init_5 : decode cX8_init 5 = .ok (.bipush 8, 2) := by decide +kernel
theorem dX8_init_7 : decode cX8_init 7 = .ok (.newarray .int, 2) := by decide +kernel
theorem dX8_init_9 : decode cX8_init 9 = .ok (.putfield 7, 3) := by decide +kernel
theorem dX8_init_12 : decode cX8_init 12 = .ok (.aload_n 0, 1) := by decide +kernel
theorem dX8_init_13 : decode cX8_init 13 = .ok (.bipush 8, 2) := by decide +kernel
theorem dX8_init_15 : decode cX8_init 15 = .ok (.newarray .int, 2) := by decide +kernel
theorem dX8_init_17 : decode cX8_init 17 = .ok (.putfield 13, 3) := by decide +kernel
theorem dX8_init_20 : decode cX8_init 20 = .ok (.aload_n 0, 1) := by decide +kernel
theorem dX8_init_21 : decode cX8_init 21 = .ok (.sipush 320, 3) := by decide +kernel
theorem dX8_init_24 : decode cX8_init 24 = .ok (.newarray .int, 2) := by decide +kernel
theorem dX8_init_26 : decode cX8_init 26 = .ok (.putfield 16, 3) := by decide +kernel
theorem dX8_init_29 : decode cX8_init 29 = .ok (.aload_n 0, 1) := by decide +kernel
theorem dX8_init_30 : decode cX8_init 30 = .ok (.bipush 40, 2) := by decide +kernel
theorem dX8_init_32 : decode cX8_init 32 = .ok (.newarray .int, 2) := by decide +kernel
theorem dX8_init_34 : decode cX8_init 34 = .ok (.putfield 19, 3) := by decide +kernel
theorem dX8_init_37 : decode cX8_init 37 = .ok (.aload_n 0, 1) := by decide +kernel
theorem dX8_init_38 : decode cX8_init 38 = .ok (.bipush 100, 2) := by decide +kernel
theorem dX8_init_40 : decode cX8_init 40 = .ok (.newarray .int, 2) := by decide +kernel
theorem dX8_init_42 : decode cX8_init 42 = .ok (.putfield 22, 3) := by decide +kernel
theorem dX8_init_45 : decode cX8_init 45 = .ok (.aload_n 0, 1) := by decide +kernel
theorem dX8_init_46 : decode cX8_init 46 = .ok (.bipush 65, 2) := by decide +kernel
theorem dX8_init_48 : decode cX8_init 48 = .ok (.newarray .int, 2) := by decide +kernel
theorem dX8_init_50 : decode cX8_init 50 = .ok (.putfield 25, 3) := by decide +kernel
theorem dX8_init_53 : decode cX8_init 53 = .ok (.aload_n 0, 1) := by decide +kernel
theorem dX8_init_54 : decode cX8_init 54 = .ok (.bipush 65, 2) := by decide +kernel
theorem dX8_init_56 : decode cX8_init 56 = .ok (.newarray .int, 2) := by decide +kernel
theorem dX8_init_58 : decode cX8_init 58 = .ok (.putfield 28, 3) := by decide +kernel
theorem dX8_init_61 : decode cX8_init 61 = .ok (.aload_n 0, 1) := by decide +kernel
theorem dX8_init_62 : decode cX8_init 62 = .ok (.bipush 65, 2) := by decide +kernel
theorem dX8_init_64 : decode cX8_init 64 = .ok (.newarray .int, 2) := by decide +kernel
theorem dX8_init_66 : decode cX8_init 66 = .ok (.putfield 31, 3) := by decide +kernel
theorem dX8_init_69 : decode cX8_init 69 = .ok (.aload_n 0, 1) := by decide +kernel
theorem dX8_init_70 : decode cX8_init 70 = .ok (.sipush 1560, 3) := by decide +kernel
theorem dX8_init_73 : decode cX8_init 73 = .ok (.newarray .int, 2) := by decide +kernel
theorem dX8_init_75 : decode cX8_init 75 = .ok (.putfield 34, 3) := by decide +kernel
theorem dX8_init_78 : decode cX8_init 78 = .ok (.aload_n 0, 1) := by decide +kernel
theorem dX8_init_79 : decode cX8_init 79 = .ok (.sipush 130, 3) := by decide +kernel
theorem dX8_init_82 : decode cX8_init 82 = .ok (.newarray .int, 2) := by decide +kernel
theorem dX8_init_84 : decode cX8_init 84 = .ok (.putfield 37, 3) := by decide +kernel
theorem dX8_init_87 : decode cX8_init 87 = .ok (.aload_n 0, 1) := by decide +kernel
theorem dX8_init_88 : decode cX8_init 88 = .ok (.iconst 2, 1) := by decide +kernel
theorem dX8_init_89 : decode cX8_init 89 = .ok (.newarray .boolean, 2) := by decide +kernel
theorem dX8_init_91 : decode cX8_init 91 = .ok (.putfield 40, 3) := by decide +kernel
theorem dX8_init_94 : decode cX8_init 94 = .ok (.aload_n 0, 1) := by decide +kernel
theorem dX8_init_95 : decode cX8_init 95 = .ok (.bipush 64, 2) := by decide +kernel
theorem dX8_init_97 : decode cX8_init 97 = .ok (.newarray .int, 2) := by decide +kernel
theorem dX8_init_99 : decode cX8_init 99 = .ok (.putfield 44, 3) := by decide +kernel
theorem dX8_init_102 : decode cX8_init 102 = .ok (.aload_n 0, 1) := by decide +kernel
theorem dX8_init_103 : decode cX8_init 103 = .ok (.bipush 16, 2) := by decide +kernel
theorem dX8_init_105 : decode cX8_init 105 = .ok (.newarray .int, 2) := by decide +kernel
theorem dX8_init_107 : decode cX8_init 107 = .ok (.putfield 47, 3) := by decide +kernel
theorem dX8_init_110 : decode cX8_init 110 = .ok (.iconst 0, 1) := by decide +kernel
theorem dX8_init_111 : decode cX8_init 111 = .ok (.istore_n 1, 1) := by decide +kernel
theorem dX8_init_112 : decode cX8_init 112 = .ok (.iload_n 1, 1) := by decide +kernel
theorem dX8_init_113 : decode cX8_init 113 = .ok (.bipush 8, 2) := by decide +kernel
theorem dX8_init_115 : decode cX8_init 115 = .ok (.if_icmp .ge 17, 3) := by decide +kernel
theorem dX8_init_118 : decode cX8_init 118 = .ok (.aload_n 0, 1) := by decide +kernel
theorem dX8_init_119 : decode cX8_init 119 = .ok (.getfield 7, 3) := by decide +kernel
theorem dX8_init_122 : decode cX8_init 122 = .ok (.iload_n 1, 1) := by decide +kernel
theorem dX8_init_123 : decode cX8_init 123 = .ok (.ldc 50, 2) := by decide +kernel
theorem dX8_init_125 : decode cX8_init 125 = .ok (.iastore, 1) := by decide +kernel
theorem dX8_init_126 : decode cX8_init 126 = .ok (.iinc 1 1, 3) := by decide +kernel
theorem dX8_init_129 : decode cX8_init 129 = .ok (.goto (-17), 3) := by decide +kernel
theorem dX8_init_132 : decode cX8_init 132 = .ok (.return_, 1) := by decide +kernel
theorem dX8_in_0 : decode cX8_in 0 = .ok (.iload_n 0, 1) := by decide +kernel
theorem dX8_in_1 : decode cX8_in 1 = .ok (.iload_n 1, 1) := by decide +kernel
theorem dX8_in_2 : decode cX8_in 2 = .ok (.if_icmp .lt 12, 3) := by decide +kernel
theorem dX8_in_5 : decode cX8_in 5 = .ok (.iload_n 0, 1) := by decide +kernel
theorem dX8_in_6 : decode cX8_in 6 = .ok (.iload_n 2, 1) := by decide +kernel
theorem dX8_in_7 : decode cX8_in 7 = .ok (.if_icmp .gt 7, 3) := by decide +kernel
theorem dX8_in_10 : decode cX8_in 10 = .ok (.iconst 1, 1) := by decide +kernel
theorem dX8_in_11 : decode cX8_in 11 = .ok (.goto 4, 3) := by decide +kernel
theorem dX8_in_14 : decode cX8_in 14 = .ok (.iconst 0, 1) := by decide +kernel
theorem dX8_in_15 : decode cX8_in 15 = .ok (.ireturn, 1) := by decide +kernel
theorem dX8_has_0 : decode cX8_has 0 = .ok (.iload_n 0, 1) := by decide +kernel
theorem dX8_has_1 : decode cX8_has 1 = .ok (.iload_n 1, 1) := by decide +kernel
theorem dX8_has_2 : decode cX8_has 2 = .ok (.ishr, 1) := by decide +kernel
theorem dX8_has_3 : decode cX8_has 3 = .ok (.iconst 1, 1) := by decide +kernel
theorem dX8_has_4 : decode cX8_has 4 = .ok (.iand, 1) := by decide +kernel
theorem dX8_has_5 : decode cX8_has 5 = .ok (.iconst 1, 1) := by decide +kernel
theorem dX8_has_6 : decode cX8_has 6 = .ok (.if_icmp .ne 7, 3) := by decide +kernel
theorem dX8_has_9 : decode cX8_has 9 = .ok (.iconst 1, 1) := by decide +kernel
theorem dX8_has_10 : decode cX8_has 10 = .ok (.goto 4, 3) := by decide +kernel
theorem dX8_has_13 : decode cX8_has 13 = .ok (.iconst 0, 1) := by decide +kernel
theorem dX8_has_14 : decode cX8_has 14 = .ok (.ireturn, 1) := by decide +kernel
theorem dX8_ones_0 : decode cX8_ones 0 = .ok (.iconst 0, 1) := by decide +kernel
theorem dX8_ones_1 : decode cX8_ones 1 = .ok (.istore_n 1, 1) := by decide +kernel
theorem dX8_ones_2 : decode cX8_ones 2 = .ok (.iconst 0, 1) := by decide +kernel
theorem dX8_ones_3 : decode cX8_ones 3 = .ok (.istore_n 2, 1) := by decide +kernel
theorem dX8_ones_4 : decode cX8_ones 4 = .ok (.iload_n 2, 1) := by decide +kernel
theorem dX8_ones_5 : decode cX8_ones 5 = .ok (.bipush 8, 2) := by decide +kernel
theorem dX8_ones_7 : decode cX8_ones 7 = .ok (.if_icmp .ge 17, 3) := by decide +kernel
theorem dX8_ones_10 : decode cX8_ones 10 = .ok (.iload_n 1, 1) := by decide +kernel
theorem dX8_ones_11 : decode cX8_ones 11 = .ok (.iload_n 0, 1) := by decide +kernel
theorem dX8_ones_12 : decode cX8_ones 12 = .ok (.iload_n 2, 1) := by decide +kernel
theorem dX8_ones_13 : decode cX8_ones 13 = .ok (.ishr, 1) := by decide +kernel
theorem dX8_ones_14 : decode cX8_ones 14 = .ok (.iconst 1, 1) := by decide +kernel
theorem dX8_ones_15 : decode cX8_ones 15 = .ok (.iand, 1) := by decide +kernel
theorem dX8_ones_16 : decode cX8_ones 16 = .ok (.iadd, 1) := by decide +kernel
theorem dX8_ones_17 : decode cX8_ones 17 = .ok (.istore_n 1, 1) := by decide +kernel
theorem dX8_ones_18 : decode cX8_ones 18 = .ok (.iinc 2 1, 3) := by decide +kernel
theorem dX8_ones_21 : decode cX8_ones 21 = .ok (.goto (-17), 3) := by decide +kernel
theorem dX8_ones_24 : decode cX8_ones 24 = .ok (.iload_n 1, 1) := by decide +kernel
theorem dX8_ones_25 : decode cX8_ones 25 = .ok (.ireturn, 1) := by decide +kernel
theorem dX8_found_0 : decode cX8_found 0 = .ok (.aload_n 0, 1) := by decide +kernel
theorem dX8_found_1 : decode cX8_found 1 = .ok (.iload_n 1, 1) := by decide +kernel
theorem dX8_found_2 : decode cX8_found 2 = .ok (.putfield 51, 3) := by decide +kernel
theorem dX8_found_5 : decode cX8_found 5 = .ok (.ldc 55, 2) := by decide +kernel
theorem dX8_found_7 : decode cX8_found 7 = .ok (.iload_n 1, 1) := by decide +kernel
theorem dX8_found_8 : decode cX8_found 8 = .ok (.isub, 1) := by decide +kernel
theorem dX8_found_9 : decode cX8_found 9 = .ok (.ireturn, 1) := by decide +kernel
theorem dX8_well_0 : decode cX8_well 0 = .ok (.aload_n 0, 1) := by decide +kernel
theorem dX8_well_1 : decode cX8_well 1 = .ok (.iconst 0, 1) := by decide +kernel
theorem dX8_well_2 : decode cX8_well 2 = .ok (.putfield 51, 3) := by decide +kernel
theorem dX8_well_5 : decode cX8_well 5 = .ok (.iload_n 1, 1) := by decide +kernel
theorem dX8_well_6 : decode cX8_well 6 = .ok (.ireturn, 1) := by decide +kernel
theorem dX8_copies_0 : decode cX8_copies 0 = .ok (.iconst 0, 1) := by decide +kernel
theorem dX8_copies_1 : decode cX8_copies 1 = .ok (.istore 4, 2) := by decide +kernel
theorem dX8_copies_3 : decode cX8_copies 3 = .ok (.iload 4, 2) := by decide +kernel
theorem dX8_copies_5 : decode cX8_copies 5 = .ok (.bipush 65, 2) := by decide +kernel
theorem dX8_copies_7 : decode cX8_copies 7 = .ok (.if_icmp .ge 21, 3) := by decide +kernel
theorem dX8_copies_10 : decode cX8_copies 10 = .ok (.aload_n 2, 1) := by decide +kernel
theorem dX8_copies_11 : decode cX8_copies 11 = .ok (.iload_n 3, 1) := by decide +kernel
theorem dX8_copies_12 : decode cX8_copies 12 = .ok (.iload 4, 2) := by decide +kernel
theorem dX8_copies_14 : decode cX8_copies 14 = .ok (.iadd, 1) := by decide +kernel
theorem dX8_copies_15 : decode cX8_copies 15 = .ok (.aload_n 0, 1) := by decide +kernel
theorem dX8_copies_16 : decode cX8_copies 16 = .ok (.iload_n 1, 1) := by decide +kernel
theorem dX8_copies_17 : decode cX8_copies 17 = .ok (.iload 4, 2) := by decide +kernel
theorem dX8_copies_19 : decode cX8_copies 19 = .ok (.iadd, 1) := by decide +kernel
theorem dX8_copies_20 : decode cX8_copies 20 = .ok (.iaload, 1) := by decide +kernel
theorem dX8_copies_21 : decode cX8_copies 21 = .ok (.iastore, 1) := by decide +kernel
theorem dX8_copies_22 : decode cX8_copies 22 = .ok (.iinc 4 1, 3) := by decide +kernel
theorem dX8_copies_25 : decode cX8_copies 25 = .ok (.goto (-22), 3) := by decide +kernel
theorem dX8_copies_28 : decode cX8_copies 28 = .ok (.return_, 1) := by decide +kernel
set_option maxRecDepth 20000 in
theorem ggX8_isRow_X8_in : GoodIn wsX8_isRow wsX8_in := goodIn_r _ [4] (by decide +kernel) (by decide +kernel)
set_option maxRecDepth 20000 in
theorem gX8_isRow_X8_in : GoodIn wsX8_isRow (va_wsS RX8 56 yX8_in wsX8_in) := goodIn_app (goodIn_of _ (by decide +kernel)) ggX8_isRow_X8_in
theorem dX8_isRow_0 : decode cX8_isRow 0 = .ok (.iload_n 0, 1) := by decide +kernel
theorem dX8_isRow_1 : decode cX8_isRow 1 = .ok (.iconst 0, 1) := by decide +kernel
theorem dX8_isRow_2 : decode cX8_isRow 2 = .ok (.bipush 7, 2) := by decide +kernel
theorem dX8_isRow_4 : decode cX8_isRow 4 = .ok (.invokestatic 56, 3) := by decide +kernel
theorem dX8_isRow_7 : decode cX8_isRow 7 = .ok (.ireturn, 1) := by decide +kernel
theorem dX8_isMissing_0 : decode cX8_isMissing 0 = .ok (.aload_n 0, 1) := by decide +kernel
theorem dX8_isMissing_1 : decode cX8_isMissing 1 = .ok (.getfield 7, 3) := by decide +kernel
theorem dX8_isMissing_4 : decode cX8_isMissing 4 = .ok (.iload_n 1, 1) := by decide +kernel
theorem dX8_isMissing_5 : decode cX8_isMissing 5 = .ok (.iaload, 1) := by decide +kernel
theorem dX8_isMissing_6 : decode cX8_isMissing 6 = .ok (.ldc 50, 2) := by decide +kernel
theorem dX8_isMissing_8 : decode cX8_isMissing 8 = .ok (.if_icmp .ne 7, 3) := by decide +kernel
theorem dX8_isMissing_11 : decode cX8_isMissing 11 = .ok (.iconst 1, 1) := by decide +kernel
theorem dX8_isMissing_12 : decode cX8_isMissing 12 = .ok (.goto 4, 3) := by decide +kernel
theorem dX8_isMissing_15 : decode cX8_isMissing 15 = .ok (.iconst 0, 1) := by decide +kernel
theorem dX8_isMissing_16 : decode cX8_isMissing 16 = .ok (.ireturn, 1) := by decide +kernel
theorem dX8_cut_0 : decode cX8_cut 0 = .ok (.iload_n 0, 1) := by decide +kernel
theorem dX8_cut_1 : decode cX8_cut 1 = .ok (.ifCond .ne 13, 3) := by decide +kernel
theorem dX8_cut_4 : decode cX8_cut 4 = .ok (.iload_n 1, 1) := by decide +kernel
theorem dX8_cut_5 : decode cX8_cut 5 = .ok (.bipush 24, 2) := by decide +kernel
theorem dX8_cut_7 : decode cX8_cut 7 = .ok (.ishl, 1) := by decide +kernel
theorem dX8_cut_8 : decode cX8_cut 8 = .ok (.bipush 24, 2) := by decide +kernel
theorem dX8_cut_10 : decode cX8_cut 10 = .ok (.ishr, 1) := by decide +kernel
theorem dX8_cut_11 : decode cX8_cut 11 = .ok (.goto 19, 3) := by decide +kernel
theorem dX8_cut_14 : decode cX8_cut 14 = .ok (.iload_n 0, 1) := by decide +kernel
theorem dX8_cut_15 : decode cX8_cut 15 = .ok (.iconst 1, 1) := by decide +kernel
theorem dX8_cut_16 : decode cX8_cut 16 = .ok (.if_icmp .ne 13, 3) := by decide +kernel
theorem dX8_cut_19 : decode cX8_cut 19 = .ok (.iload_n 1, 1) := by decide +kernel
theorem dX8_cut_20 : decode cX8_cut 20 = .ok (.bipush 16, 2) := by decide +kernel
theorem dX8_cut_22 : decode cX8_cut 22 = .ok (.ishl, 1) := by decide +kernel
theorem dX8_cut_23 : decode cX8_cut 23 = .ok (.bipush 16, 2) := by decide +kernel
theorem dX8_cut_25 : decode cX8_cut 25 = .ok (.ishr, 1) := by decide +kernel
theorem dX8_cut_26 : decode cX8_cut 26 = .ok (.goto 4, 3) := by decide +kernel
theorem dX8_cut_29 : decode cX8_cut 29 = .ok (.iload_n 1, 1) := by decide +kernel
theorem dX8_cut_30 : decode cX8_cut 30 = .ok (.ireturn, 1) := by decide +kernel
set_option maxRecDepth 20000 in
theorem ggX8_row_X8_isRow : GoodIn wsX8_row wsX8_isRow := goodIn_r _ [8, 9, 10, 7, 11] (by decide +kernel) (by decide +kernel)
set_option maxRecDepth 20000 in
theorem gX8_row_X8_isRow : GoodIn wsX8_row (va_wsS RX8 60 yX8_isRow wsX8_isRow) := goodIn_app (goodIn_of _ (by decide +kernel)) ggX8_row_X8_isRow
set_option maxRecDepth 20000 in
theorem ggX8_row_X8_in : GoodIn wsX8_row wsX8_in := goodIn_r _ [11] (by decide +kernel) (by decide +kernel)
set_option maxRecDepth 20000 in
theorem gX8_row_X8_in : GoodIn wsX8_row (va_wsS RX8 56 yX8_in wsX8_in) := goodIn_app (goodIn_of _ (by decide +kernel)) ggX8_row_X8_in
set_option maxRecDepth 20000 in
theorem ggX8_row_X8_found : GoodIn wsX8_row wsX8_found := goodIn_r _ [15, 16, 17, 22, 23, 24, 25, 26, 27, 28, 29, 30, 31, 32, 33, 34, 35, 36, 37, 38, 39, 40, 41, 42, 43, 44] (by decide +kernel) (by decide +kernel)
set_option maxRecDepth 20000 in
theorem gX8_row_X8_found : GoodIn wsX8_row (wsV RX8 65 RX8 yX8_found wsX8_found) := goodIn_app (goodIn_of _ (by decide +kernel)) ggX8_row_X8_found
set_option maxRecDepth 20000 in
theorem ggX8_row_X8_well : GoodIn wsX8_row wsX8_well := goodIn_r _ [21, 16, 22, 23, 24, 25, 26, 27, 28, 29, 30, 31, 32, 33, 34, 35, 36, 37, 38, 39, 40, 41, 42, 43, 44] (by decide +kernel) (by decide +kernel)
set_option maxRecDepth 20000 in
theorem gX8_row_X8_well : GoodIn wsX8_row (wsV RX8 69 RX8 yX8_well wsX8_well) := goodIn_app (goodIn_of _ (by decide +kernel)) ggX8_row_X8_well
theorem dX8_row_0 : decode cX8_row 0 = .ok (.iload_n 1, 1) := by decide +kernel
theorem dX8_row_1 : decode cX8_row 1 = .ok (.invokestatic 60, 3) := by decide +kernel
theorem dX8_row_4 : decode cX8_row 4 = .ok (.ifCond .eq 18, 3) := by decide +kernel
theorem dX8_row_7 : decode cX8_row 7 = .ok (.iload_n 2, 1) := by decide +kernel
theorem dX8_row_8 : decode cX8_row 8 = .ok (.iconst 0, 1) := by decide +kernel
theorem dX8_row_9 : decode cX8_row 9 = .ok (.iconst 2, 1) := by decide +kernel
theorem dX8_row_10 : decode cX8_row 10 = .ok (.invokestatic 56, 3) := by decide +kernel
theorem dX8_row_13 : decode cX8_row 13 = .ok (.ifCond .eq 9, 3) := by decide +kernel
theorem dX8_row_16 : decode cX8_row 16 = .ok (.iload_n 3, 1) := by decide +kernel
theorem dX8_row_17 : decode cX8_row 17 = .ok (.bipush 40, 2) := by decide +kernel
theorem dX8_row_19 : decode cX8_row 19 = .ok (.if_icmp .le 6, 3) := by decide +kernel
theorem dX8_row_22 : decode cX8_row 22 = .ok (.ldc 64, 2) := by decide +kernel
theorem dX8_row_24 : decode cX8_row 24 = .ok (.ireturn, 1) := by decide +kernel
theorem dX8_row_25 : decode cX8_row 25 = .ok (.iload_n 3, 1) := by decide +kernel
theorem dX8_row_26 : decode cX8_row 26 = .ok (.ifCond .ge 9, 3) := by decide +kernel
theorem dX8_row_29 : decode cX8_row 29 = .ok (.aload_n 0, 1) := by decide +kernel
theorem dX8_row_30 : decode cX8_row 30 = .ok (.iconst 4, 1) := by decide +kernel
theorem dX8_row_31 : decode cX8_row 31 = .ok (.invokevirtual 65, 3) := by decide +kernel
theorem dX8_row_34 : decode cX8_row 34 = .ok (.ireturn, 1) := by decide +kernel
theorem dX8_row_35 : decode cX8_row 35 = .ok (.aload_n 0, 1) := by decide +kernel
theorem dX8_row_36 : decode cX8_row 36 = .ok (.getfield 7, 3) := by decide +kernel
theorem dX8_row_39 : decode cX8_row 39 = .ok (.iload_n 1, 1) := by decide +kernel
theorem dX8_row_40 : decode cX8_row 40 = .ok (.iload_n 2, 1) := by decide +kernel
theorem dX8_row_41 : decode cX8_row 41 = .ok (.iastore, 1) := by decide +kernel
theorem dX8_row_42 : decode cX8_row 42 = .ok (.aload_n 0, 1) := by decide +kernel
theorem dX8_row_43 : decode cX8_row 43 = .ok (.getfield 13, 3) := by decide +kernel
theorem dX8_row_46 : decode cX8_row 46 = .ok (.iload_n 1, 1) := by decide +kernel
theorem dX8_row_47 : decode cX8_row 47 = .ok (.iload_n 3, 1) := by decide +kernel
theorem dX8_row_48 : decode cX8_row 48 = .ok (.iastore, 1) := by decide +kernel
theorem dX8_row_49 : decode cX8_row 49 = .ok (.iconst 0, 1) := by decide +kernel
theorem dX8_row_50 : decode cX8_row 50 = .ok (.istore 4, 2) := by decide +kernel
theorem dX8_row_52 : decode cX8_row 52 = .ok (.iload 4, 2) := by decide +kernel
theorem dX8_row_54 : decode cX8_row 54 = .ok (.bipush 40, 2) := by decide +kernel
theorem dX8_row_56 : decode cX8_row 56 = .ok (.if_icmp .ge 22, 3) := by decide +kernel
theorem dX8_row_59 : decode cX8_row 59 = .ok (.aload_n 0, 1) := by decide +kernel
theorem dX8_row_60 : decode cX8_row 60 = .ok (.getfield 16, 3) := by decide +kernel
theorem dX8_row_63 : decode cX8_row 63 = .ok (.bipush 40, 2) := by decide +kernel
theorem dX8_row_65 : decode cX8_row 65 = .ok (.iload_n 1, 1) := by decide +kernel
theorem dX8_row_66 : decode cX8_row 66 = .ok (.imul, 1) := by decide +kernel
theorem dX8_row_67 : decode cX8_row 67 = .ok (.iload 4, 2) := by decide +kernel
theorem dX8_row_69 : decode cX8_row 69 = .ok (.iadd, 1) := by decide +kernel
theorem dX8_row_70 : decode cX8_row 70 = .ok (.iconst 0, 1) := by decide +kernel
theorem dX8_row_71 : decode cX8_row 71 = .ok (.iastore, 1) := by decide +kernel
theorem dX8_row_72 : decode cX8_row 72 = .ok (.iinc 4 1, 3) := by decide +kernel
theorem dX8_row_75 : decode cX8_row 75 = .ok (.goto (-23), 3) := by decide +kernel
theorem dX8_row_78 : decode cX8_row 78 = .ok (.aload_n 0, 1) := by decide +kernel
theorem dX8_row_79 : decode cX8_row 79 = .ok (.iload_n 3, 1) := by decide +kernel
theorem dX8_row_80 : decode cX8_row 80 = .ok (.invokevirtual 69, 3) := by decide +kernel
theorem dX8_row_83 : decode cX8_row 83 = .ok (.ireturn, 1) := by decide +kernel
set_option maxRecDepth 20000 in
theorem ggX8_set_X8_isRow : GoodIn wsX8_set wsX8_isRow := goodIn_r _ [8, 9, 10, 7, 11] (by decide +kernel) (by decide +kernel)
set_option maxRecDepth 20000 in
theorem gX8_set_X8_isRow : GoodIn wsX8_set (va_wsS RX8 60 yX8_isRow wsX8_isRow) := goodIn_app (goodIn_of _ (by decide +kernel)) ggX8_set_X8_isRow
set_option maxRecDepth 20000 in
theorem ggX8_set_X8_isMissing : GoodIn wsX8_set wsX8_isMissing := goodIn_r _ [15, 4, 16, 30, 31, 32, 33, 34, 35, 36, 37, 38, 39, 40, 41, 42, 43, 44, 45, 46, 47, 48, 49, 50, 51, 52] (by decide +kernel) (by decide +kernel)
set_option maxRecDepth 20000 in
theorem gX8_set_X8_isMissing : GoodIn wsX8_set (wsV RX8 72 RX8 yX8_isMissing wsX8_isMissing) := goodIn_app (goodIn_of _ (by decide +kernel)) ggX8_set_X8_isMissing
set_option maxRecDepth 20000 in
theorem ggX8_set_X8_found : GoodIn wsX8_set wsX8_found := goodIn_r _ [20, 21, 22, 30, 31, 32, 33, 34, 35, 36, 37, 38, 39, 40, 41, 42, 43, 44, 45, 46, 47, 48, 49, 50, 51, 52] (by decide +kernel) (by decide +kernel)
set_option maxRecDepth 20000 in
theorem gX8_set_X8_found : GoodIn wsX8_set (wsV RX8 65 RX8 yX8_found wsX8_found) := goodIn_app (goodIn_of _ (by decide +kernel)) ggX8_set_X8_found
set_option maxRecDepth 20000 in
theorem ggX8_set_X8_in : GoodIn wsX8_set wsX8_in := goodIn_r _ [11] (by decide +kernel) (by decide +kernel)
set_option maxRecDepth 20000 in
theorem gX8_set_X8_in : GoodIn wsX8_set (va_wsS RX8 56 yX8_in wsX8_in) := goodIn_app (goodIn_of _ (by decide +kernel)) ggX8_set_X8_in
set_option maxRecDepth 20000 in
theorem ggX8_set_X8_cut : GoodIn wsX8_set wsX8_cut := goodIn_r _ [25] (by decide +kernel) (by decide +kernel)
set_option maxRecDepth 20000 in
theorem gX8_set_X8_cut : GoodIn wsX8_set (va_wsS RX8 75 yX8_cut wsX8_cut) := goodIn_app (goodIn_of _ (by decide +kernel)) ggX8_set_X8_cut
set_option maxRecDepth 20000 in
theorem ggX8_set_X8_well : GoodIn wsX8_set wsX8_well := goodIn_r _ [29, 21, 30, 31, 32, 33, 34, 35, 36, 37, 38, 39, 40, 41, 42, 43, 44, 45, 46, 47, 48, 49, 50, 51, 52] (by decide +kernel) (by decide +kernel)
set_option maxRecDepth 20000 in
theorem gX8_set_X8_well : GoodIn wsX8_set (wsV RX8 69 RX8 yX8_well wsX8_well) := goodIn_app (goodIn_of _ (by decide +kernel)) ggX8_set_X8_well
theorem dX8_set_0 : decode cX8_set 0 = .ok (.iload_n 1, 1) := by decide +kernel
theorem dX8_set_1 : decode cX8_set 1 = .ok (.invokestatic 60, 3) := by decide +kernel
theorem dX8_set_4 : decode cX8_set 4 = .ok (.ifCond .ne 6, 3) := by decide +kernel
theorem dX8_set_7 : decode cX8_set 7 = .ok (.ldc 64, 2) := by decide +kernel
theorem dX8_set_9 : decode cX8_set 9 = .ok (.ireturn, 1) := by decide +kernel
theorem dX8_set_10 : decode cX8_set 10 = .ok (.aload_n 0, 1) := by decide +kernel
theorem dX8_set_11 : decode cX8_set 11 = .ok (.iload_n 1, 1) := by decide +kernel
theorem dX8_set_12 : decode cX8_set 12 = .ok (.invokevirtual 72, 3) := by decide +kernel
theorem dX8_set_15 : decode cX8_set 15 = .ok (.ifCond .eq 9, 3) := by decide +kernel
theorem dX8_set_18 : decode cX8_set 18 = .ok (.aload_n 0, 1) := by decide +kernel
theorem dX8_set_19 : decode cX8_set 19 = .ok (.iconst 1, 1) := by decide +kernel
theorem dX8_set_20 : decode cX8_set 20 = .ok (.invokevirtual 65, 3) := by decide +kernel
theorem dX8_set_23 : decode cX8_set 23 = .ok (.ireturn, 1) := by decide +kernel
theorem dX8_set_24 : decode cX8_set 24 = .ok (.iload_n 2, 1) := by decide +kernel
theorem dX8_set_25 : decode cX8_set 25 = .ok (.iconst 0, 1) := by decide +kernel
theorem dX8_set_26 : decode cX8_set 26 = .ok (.aload_n 0, 1) := by decide +kernel
theorem dX8_set_27 : decode cX8_set 27 = .ok (.getfield 13, 3) := by decide +kernel
theorem dX8_set_30 : decode cX8_set 30 = .ok (.iload_n 1, 1) := by decide +kernel
theorem dX8_set_31 : decode cX8_set 31 = .ok (.iaload, 1) := by decide +kernel
theorem dX8_set_32 : decode cX8_set 32 = .ok (.iconst 1, 1) := by decide +kernel
theorem dX8_set_33 : decode cX8_set 33 = .ok (.isub, 1) := by decide +kernel
theorem dX8_set_34 : decode cX8_set 34 = .ok (.invokestatic 56, 3) := by decide +kernel
theorem dX8_set_37 : decode cX8_set 37 = .ok (.ifCond .ne 9, 3) := by decide +kernel
theorem dX8_set_40 : decode cX8_set 40 = .ok (.aload_n 0, 1) := by decide +kernel
theorem dX8_set_41 : decode cX8_set 41 = .ok (.iconst 2, 1) := by decide +kernel
theorem dX8_set_42 : decode cX8_set 42 = .ok (.invokevirtual 65, 3) := by decide +kernel
theorem dX8_set_45 : decode cX8_set 45 = .ok (.ireturn, 1) := by decide +kernel
theorem dX8_set_46 : decode cX8_set 46 = .ok (.aload_n 0, 1) := by decide +kernel
theorem dX8_set_47 : decode cX8_set 47 = .ok (.getfield 16, 3) := by decide +kernel
theorem dX8_set_50 : decode cX8_set 50 = .ok (.bipush 40, 2) := by decide +kernel
theorem dX8_set_52 : decode cX8_set 52 = .ok (.iload_n 1, 1) := by decide +kernel
theorem dX8_set_53 : decode cX8_set 53 = .ok (.imul, 1) := by decide +kernel
theorem dX8_set_54 : decode cX8_set 54 = .ok (.iload_n 2, 1) := by decide +kernel
theorem dX8_set_55 : decode cX8_set 55 = .ok (.iadd, 1) := by decide +kernel
theorem dX8_set_56 : decode cX8_set 56 = .ok (.aload_n 0, 1) := by decide +kernel
theorem dX8_set_57 : decode cX8_set 57 = .ok (.getfield 7, 3) := by decide +kernel
theorem dX8_set_60 : decode cX8_set 60 = .ok (.iload_n 1, 1) := by decide +kernel
theorem dX8_set_61 : decode cX8_set 61 = .ok (.iaload, 1) := by decide +kernel
theorem dX8_set_62 : decode cX8_set 62 = .ok (.iload_n 3, 1) := by decide +kernel
theorem dX8_set_63 : decode cX8_set 63 = .ok (.invokestatic 75, 3) := by decide +kernel
theorem dX8_set_66 : decode cX8_set 66 = .ok (.iastore, 1) := by decide +kernel
theorem dX8_set_67 : decode cX8_set 67 = .ok (.aload_n 0, 1) := by decide +kernel
theorem dX8_set_68 : decode cX8_set 68 = .ok (.aload_n 0, 1) := by decide +kernel
theorem dX8_set_69 : decode cX8_set 69 = .ok (.getfield 16, 3) := by decide +kernel
theorem dX8_set_72 : decode cX8_set 72 = .ok (.bipush 40, 2) := by decide +kernel
theorem dX8_set_74 : decode cX8_set 74 = .ok (.iload_n 1, 1) := by decide +kernel
theorem dX8_set_75 : decode cX8_set 75 = .ok (.imul, 1) := by decide +kernel
theorem dX8_set_76 : decode cX8_set 76 = .ok (.iload_n 2, 1) := by decide +kernel
theorem dX8_set_77 : decode cX8_set 77 = .ok (.iadd, 1) := by decide +kernel
theorem dX8_set_78 : decode cX8_set 78 = .ok (.iaload, 1) := by decide +kernel
theorem dX8_set_79 : decode cX8_set 79 = .ok (.invokevirtual 69, 3) := by decide +kernel
theorem dX8_set_82 : decode cX8_set 82 = .ok (.ireturn, 1) := by decide +kernel
theorem dX8_isPart_0 : decode cX8_isPart 0 = .ok (.iload_n 2, 1) := by decide +kernel
theorem dX8_isPart_1 : decode cX8_isPart 1 = .ok (.ifCond .lt 33, 3) := by decide +kernel
theorem dX8_isPart_4 : decode cX8_isPart 4 = .ok (.iload_n 3, 1) := by decide +kernel
theorem dX8_isPart_5 : decode cX8_isPart 5 = .ok (.ifCond .lt 29, 3) := by decide +kernel
theorem dX8_isPart_8 : decode cX8_isPart 8 = .ok (.iload_n 2, 1) := by decide +kernel
theorem dX8_isPart_9 : decode cX8_isPart 9 = .ok (.aload_n 0, 1) := by decide +kernel
theorem dX8_isPart_10 : decode cX8_isPart 10 = .ok (.getfield 13, 3) := by decide +kernel
theorem dX8_isPart_13 : decode cX8_isPart 13 = .ok (.iload_n 1, 1) := by decide +kernel
theorem dX8_isPart_14 : decode cX8_isPart 14 = .ok (.iaload, 1) := by decide +kernel
theorem dX8_isPart_15 : decode cX8_isPart 15 = .ok (.if_icmp .gt 19, 3) := by decide +kernel
theorem dX8_isPart_18 : decode cX8_isPart 18 = .ok (.iload_n 3, 1) := by decide +kernel
theorem dX8_isPart_19 : decode cX8_isPart 19 = .ok (.aload_n 0, 1) := by decide +kernel
theorem dX8_isPart_20 : decode cX8_isPart 20 = .ok (.getfield 13, 3) := by decide +kernel
theorem dX8_isPart_23 : decode cX8_isPart 23 = .ok (.iload_n 1, 1) := by decide +kernel
theorem dX8_isPart_24 : decode cX8_isPart 24 = .ok (.iaload, 1) := by decide +kernel
theorem dX8_isPart_25 : decode cX8_isPart 25 = .ok (.iload_n 2, 1) := by decide +kernel
theorem dX8_isPart_26 : decode cX8_isPart 26 = .ok (.isub, 1) := by decide +kernel
theorem dX8_isPart_27 : decode cX8_isPart 27 = .ok (.if_icmp .gt 7, 3) := by decide +kernel
theorem dX8_isPart_30 : decode cX8_isPart 30 = .ok (.iconst 1, 1) := by decide +kernel
theorem dX8_isPart_31 : decode cX8_isPart 31 = .ok (.goto 4, 3) := by decide +kernel
theorem dX8_isPart_34 : decode cX8_isPart 34 = .ok (.iconst 0, 1) := by decide +kernel
theorem dX8_isPart_35 : decode cX8_isPart 35 = .ok (.ireturn, 1) := by decide +kernel
set_option maxRecDepth 20000 in
theorem ggX8_copy_X8_isRow : GoodIn wsX8_copy wsX8_isRow := goodIn_r _ [8, 9, 10, 7, 11] (by decide +kernel) (by decide +kernel)
set_option maxRecDepth 20000 in
theorem gX8_copy_X8_isRow : GoodIn wsX8_copy (va_wsS RX8 60 yX8_isRow wsX8_isRow) := goodIn_app (goodIn_of _ (by decide +kernel)) ggX8_copy_X8_isRow
set_option maxRecDepth 20000 in
theorem ggX8_copy_X8_isMissing : GoodIn wsX8_copy wsX8_isMissing := goodIn_r _ [15, 2, 16, 32, 33, 34, 35, 36, 37, 38, 39, 40, 41, 42, 43, 44, 45, 46, 47, 48, 49, 50, 51, 52, 53, 54] (by decide +kernel) (by decide +kernel)
set_option maxRecDepth 20000 in
theorem gX8_copy_X8_isMissing : GoodIn wsX8_copy (wsV RX8 72 RX8 yX8_isMissing wsX8_isMissing) := goodIn_app (goodIn_of _ (by decide +kernel)) ggX8_copy_X8_isMissing
set_option maxRecDepth 20000 in
theorem ggX8_copy_X8_found : GoodIn wsX8_copy wsX8_found := goodIn_r _ [20, 21, 22, 32, 33, 34, 35, 36, 37, 38, 39, 40, 41, 42, 43, 44, 45, 46, 47, 48, 49, 50, 51, 52, 53, 54] (by decide +kernel) (by decide +kernel)
set_option maxRecDepth 20000 in
theorem gX8_copy_X8_found : GoodIn wsX8_copy (wsV RX8 65 RX8 yX8_found wsX8_found) := goodIn_app (goodIn_of _ (by decide +kernel)) ggX8_copy_X8_found
set_option maxRecDepth 20000 in
theorem ggX8_copy_X8_isPart : GoodIn wsX8_copy wsX8_isPart := goodIn_r _ [26, 27, 32, 33, 34, 35, 36, 37, 38, 39, 40, 41, 42, 43, 44, 45, 46, 47, 48, 49, 50, 51, 52, 53, 54] (by decide +kernel) (by decide +kernel)
set_option maxRecDepth 20000 in
theorem gX8_copy_X8_isPart : GoodIn wsX8_copy (wsV RX8 79 RX8 yX8_isPart wsX8_isPart) := goodIn_app (goodIn_of _ (by decide +kernel)) ggX8_copy_X8_isPart
set_option maxRecDepth 20000 in
theorem ggX8_copy_X8_well : GoodIn wsX8_copy wsX8_well := goodIn_r _ [31, 21, 32, 33, 34, 35, 36, 37, 38, 39, 40, 41, 42, 43, 44, 45, 46, 47, 48, 49, 50, 51, 52, 53, 54] (by decide +kernel) (by decide +kernel)
set_option maxRecDepth 20000 in
theorem gX8_copy_X8_well : GoodIn wsX8_copy (wsV RX8 69 RX8 yX8_well wsX8_well) := goodIn_app (goodIn_of _ (by decide +kernel)) ggX8_copy_X8_well
theorem dX8_copy_0 : decode cX8_copy 0 = .ok (.iload_n 1, 1) := by decide +kernel
theorem dX8_copy_1 : decode cX8_copy 1 = .ok (.invokestatic 60, 3) := by decide +kernel
theorem dX8_copy_4 : decode cX8_copy 4 = .ok (.ifCond .eq 10, 3) := by decide +kernel
theorem dX8_copy_7 : decode cX8_copy 7 = .ok (.iload_n 3, 1) := by decide +kernel
theorem dX8_copy_8 : decode cX8_copy 8 = .ok (.invokestatic 60, 3) := by decide +kernel
theorem dX8_copy_11 : decode cX8_copy 11 = .ok (.ifCond .ne 6, 3) := by decide +kernel
theorem dX8_copy_14 : decode cX8_copy 14 = .ok (.ldc 64, 2) := by decide +kernel
theorem dX8_copy_16 : decode cX8_copy 16 = .ok (.ireturn, 1) := by decide +kernel
theorem dX8_copy_17 : decode cX8_copy 17 = .ok (.aload_n 0, 1) := by decide +kernel
theorem dX8_copy_18 : decode cX8_copy 18 = .ok (.iload_n 1, 1) := by decide +kernel
theorem dX8_copy_19 : decode cX8_copy 19 = .ok (.invokevirtual 72, 3) := by decide +kernel
theorem dX8_copy_22 : decode cX8_copy 22 = .ok (.ifCond .ne 11, 3) := by decide +kernel
theorem dX8_copy_25 : decode cX8_copy 25 = .ok (.aload_n 0, 1) := by decide +kernel
theorem dX8_copy_26 : decode cX8_copy 26 = .ok (.iload_n 3, 1) := by decide +kernel
theorem dX8_copy_27 : decode cX8_copy 27 = .ok (.invokevirtual 72, 3) := by decide +kernel
theorem dX8_copy_30 : decode cX8_copy 30 = .ok (.ifCond .eq 9, 3) := by decide +kernel
theorem dX8_copy_33 : decode cX8_copy 33 = .ok (.aload_n 0, 1) := by decide +kernel
theorem dX8_copy_34 : decode cX8_copy 34 = .ok (.iconst 1, 1) := by decide +kernel
theorem dX8_copy_35 : decode cX8_copy 35 = .ok (.invokevirtual 65, 3) := by decide +kernel
theorem dX8_copy_38 : decode cX8_copy 38 = .ok (.ireturn, 1) := by decide +kernel
theorem dX8_copy_39 : decode cX8_copy 39 = .ok (.aload_n 0, 1) := by decide +kernel
theorem dX8_copy_40 : decode cX8_copy 40 = .ok (.getfield 7, 3) := by decide +kernel
theorem dX8_copy_43 : decode cX8_copy 43 = .ok (.iload_n 1, 1) := by decide +kernel
theorem dX8_copy_44 : decode cX8_copy 44 = .ok (.iaload, 1) := by decide +kernel
theorem dX8_copy_45 : decode cX8_copy 45 = .ok (.aload_n 0, 1) := by decide +kernel
theorem dX8_copy_46 : decode cX8_copy 46 = .ok (.getfield 7, 3) := by decide +kernel
theorem dX8_copy_49 : decode cX8_copy 49 = .ok (.iload_n 3, 1) := by decide +kernel
theorem dX8_copy_50 : decode cX8_copy 50 = .ok (.iaload, 1) := by decide +kernel
theorem dX8_copy_51 : decode cX8_copy 51 = .ok (.if_icmp .eq 9, 3) := by decide +kernel
theorem dX8_copy_54 : decode cX8_copy 54 = .ok (.aload_n 0, 1) := by decide +kernel
theorem dX8_copy_55 : decode cX8_copy 55 = .ok (.iconst 5, 1) := by decide +kernel
theorem dX8_copy_56 : decode cX8_copy 56 = .ok (.invokevirtual 65, 3) := by decide +kernel
theorem dX8_copy_59 : decode cX8_copy 59 = .ok (.ireturn, 1) := by decide +kernel
theorem dX8_copy_60 : decode cX8_copy 60 = .ok (.aload_n 0, 1) := by decide +kernel
theorem dX8_copy_61 : decode cX8_copy 61 = .ok (.iload_n 1, 1) := by decide +kernel
theorem dX8_copy_62 : decode cX8_copy 62 = .ok (.iload_n 2, 1) := by decide +kernel
theorem dX8_copy_63 : decode cX8_copy 63 = .ok (.iload 5, 2) := by decide +kernel
theorem dX8_copy_65 : decode cX8_copy 65 = .ok (.invokevirtual 79, 3) := by decide +kernel
theorem dX8_copy_68 : decode cX8_copy 68 = .ok (.ifCond .eq 15, 3) := by decide +kernel
theorem dX8_copy_71 : decode cX8_copy 71 = .ok (.aload_n 0, 1) := by decide +kernel
theorem dX8_copy_72 : decode cX8_copy 72 = .ok (.iload_n 3, 1) := by decide +kernel
theorem dX8_copy_73 : decode cX8_copy 73 = .ok (.iload 4, 2) := by decide +kernel
theorem dX8_copy_75 : decode cX8_copy 75 = .ok (.iload 5, 2) := by decide +kernel
theorem dX8_copy_77 : decode cX8_copy 77 = .ok (.invokevirtual 79, 3) := by decide +kernel
theorem dX8_copy_80 : decode cX8_copy 80 = .ok (.ifCond .ne 9, 3) := by decide +kernel
theorem dX8_copy_83 : decode cX8_copy 83 = .ok (.aload_n 0, 1) := by decide +kernel
theorem dX8_copy_84 : decode cX8_copy 84 = .ok (.iconst 2, 1) := by decide +kernel
theorem dX8_copy_85 : decode cX8_copy 85 = .ok (.invokevirtual 65, 3) := by decide +kernel
theorem dX8_copy_88 : decode cX8_copy 88 = .ok (.ireturn, 1) := by decide +kernel
theorem dX8_copy_89 : decode cX8_copy 89 = .ok (.iconst 0, 1) := by decide +kernel
theorem dX8_copy_90 : decode cX8_copy 90 = .ok (.istore 6, 2) := by decide +kernel
theorem dX8_copy_92 : decode cX8_copy 92 = .ok (.iload 6, 2) := by decide +kernel
theorem dX8_copy_94 : decode cX8_copy 94 = .ok (.iload 5, 2) := by decide +kernel
theorem dX8_copy_96 : decode cX8_copy 96 = .ok (.if_icmp .ge 30, 3) := by decide +kernel
theorem dX8_copy_99 : decode cX8_copy 99 = .ok (.aload_n 0, 1) := by decide +kernel
theorem dX8_copy_100 : decode cX8_copy 100 = .ok (.getfield 19, 3) := by decide +kernel
theorem dX8_copy_103 : decode cX8_copy 103 = .ok (.iload 6, 2) := by decide +kernel
theorem dX8_copy_105 : decode cX8_copy 105 = .ok (.aload_n 0, 1) := by decide +kernel
theorem dX8_copy_106 : decode cX8_copy 106 = .ok (.getfield 16, 3) := by decide +kernel
theorem dX8_copy_109 : decode cX8_copy 109 = .ok (.bipush 40, 2) := by decide +kernel
theorem dX8_copy_111 : decode cX8_copy 111 = .ok (.iload_n 1, 1) := by decide +kernel
theorem dX8_copy_112 : decode cX8_copy 112 = .ok (.imul, 1) := by decide +kernel
theorem dX8_copy_113 : decode cX8_copy 113 = .ok (.iload_n 2, 1) := by decide +kernel
theorem dX8_copy_114 : decode cX8_copy 114 = .ok (.iadd, 1) := by decide +kernel
theorem dX8_copy_115 : decode cX8_copy 115 = .ok (.iload 6, 2) := by decide +kernel
theorem dX8_copy_117 : decode cX8_copy 117 = .ok (.iadd, 1) := by decide +kernel
theorem dX8_copy_118 : decode cX8_copy 118 = .ok (.iaload, 1) := by decide +kernel
theorem dX8_copy_119 : decode cX8_copy 119 = .ok (.iastore, 1) := by decide +kernel
theorem dX8_copy_120 : decode cX8_copy 120 = .ok (.iinc 6 1, 3) := by decide +kernel
theorem dX8_copy_123 : decode cX8_copy 123 = .ok (.goto (-31), 3) := by decide +kernel
theorem dX8_copy_126 : decode cX8_copy 126 = .ok (.iconst 0, 1) := by decide +kernel
theorem dX8_copy_127 : decode cX8_copy 127 = .ok (.istore 6, 2) := by decide +kernel
theorem dX8_copy_129 : decode cX8_copy 129 = .ok (.iload 6, 2) := by decide +kernel
theorem dX8_copy_131 : decode cX8_copy 131 = .ok (.iload 5, 2) := by decide +kernel
theorem dX8_copy_133 : decode cX8_copy 133 = .ok (.if_icmp .ge 31, 3) := by decide +kernel
theorem dX8_copy_136 : decode cX8_copy 136 = .ok (.aload_n 0, 1) := by decide +kernel
theorem dX8_copy_137 : decode cX8_copy 137 = .ok (.getfield 16, 3) := by decide +kernel
theorem dX8_copy_140 : decode cX8_copy 140 = .ok (.bipush 40, 2) := by decide +kernel
theorem dX8_copy_142 : decode cX8_copy 142 = .ok (.iload_n 3, 1) := by decide +kernel
theorem dX8_copy_143 : decode cX8_copy 143 = .ok (.imul, 1) := by decide +kernel
theorem dX8_copy_144 : decode cX8_copy 144 = .ok (.iload 4, 2) := by decide +kernel
theorem dX8_copy_146 : decode cX8_copy 146 = .ok (.iadd, 1) := by decide +kernel
theorem dX8_copy_147 : decode cX8_copy 147 = .ok (.iload 6, 2) := by decide +kernel
theorem dX8_copy_149 : decode cX8_copy 149 = .ok (.iadd, 1) := by decide +kernel
theorem dX8_copy_150 : decode cX8_copy 150 = .ok (.aload_n 0, 1) := by decide +kernel
theorem dX8_copy_151 : decode cX8_copy 151 = .ok (.getfield 19, 3) := by decide +kernel
theorem dX8_copy_154 : decode cX8_copy 154 = .ok (.iload 6, 2) := by decide +kernel
theorem dX8_copy_156 : decode cX8_copy 156 = .ok (.iaload, 1) := by decide +kernel
theorem dX8_copy_157 : decode cX8_copy 157 = .ok (.iastore, 1) := by decide +kernel
theorem dX8_copy_158 : decode cX8_copy 158 = .ok (.iinc 6 1, 3) := by decide +kernel
theorem dX8_copy_161 : decode cX8_copy 161 = .ok (.goto (-32), 3) := by decide +kernel
theorem dX8_copy_164 : decode cX8_copy 164 = .ok (.aload_n 0, 1) := by decide +kernel
theorem dX8_copy_165 : decode cX8_copy 165 = .ok (.iload 5, 2) := by decide +kernel
theorem dX8_copy_167 : decode cX8_copy 167 = .ok (.invokevirtual 69, 3) := by decide +kernel
theorem dX8_copy_170 : decode cX8_copy 170 = .ok (.ireturn, 1) := by decide +kernel
set_option maxRecDepth 20000 in
theorem ggX8_drop_X8_isRow : GoodIn wsX8_drop wsX8_isRow := goodIn_r _ [8, 9, 10, 7, 11] (by decide +kernel) (by decide +kernel)
set_option maxRecDepth 20000 in
theorem gX8_drop_X8_isRow : GoodIn wsX8_drop (va_wsS RX8 60 yX8_isRow wsX8_isRow) := goodIn_app (goodIn_of _ (by decide +kernel)) ggX8_drop_X8_isRow
set_option maxRecDepth 20000 in
theorem ggX8_drop_X8_isMissing : GoodIn wsX8_drop wsX8_isMissing := goodIn_r _ [15, 2, 3, 26, 27, 28, 29, 30, 31, 32, 33, 34, 35, 36, 37, 38, 39, 40, 41, 42, 43, 44, 45, 46, 47, 48] (by decide +kernel) (by decide +kernel)
set_option maxRecDepth 20000 in
theorem gX8_drop_X8_isMissing : GoodIn wsX8_drop (wsV RX8 72 RX8 yX8_isMissing wsX8_isMissing) := goodIn_app (goodIn_of _ (by decide +kernel)) ggX8_drop_X8_isMissing
set_option maxRecDepth 20000 in
theorem ggX8_drop_X8_found : GoodIn wsX8_drop wsX8_found := goodIn_r _ [19, 20, 21, 26, 27, 28, 29, 30, 31, 32, 33, 34, 35, 36, 37, 38, 39, 40, 41, 42, 43, 44, 45, 46, 47, 48] (by decide +kernel) (by decide +kernel)
set_option maxRecDepth 20000 in
theorem gX8_drop_X8_found : GoodIn wsX8_drop (wsV RX8 65 RX8 yX8_found wsX8_found) := goodIn_app (goodIn_of _ (by decide +kernel)) ggX8_drop_X8_found
set_option maxRecDepth 20000 in
theorem ggX8_drop_X8_well : GoodIn wsX8_drop wsX8_well := goodIn_r _ [25, 20, 26, 27, 28, 29, 30, 31, 32, 33, 34, 35, 36, 37, 38, 39, 40, 41, 42, 43, 44, 45, 46, 47, 48] (by decide +kernel) (by decide +kernel)
set_option maxRecDepth 20000 in
theorem gX8_drop_X8_well : GoodIn wsX8_drop (wsV RX8 69 RX8 yX8_well wsX8_well) := goodIn_app (goodIn_of _ (by decide +kernel)) ggX8_drop_X8_well
theorem dX8_drop_0 : decode cX8_drop 0 = .ok (.iload_n 1, 1) := by decide +kernel
theorem dX8_drop_1 : decode cX8_drop 1 = .ok (.invokestatic 60, 3) := by decide +kernel
theorem dX8_drop_4 : decode cX8_drop 4 = .ok (.ifCond .ne 6, 3) := by decide +kernel
theorem dX8_drop_7 : decode cX8_drop 7 = .ok (.ldc 64, 2) := by decide +kernel
theorem dX8_drop_9 : decode cX8_drop 9 = .ok (.ireturn, 1) := by decide +kernel
theorem dX8_drop_10 : decode cX8_drop 10 = .ok (.aload_n 0, 1) := by decide +kernel
theorem dX8_drop_11 : decode cX8_drop 11 = .ok (.iload_n 1, 1) := by decide +kernel
theorem dX8_drop_12 : decode cX8_drop 12 = .ok (.invokevirtual 72, 3) := by decide +kernel
theorem dX8_drop_15 : decode cX8_drop 15 = .ok (.ifCond .eq 9, 3) := by decide +kernel
theorem dX8_drop_18 : decode cX8_drop 18 = .ok (.aload_n 0, 1) := by decide +kernel
theorem dX8_drop_19 : decode cX8_drop 19 = .ok (.iconst 1, 1) := by decide +kernel
theorem dX8_drop_20 : decode cX8_drop 20 = .ok (.invokevirtual 65, 3) := by decide +kernel
theorem dX8_drop_23 : decode cX8_drop 23 = .ok (.ireturn, 1) := by decide +kernel
theorem dX8_drop_24 : decode cX8_drop 24 = .ok (.aload_n 0, 1) := by decide +kernel
theorem dX8_drop_25 : decode cX8_drop 25 = .ok (.getfield 7, 3) := by decide +kernel
theorem dX8_drop_28 : decode cX8_drop 28 = .ok (.iload_n 1, 1) := by decide +kernel
theorem dX8_drop_29 : decode cX8_drop 29 = .ok (.ldc 50, 2) := by decide +kernel
theorem dX8_drop_31 : decode cX8_drop 31 = .ok (.iastore, 1) := by decide +kernel
theorem dX8_drop_32 : decode cX8_drop 32 = .ok (.aload_n 0, 1) := by decide +kernel
theorem dX8_drop_33 : decode cX8_drop 33 = .ok (.aload_n 0, 1) := by decide +kernel
theorem dX8_drop_34 : decode cX8_drop 34 = .ok (.getfield 13, 3) := by decide +kernel
theorem dX8_drop_37 : decode cX8_drop 37 = .ok (.iload_n 1, 1) := by decide +kernel
theorem dX8_drop_38 : decode cX8_drop 38 = .ok (.iaload, 1) := by decide +kernel
theorem dX8_drop_39 : decode cX8_drop 39 = .ok (.invokevirtual 69, 3) := by decide +kernel
theorem dX8_drop_42 : decode cX8_drop 42 = .ok (.ireturn, 1) := by decide +kernel
set_option maxRecDepth 20000 in
theorem ggX8_feed_X8_in : GoodIn wsX8_feed wsX8_in := goodIn_r _ [8] (by decide +kernel) (by decide +kernel)
set_option maxRecDepth 20000 in
theorem gX8_feed_X8_in : GoodIn wsX8_feed (va_wsS RX8 56 yX8_in wsX8_in) := goodIn_app (goodIn_of _ (by decide +kernel)) ggX8_feed_X8_in
theorem dX8_feed_0 : decode cX8_feed 0 = .ok (.iload_n 1, 1) := by decide +kernel
theorem dX8_feed_1 : decode cX8_feed 1 = .ok (.iconst 0, 1) := by decide +kernel
theorem dX8_feed_2 : decode cX8_feed 2 = .ok (.sipush 255, 3) := by decide +kernel
theorem dX8_feed_5 : decode cX8_feed 5 = .ok (.invokestatic 56, 3) := by decide +kernel
theorem dX8_feed_8 : decode cX8_feed 8 = .ok (.ifCond .ne 6, 3) := by decide +kernel
theorem dX8_feed_11 : decode cX8_feed 11 = .ok (.ldc 64, 2) := by decide +kernel
theorem dX8_feed_13 : decode cX8_feed 13 = .ok (.ireturn, 1) := by decide +kernel
theorem dX8_feed_14 : decode cX8_feed 14 = .ok (.aload_n 0, 1) := by decide +kernel
theorem dX8_feed_15 : decode cX8_feed 15 = .ok (.getfield 82, 3) := by decide +kernel
theorem dX8_feed_18 : decode cX8_feed 18 = .ok (.bipush 100, 2) := by decide +kernel
theorem dX8_feed_20 : decode cX8_feed 20 = .ok (.if_icmp .ne 6, 3) := by decide +kernel
theorem dX8_feed_23 : decode cX8_feed 23 = .ok (.ldc 85, 2) := by decide +kernel
theorem dX8_feed_25 : decode cX8_feed 25 = .ok (.ireturn, 1) := by decide +kernel
theorem dX8_feed_26 : decode cX8_feed 26 = .ok (.aload_n 0, 1) := by decide +kernel
theorem dX8_feed_27 : decode cX8_feed 27 = .ok (.getfield 22, 3) := by decide +kernel
theorem dX8_feed_30 : decode cX8_feed 30 = .ok (.aload_n 0, 1) := by decide +kernel
theorem dX8_feed_31 : decode cX8_feed 31 = .ok (.getfield 82, 3) := by decide +kernel
theorem dX8_feed_34 : decode cX8_feed 34 = .ok (.iload_n 1, 1) := by decide +kernel
theorem dX8_feed_35 : decode cX8_feed 35 = .ok (.iastore, 1) := by decide +kernel
theorem dX8_feed_36 : decode cX8_feed 36 = .ok (.aload_n 0, 1) := by decide +kernel
theorem dX8_feed_37 : decode cX8_feed 37 = .ok (.dup, 1) := by decide +kernel
theorem dX8_feed_38 : decode cX8_feed 38 = .ok (.getfield 82, 3) := by decide +kernel
theorem dX8_feed_41 : decode cX8_feed 41 = .ok (.iconst 1, 1) := by decide +kernel
theorem dX8_feed_42 : decode cX8_feed 42 = .ok (.iadd, 1) := by decide +kernel
theorem dX8_feed_43 : decode cX8_feed 43 = .ok (.putfield 82, 3) := by decide +kernel
theorem dX8_feed_46 : decode cX8_feed 46 = .ok (.aload_n 0, 1) := by decide +kernel
theorem dX8_feed_47 : decode cX8_feed 47 = .ok (.getfield 82, 3) := by decide +kernel
theorem dX8_feed_50 : decode cX8_feed 50 = .ok (.ireturn, 1) := by decide +kernel
theorem dX8_byteAt_0 : decode cX8_byteAt 0 = .ok (.iload_n 1, 1) := by decide +kernel
theorem dX8_byteAt_1 : decode cX8_byteAt 1 = .ok (.aload_n 0, 1) := by decide +kernel
theorem dX8_byteAt_2 : decode cX8_byteAt 2 = .ok (.getfield 82, 3) := by decide +kernel
theorem dX8_byteAt_5 : decode cX8_byteAt 5 = .ok (.if_icmp .ge 12, 3) := by decide +kernel
theorem dX8_byteAt_8 : decode cX8_byteAt 8 = .ok (.aload_n 0, 1) := by decide +kernel
theorem dX8_byteAt_9 : decode cX8_byteAt 9 = .ok (.getfield 22, 3) := by decide +kernel
theorem dX8_byteAt_12 : decode cX8_byteAt 12 = .ok (.iload_n 1, 1) := by decide +kernel
theorem dX8_byteAt_13 : decode cX8_byteAt 13 = .ok (.iaload, 1) := by decide +kernel
theorem dX8_byteAt_14 : decode cX8_byteAt 14 = .ok (.goto 4, 3) := by decide +kernel
theorem dX8_byteAt_17 : decode cX8_byteAt 17 = .ok (.iconst (-1), 1) := by decide +kernel
theorem dX8_byteAt_18 : decode cX8_byteAt 18 = .ok (.ireturn, 1) := by decide +kernel
set_option maxRecDepth 20000 in
theorem ggX8_advances_X8_byteAt : GoodIn wsX8_advances wsX8_byteAt := goodIn_r _ [9, 10, 11, 15, 16, 17, 18, 19, 20, 21, 22, 23, 24, 25, 26, 27, 28, 29, 30, 31, 32, 33, 34, 35, 36, 37] (by decide +kernel) (by decide +kernel)
set_option maxRecDepth 20000 in
theorem gX8_advances_X8_byteAt : GoodIn wsX8_advances (wsV RX8 92 RX8 yX8_byteAt wsX8_byteAt) := goodIn_app (goodIn_of _ (by decide +kernel)) ggX8_advances_X8_byteAt
set_option maxRecDepth 20000 in
theorem ggX8_advances_X8_in : GoodIn wsX8_advances wsX8_in := goodIn_r _ [14] (by decide +kernel) (by decide +kernel)
set_option maxRecDepth 20000 in
theorem gX8_advances_X8_in : GoodIn wsX8_advances (va_wsS RX8 56 yX8_in wsX8_in) := goodIn_app (goodIn_of _ (by decide +kernel)) ggX8_advances_X8_in
theorem dX8_advances_0 : decode cX8_advances 0 = .ok (.aload_n 0, 1) := by decide +kernel
theorem dX8_advances_1 : decode cX8_advances 1 = .ok (.aload_n 0, 1) := by decide +kernel
theorem dX8_advances_2 : decode cX8_advances 2 = .ok (.getfield 86, 3) := by decide +kernel
theorem dX8_advances_5 : decode cX8_advances 5 = .ok (.putfield 89, 3) := by decide +kernel
theorem dX8_advances_8 : decode cX8_advances 8 = .ok (.aload_n 0, 1) := by decide +kernel
theorem dX8_advances_9 : decode cX8_advances 9 = .ok (.aload_n 0, 1) := by decide +kernel
theorem dX8_advances_10 : decode cX8_advances 10 = .ok (.getfield 86, 3) := by decide +kernel
theorem dX8_advances_13 : decode cX8_advances 13 = .ok (.invokevirtual 92, 3) := by decide +kernel
theorem dX8_advances_16 : decode cX8_advances 16 = .ok (.istore_n 1, 1) := by decide +kernel
theorem dX8_advances_17 : decode cX8_advances 17 = .ok (.aload_n 0, 1) := by decide +kernel
theorem dX8_advances_18 : decode cX8_advances 18 = .ok (.iload_n 1, 1) := by decide +kernel
theorem dX8_advances_19 : decode cX8_advances 19 = .ok (.putfield 95, 3) := by decide +kernel
theorem dX8_advances_22 : decode cX8_advances 22 = .ok (.iload_n 1, 1) := by decide +kernel
theorem dX8_advances_23 : decode cX8_advances 23 = .ok (.bipush 48, 2) := by decide +kernel
theorem dX8_advances_25 : decode cX8_advances 25 = .ok (.bipush 57, 2) := by decide +kernel
theorem dX8_advances_27 : decode cX8_advances 27 = .ok (.invokestatic 56, 3) := by decide +kernel
theorem dX8_advances_30 : decode cX8_advances 30 = .ok (.ifCond .eq 105, 3) := by decide +kernel
theorem dX8_advances_33 : decode cX8_advances 33 = .ok (.aload_n 0, 1) := by decide +kernel
theorem dX8_advances_34 : decode cX8_advances 34 = .ok (.iconst 0, 1) := by decide +kernel
theorem dX8_advances_35 : decode cX8_advances 35 = .ok (.putfield 95, 3) := by decide +kernel
theorem dX8_advances_38 : decode cX8_advances 38 = .ok (.aload_n 0, 1) := by decide +kernel
theorem dX8_advances_39 : decode cX8_advances 39 = .ok (.aload_n 0, 1) := by decide +kernel
theorem dX8_advances_40 : decode cX8_advances 40 = .ok (.getfield 86, 3) := by decide +kernel
theorem dX8_advances_43 : decode cX8_advances 43 = .ok (.invokevirtual 92, 3) := by decide +kernel
theorem dX8_advances_46 : decode cX8_advances 46 = .ok (.bipush 48, 2) := by decide +kernel
theorem dX8_advances_48 : decode cX8_advances 48 = .ok (.bipush 57, 2) := by decide +kernel
theorem dX8_advances_50 : decode cX8_advances 50 = .ok (.invokestatic 56, 3) := by decide +kernel
theorem dX8_advances_53 : decode cX8_advances 53 = .ok (.ifCond .eq 59, 3) := by decide +kernel
theorem dX8_advances_56 : decode cX8_advances 56 = .ok (.aload_n 0, 1) := by decide +kernel
theorem dX8_advances_57 : decode cX8_advances 57 = .ok (.aload_n 0, 1) := by decide +kernel
theorem dX8_advances_58 : decode cX8_advances 58 = .ok (.getfield 86, 3) := by decide +kernel
theorem dX8_advances_61 : decode cX8_advances 61 = .ok (.aload_n 0, 1) := by decide +kernel
theorem dX8_advances_62 : decode cX8_advances 62 = .ok (.getfield 89, 3) := by decide +kernel
theorem dX8_advances_65 : decode cX8_advances 65 = .ok (.isub, 1) := by decide +kernel
theorem dX8_advances_66 : decode cX8_advances 66 = .ok (.iconst 2, 1) := by decide +kernel
theorem dX8_advances_67 : decode cX8_advances 67 = .ok (.if_icmp .ge 25, 3) := by decide +kernel
theorem dX8_advances_70 : decode cX8_advances 70 = .ok (.bipush 10, 2) := by decide +kernel
theorem dX8_advances_72 : decode cX8_advances 72 = .ok (.aload_n 0, 1) := by decide +kernel
theorem dX8_advances_73 : decode cX8_advances 73 = .ok (.getfield 95, 3) := by decide +kernel
theorem dX8_advances_76 : decode cX8_advances 76 = .ok (.imul, 1) := by decide +kernel
theorem dX8_advances_77 : decode cX8_advances 77 = .ok (.aload_n 0, 1) := by decide +kernel
theorem dX8_advances_78 : decode cX8_advances 78 = .ok (.aload_n 0, 1) := by decide +kernel
theorem dX8_advances_79 : decode cX8_advances 79 = .ok (.getfield 86, 3) := by decide +kernel
theorem dX8_advances_82 : decode cX8_advances 82 = .ok (.invokevirtual 92, 3) := by decide +kernel
theorem dX8_advances_85 : decode cX8_advances 85 = .ok (.iadd, 1) := by decide +kernel
theorem dX8_advances_86 : decode cX8_advances 86 = .ok (.bipush 48, 2) := by decide +kernel
theorem dX8_advances_88 : decode cX8_advances 88 = .ok (.isub, 1) := by decide +kernel
theorem dX8_advances_89 : decode cX8_advances 89 = .ok (.goto 7, 3) := by decide +kernel
theorem dX8_advances_92 : decode cX8_advances 92 = .ok (.aload_n 0, 1) := by decide +kernel
theorem dX8_advances_93 : decode cX8_advances 93 = .ok (.getfield 95, 3) := by decide +kernel
theorem dX8_advances_96 : decode cX8_advances 96 = .ok (.putfield 95, 3) := by decide +kernel
theorem dX8_advances_99 : decode cX8_advances 99 = .ok (.aload_n 0, 1) := by decide +kernel
theorem dX8_advances_100 : decode cX8_advances 100 = .ok (.dup, 1) := by decide +kernel
theorem dX8_advances_101 : decode cX8_advances 101 = .ok (.getfield 86, 3) := by decide +kernel
theorem dX8_advances_104 : decode cX8_advances 104 = .ok (.iconst 1, 1) := by decide +kernel
theorem dX8_advances_105 : decode cX8_advances 105 = .ok (.iadd, 1) := by decide +kernel
theorem dX8_advances_106 : decode cX8_advances 106 = .ok (.putfield 86, 3) := by decide +kernel
theorem dX8_advances_109 : decode cX8_advances 109 = .ok (.goto (-71), 3) := by decide +kernel
theorem dX8_advances_112 : decode cX8_advances 112 = .ok (.aload_n 0, 1) := by decide +kernel
theorem dX8_advances_113 : decode cX8_advances 113 = .ok (.aload_n 0, 1) := by decide +kernel
theorem dX8_advances_114 : decode cX8_advances 114 = .ok (.getfield 86, 3) := by decide +kernel
theorem dX8_advances_117 : decode cX8_advances 117 = .ok (.aload_n 0, 1) := by decide +kernel
theorem dX8_advances_118 : decode cX8_advances 118 = .ok (.getfield 89, 3) := by decide +kernel
theorem dX8_advances_121 : decode cX8_advances 121 = .ok (.isub, 1) := by decide +kernel
theorem dX8_advances_122 : decode cX8_advances 122 = .ok (.iconst 3, 1) := by decide +kernel
theorem dX8_advances_123 : decode cX8_advances 123 = .ok (.if_icmp .ge 7, 3) := by decide +kernel
theorem dX8_advances_126 : decode cX8_advances 126 = .ok (.iconst 2, 1) := by decide +kernel
theorem dX8_advances_127 : decode cX8_advances 127 = .ok (.goto 4, 3) := by decide +kernel
theorem dX8_advances_130 : decode cX8_advances 130 = .ok (.iconst 5, 1) := by decide +kernel
theorem dX8_advances_131 : decode cX8_advances 131 = .ok (.putfield 98, 3) := by decide +kernel
theorem dX8_advances_134 : decode cX8_advances 134 = .ok (.return_, 1) := by decide +kernel
theorem dX8_advances_135 : decode cX8_advances 135 = .ok (.aload_n 0, 1) := by decide +kernel
theorem dX8_advances_136 : decode cX8_advances 136 = .ok (.iload_n 1, 1) := by decide +kernel
theorem dX8_advances_137 : decode cX8_advances 137 = .ok (.ifCond .ge 7, 3) := by decide +kernel
theorem dX8_advances_140 : decode cX8_advances 140 = .ok (.iconst 0, 1) := by decide +kernel
theorem dX8_advances_141 : decode cX8_advances 141 = .ok (.goto 39, 3) := by decide +kernel
theorem dX8_advances_144 : decode cX8_advances 144 = .ok (.iload_n 1, 1) := by decide +kernel
theorem dX8_advances_145 : decode cX8_advances 145 = .ok (.bipush 97, 2) := by decide +kernel
theorem dX8_advances_147 : decode cX8_advances 147 = .ok (.bipush 122, 2) := by decide +kernel
theorem dX8_advances_149 : decode cX8_advances 149 = .ok (.invokestatic 56, 3) := by decide +kernel
theorem dX8_advances_152 : decode cX8_advances 152 = .ok (.ifCond .eq 7, 3) := by decide +kernel
theorem dX8_advances_155 : decode cX8_advances 155 = .ok (.iconst 1, 1) := by decide +kernel
theorem dX8_advances_156 : decode cX8_advances 156 = .ok (.goto 24, 3) := by decide +kernel
theorem dX8_advances_159 : decode cX8_advances 159 = .ok (.iload_n 1, 1) := by decide +kernel
theorem dX8_advances_160 : decode cX8_advances 160 = .ok (.bipush 44, 2) := by decide +kernel
theorem dX8_advances_162 : decode cX8_advances 162 = .ok (.if_icmp .ne 7, 3) := by decide +kernel
theorem dX8_advances_165 : decode cX8_advances 165 = .ok (.iconst 3, 1) := by decide +kernel
theorem dX8_advances_166 : decode cX8_advances 166 = .ok (.goto 14, 3) := by decide +kernel
theorem dX8_advances_169 : decode cX8_advances 169 = .ok (.iload_n 1, 1) := by decide +kernel
theorem dX8_advances_170 : decode cX8_advances 170 = .ok (.bipush 59, 2) := by decide +kernel
theorem dX8_advances_172 : decode cX8_advances 172 = .ok (.if_icmp .ne 7, 3) := by decide +kernel
theorem dX8_advances_175 : decode cX8_advances 175 = .ok (.iconst 4, 1) := by decide +kernel
theorem dX8_advances_176 : decode cX8_advances 176 = .ok (.goto 4, 3) := by decide +kernel
theorem dX8_advances_179 : decode cX8_advances 179 = .ok (.iconst 5, 1) := by decide +kernel
theorem dX8_advances_180 : decode cX8_advances 180 = .ok (.putfield 98, 3) := by decide +kernel
theorem dX8_advances_183 : decode cX8_advances 183 = .ok (.aload_n 0, 1) := by decide +kernel
theorem dX8_advances_184 : decode cX8_advances 184 = .ok (.dup, 1) := by decide +kernel
theorem dX8_advances_185 : decode cX8_advances 185 = .ok (.getfield 86, 3) := by decide +kernel
theorem dX8_advances_188 : decode cX8_advances 188 = .ok (.aload_n 0, 1) := by decide +kernel
theorem dX8_advances_189 : decode cX8_advances 189 = .ok (.getfield 98, 3) := by decide +kernel
theorem dX8_advances_192 : decode cX8_advances 192 = .ok (.ifCond .ne 7, 3) := by decide +kernel
theorem dX8_advances_195 : decode cX8_advances 195 = .ok (.iconst 0, 1) := by decide +kernel
theorem dX8_advances_196 : decode cX8_advances 196 = .ok (.goto 4, 3) := by decide +kernel
theorem dX8_advances_199 : decode cX8_advances 199 = .ok (.iconst 1, 1) := by decide +kernel
theorem dX8_advances_200 : decode cX8_advances 200 = .ok (.iadd, 1) := by decide +kernel
theorem dX8_advances_201 : decode cX8_advances 201 = .ok (.putfield 86, 3) := by decide +kernel
theorem dX8_advances_204 : decode cX8_advances 204 = .ok (.return_, 1) := by decide +kernel
theorem dX8_isWell_0 : decode cX8_isWell 0 = .ok (.aload_n 0, 1) := by decide +kernel
theorem dX8_isWell_1 : decode cX8_isWell 1 = .ok (.getfield 101, 3) := by decide +kernel
theorem dX8_isWell_4 : decode cX8_isWell 4 = .ok (.ifCond .ge 7, 3) := by decide +kernel
theorem dX8_isWell_7 : decode cX8_isWell 7 = .ok (.iconst 1, 1) := by decide +kernel
theorem dX8_isWell_8 : decode cX8_isWell 8 = .ok (.goto 4, 3) := by decide +kernel
theorem dX8_isWell_11 : decode cX8_isWell 11 = .ok (.iconst 0, 1) := by decide +kernel
theorem dX8_isWell_12 : decode cX8_isWell 12 = .ok (.ireturn, 1) := by decide +kernel
set_option maxRecDepth 20000 in
theorem ggX8_takes_X8_isWell : GoodIn wsX8_takes wsX8_isWell := goodIn_r _ [9, 2, 25, 26, 27, 28, 29, 30, 31, 32, 33, 34, 35, 36, 37, 38, 39, 40, 41, 42, 43, 44, 45, 46, 47] (by decide +kernel) (by decide +kernel)
set_option maxRecDepth 20000 in
theorem gX8_takes_X8_isWell : GoodIn wsX8_takes (wsV RX8 104 RX8 yX8_isWell wsX8_isWell) := goodIn_app (goodIn_of _ (by decide +kernel)) ggX8_takes_X8_isWell
set_option maxRecDepth 20000 in
theorem ggX8_takes_X8_advances : GoodIn wsX8_takes wsX8_advances := goodIn_r _ [13, 14, 1, 4, 15, 16, 17, 18, 8, 19, 20, 21, 22, 23, 24, 25, 26, 27, 28, 29, 30, 31, 32, 33, 34, 35, 36, 37, 38, 39, 40, 41, 42, 43, 44, 45, 46, 47] (by decide +kernel) (by decide +kernel)
set_option maxRecDepth 20000 in
theorem gX8_takes_X8_advances : GoodIn wsX8_takes (wsV RX8 111 RX8 yX8_advances wsX8_advances) := goodIn_app (goodIn_of _ (by decide +kernel)) ggX8_takes_X8_advances
theorem dX8_takes_0 : decode cX8_takes 0 = .ok (.aload_n 0, 1) := by decide +kernel
theorem dX8_takes_1 : decode cX8_takes 1 = .ok (.invokevirtual 104, 3) := by decide +kernel
theorem dX8_takes_4 : decode cX8_takes 4 = .ok (.ifCond .ne 5, 3) := by decide +kernel
theorem dX8_takes_7 : decode cX8_takes 7 = .ok (.iconst 0, 1) := by decide +kernel
theorem dX8_takes_8 : decode cX8_takes 8 = .ok (.ireturn, 1) := by decide +kernel
theorem dX8_takes_9 : decode cX8_takes 9 = .ok (.iload_n 1, 1) := by decide +kernel
theorem dX8_takes_10 : decode cX8_takes 10 = .ok (.ifCond .ne 18, 3) := by decide +kernel
theorem dX8_takes_13 : decode cX8_takes 13 = .ok (.aload_n 0, 1) := by decide +kernel
theorem dX8_takes_14 : decode cX8_takes 14 = .ok (.aload_n 0, 1) := by decide +kernel
theorem dX8_takes_15 : decode cX8_takes 15 = .ok (.getfield 89, 3) := by decide +kernel
theorem dX8_takes_18 : decode cX8_takes 18 = .ok (.putfield 101, 3) := by decide +kernel
theorem dX8_takes_21 : decode cX8_takes 21 = .ok (.aload_n 0, 1) := by decide +kernel
theorem dX8_takes_22 : decode cX8_takes 22 = .ok (.iload_n 2, 1) := by decide +kernel
theorem dX8_takes_23 : decode cX8_takes 23 = .ok (.putfield 108, 3) := by decide +kernel
theorem dX8_takes_26 : decode cX8_takes 26 = .ok (.iconst 0, 1) := by decide +kernel
theorem dX8_takes_27 : decode cX8_takes 27 = .ok (.ireturn, 1) := by decide +kernel
theorem dX8_takes_28 : decode cX8_takes 28 = .ok (.aload_n 0, 1) := by decide +kernel
theorem dX8_takes_29 : decode cX8_takes 29 = .ok (.getfield 95, 3) := by decide +kernel
theorem dX8_takes_32 : decode cX8_takes 32 = .ok (.istore_n 3, 1) := by decide +kernel
theorem dX8_takes_33 : decode cX8_takes 33 = .ok (.aload_n 0, 1) := by decide +kernel
theorem dX8_takes_34 : decode cX8_takes 34 = .ok (.invokevirtual 111, 3) := by decide +kernel
theorem dX8_takes_37 : decode cX8_takes 37 = .ok (.iload_n 3, 1) := by decide +kernel
theorem dX8_takes_38 : decode cX8_takes 38 = .ok (.ireturn, 1) := by decide +kernel
set_option maxRecDepth 20000 in
theorem ggX8_figure_X8_isWell : GoodIn wsX8_figure wsX8_isWell := goodIn_r _ [7, 8, 29, 30, 31, 32, 33, 34, 35, 36, 37, 38, 39, 40, 41, 42, 43, 44, 45, 46, 47, 48, 49, 50, 51] (by decide +kernel) (by decide +kernel)
set_option maxRecDepth 20000 in
theorem gX8_figure_X8_isWell : GoodIn wsX8_figure (wsV RX8 104 RX8 yX8_isWell wsX8_isWell) := goodIn_app (goodIn_of _ (by decide +kernel)) ggX8_figure_X8_isWell
set_option maxRecDepth 20000 in
theorem ggX8_figure_X8_takes : GoodIn wsX8_figure wsX8_takes := goodIn_r _ [12, 13, 8, 14, 2, 3, 4, 5, 6, 7, 15, 16, 17, 18, 19, 1, 20, 21, 22, 23, 24, 25, 26, 27, 28, 29, 30, 31, 32, 33, 34, 35, 36, 37, 38, 39, 40, 41, 42, 43, 44, 45, 46, 47, 48, 49, 50, 51] (by decide +kernel) (by decide +kernel)
set_option maxRecDepth 20000 in
theorem gX8_figure_X8_takes : GoodIn wsX8_figure (wsV RX8 114 RX8 yX8_takes wsX8_takes) := goodIn_app (goodIn_of _ (by decide +kernel)) ggX8_figure_X8_takes
set_option maxRecDepth 20000 in
theorem ggX8_figure_X8_in : GoodIn wsX8_figure wsX8_in := goodIn_r _ [28] (by decide +kernel) (by decide +kernel)
set_option maxRecDepth 20000 in
theorem gX8_figure_X8_in : GoodIn wsX8_figure (va_wsS RX8 56 yX8_in wsX8_in) := goodIn_app (goodIn_of _ (by decide +kernel)) ggX8_figure_X8_in
theorem dX8_figure_0 : decode cX8_figure 0 = .ok (.aload_n 0, 1) := by decide +kernel
theorem dX8_figure_1 : decode cX8_figure 1 = .ok (.invokevirtual 104, 3) := by decide +kernel
theorem dX8_figure_4 : decode cX8_figure 4 = .ok (.ifCond .eq 18, 3) := by decide +kernel
theorem dX8_figure_7 : decode cX8_figure 7 = .ok (.aload_n 0, 1) := by decide +kernel
theorem dX8_figure_8 : decode cX8_figure 8 = .ok (.getfield 98, 3) := by decide +kernel
theorem dX8_figure_11 : decode cX8_figure 11 = .ok (.iconst 2, 1) := by decide +kernel
theorem dX8_figure_12 : decode cX8_figure 12 = .ok (.if_icmp .eq 10, 3) := by decide +kernel
theorem dX8_figure_15 : decode cX8_figure 15 = .ok (.aload_n 0, 1) := by decide +kernel
theorem dX8_figure_16 : decode cX8_figure 16 = .ok (.iconst 0, 1) := by decide +kernel
theorem dX8_figure_17 : decode cX8_figure 17 = .ok (.iconst 1, 1) := by decide +kernel
theorem dX8_figure_18 : decode cX8_figure 18 = .ok (.invokevirtual 114, 3) := by decide +kernel
theorem dX8_figure_21 : decode cX8_figure 21 = .ok (.ireturn, 1) := by decide +kernel
theorem dX8_figure_22 : decode cX8_figure 22 = .ok (.aload_n 0, 1) := by decide +kernel
theorem dX8_figure_23 : decode cX8_figure 23 = .ok (.aload_n 0, 1) := by decide +kernel
theorem dX8_figure_24 : decode cX8_figure 24 = .ok (.getfield 95, 3) := by decide +kernel
theorem dX8_figure_27 : decode cX8_figure 27 = .ok (.iload_n 1, 1) := by decide +kernel
theorem dX8_figure_28 : decode cX8_figure 28 = .ok (.iload_n 2, 1) := by decide +kernel
theorem dX8_figure_29 : decode cX8_figure 29 = .ok (.invokestatic 56, 3) := by decide +kernel
theorem dX8_figure_32 : decode cX8_figure 32 = .ok (.iconst 2, 1) := by decide +kernel
theorem dX8_figure_33 : decode cX8_figure 33 = .ok (.invokevirtual 114, 3) := by decide +kernel
theorem dX8_figure_36 : decode cX8_figure 36 = .ok (.ireturn, 1) := by decide +kernel
theorem dX8_kindOf_0 : decode cX8_kindOf 0 = .ok (.iload_n 0, 1) := by decide +kernel
theorem dX8_kindOf_1 : decode cX8_kindOf 1 = .ok (.bipush 107, 2) := by decide +kernel
theorem dX8_kindOf_3 : decode cX8_kindOf 3 = .ok (.if_icmp .ne 7, 3) := by decide +kernel
theorem dX8_kindOf_6 : decode cX8_kindOf 6 = .ok (.iconst 1, 1) := by decide +kernel
theorem dX8_kindOf_7 : decode cX8_kindOf 7 = .ok (.goto 44, 3) := by decide +kernel
theorem dX8_kindOf_10 : decode cX8_kindOf 10 = .ok (.iload_n 0, 1) := by decide +kernel
theorem dX8_kindOf_11 : decode cX8_kindOf 11 = .ok (.bipush 115, 2) := by decide +kernel
theorem dX8_kindOf_13 : decode cX8_kindOf 13 = .ok (.if_icmp .ne 7, 3) := by decide +kernel
theorem dX8_kindOf_16 : decode cX8_kindOf 16 = .ok (.iconst 2, 1) := by decide +kernel
theorem dX8_kindOf_17 : decode cX8_kindOf 17 = .ok (.goto 34, 3) := by decide +kernel
theorem dX8_kindOf_20 : decode cX8_kindOf 20 = .ok (.iload_n 0, 1) := by decide +kernel
theorem dX8_kindOf_21 : decode cX8_kindOf 21 = .ok (.bipush 101, 2) := by decide +kernel
theorem dX8_kindOf_23 : decode cX8_kindOf 23 = .ok (.if_icmp .ne 7, 3) := by decide +kernel
theorem dX8_kindOf_26 : decode cX8_kindOf 26 = .ok (.iconst 3, 1) := by decide +kernel
theorem dX8_kindOf_27 : decode cX8_kindOf 27 = .ok (.goto 24, 3) := by decide +kernel
theorem dX8_kindOf_30 : decode cX8_kindOf 30 = .ok (.iload_n 0, 1) := by decide +kernel
theorem dX8_kindOf_31 : decode cX8_kindOf 31 = .ok (.bipush 100, 2) := by decide +kernel
