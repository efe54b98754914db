theorem dX8_kindOf_33 : decode cX8_kindOf 33 = .ok (.if_icmp .ne 7, 3) := by decide +kernel
theorem dX8_kindOf_36 : decode cX8_kindOf 36 = .ok (.iconst 4, 1) := by decide +kernel
theorem dX8_kindOf_37 : decode cX8_kindOf 37 = .ok (.goto 14, 3) := by decide +kernel
theorem dX8_kindOf_40 : decode cX8_kindOf 40 = .ok (.iload_n 0, 1) := by decide +kernel
theorem dX8_kindOf_41 : decode cX8_kindOf 41 = .ok (.bipush 103, 2) := by decide +kernel
theorem dX8_kindOf_43 : decode cX8_kindOf 43 = .ok (.if_icmp .ne 7, 3) := by decide +kernel
theorem dX8_kindOf_46 : decode cX8_kindOf 46 = .ok (.iconst 5, 1) := by decide +kernel
theorem dX8_kindOf_47 : decode cX8_kindOf 47 = .ok (.goto 4, 3) := by decide +kernel
theorem dX8_kindOf_50 : decode cX8_kindOf 50 = .ok (.iconst 0, 1) := by decide +kernel
theorem dX8_kindOf_51 : decode cX8_kindOf 51 = .ok (.ireturn, 1) := by decide +kernel
set_option maxRecDepth 20000 in
theorem ggX8_follows_X8_takes : GoodIn wsX8_follows wsX8_takes := goodIn_r _ [6, 7, 8, 9, 10, 11, 12, 13, 5, 14, 15, 16, 17, 18, 19, 1, 20, 21, 22, 23, 24, 25, 26, 27, 28, 33, 34, 35, 36, 37, 38, 39, 40, 41, 42, 43, 44, 45, 46, 47, 48, 49, 50, 51, 52, 53, 54, 55] (by decide +kernel) (by decide +kernel)
set_option maxRecDepth 20000 in
theorem gX8_follows_X8_takes : GoodIn wsX8_follows (wsV RX8 114 RX8 yX8_takes wsX8_takes) := goodIn_app (goodIn_of _ (by decide +kernel)) ggX8_follows_X8_takes
set_option maxRecDepth 20000 in
theorem ggX8_follows_X8_figure : GoodIn wsX8_follows wsX8_figure := goodIn_r _ [32, 1, 10, 11, 12, 13, 5, 14, 8, 2, 3, 4, 6, 7, 9, 15, 16, 17, 18, 19, 20, 21, 22, 23, 24, 25, 26, 27, 28, 33, 34, 35, 36, 37, 38, 39, 40, 41, 42, 43, 44, 45, 46, 47, 48, 49, 50, 51, 52, 53, 54, 55] (by decide +kernel) (by decide +kernel)
set_option maxRecDepth 20000 in
theorem gX8_follows_X8_figure : GoodIn wsX8_follows (wsV RX8 118 RX8 yX8_figure wsX8_figure) := goodIn_app (goodIn_of _ (by decide +kernel)) ggX8_follows_X8_figure
theorem dX8_follows_0 : decode cX8_follows 0 = .ok (.aload_n 0, 1) := by decide +kernel
theorem dX8_follows_1 : decode cX8_follows 1 = .ok (.aload_n 0, 1) := by decide +kernel
theorem dX8_follows_2 : decode cX8_follows 2 = .ok (.getfield 98, 3) := by decide +kernel
theorem dX8_follows_5 : decode cX8_follows 5 = .ok (.iconst 3, 1) := by decide +kernel
theorem dX8_follows_6 : decode cX8_follows 6 = .ok (.if_icmp .ne 7, 3) := by decide +kernel
theorem dX8_follows_9 : decode cX8_follows 9 = .ok (.iconst 1, 1) := by decide +kernel
theorem dX8_follows_10 : decode cX8_follows 10 = .ok (.goto 4, 3) := by decide +kernel
theorem dX8_follows_13 : decode cX8_follows 13 = .ok (.iconst 0, 1) := by decide +kernel
theorem dX8_follows_14 : decode cX8_follows 14 = .ok (.iconst 1, 1) := by decide +kernel
theorem dX8_follows_15 : decode cX8_follows 15 = .ok (.invokevirtual 114, 3) := by decide +kernel
theorem dX8_follows_18 : decode cX8_follows 18 = .ok (.pop, 1) := by decide +kernel
theorem dX8_follows_19 : decode cX8_follows 19 = .ok (.aload_n 0, 1) := by decide +kernel
theorem dX8_follows_20 : decode cX8_follows 20 = .ok (.iload_n 1, 1) := by decide +kernel
theorem dX8_follows_21 : decode cX8_follows 21 = .ok (.iload_n 2, 1) := by decide +kernel
theorem dX8_follows_22 : decode cX8_follows 22 = .ok (.invokevirtual 118, 3) := by decide +kernel
theorem dX8_follows_25 : decode cX8_follows 25 = .ok (.ireturn, 1) := by decide +kernel
theorem dX8_isTold_0 : decode cX8_isTold 0 = .ok (.iconst 0, 1) := by decide +kernel
theorem dX8_isTold_1 : decode cX8_isTold 1 = .ok (.istore 4, 2) := by decide +kernel
theorem dX8_isTold_3 : decode cX8_isTold 3 = .ok (.iconst 0, 1) := by decide +kernel
theorem dX8_isTold_4 : decode cX8_isTold 4 = .ok (.istore 5, 2) := by decide +kernel
theorem dX8_isTold_6 : decode cX8_isTold 6 = .ok (.iload 5, 2) := by decide +kernel
theorem dX8_isTold_8 : decode cX8_isTold 8 = .ok (.aload_n 0, 1) := by decide +kernel
theorem dX8_isTold_9 : decode cX8_isTold 9 = .ok (.getfield 28, 3) := by decide +kernel
theorem dX8_isTold_12 : decode cX8_isTold 12 = .ok (.iconst 3, 1) := by decide +kernel
theorem dX8_isTold_13 : decode cX8_isTold 13 = .ok (.iaload, 1) := by decide +kernel
theorem dX8_isTold_14 : decode cX8_isTold 14 = .ok (.if_icmp .ge 67, 3) := by decide +kernel
theorem dX8_isTold_17 : decode cX8_isTold 17 = .ok (.bipush 8, 2) := by decide +kernel
theorem dX8_isTold_19 : decode cX8_isTold 19 = .ok (.iconst 3, 1) := by decide +kernel
theorem dX8_isTold_20 : decode cX8_isTold 20 = .ok (.iload 5, 2) := by decide +kernel
theorem dX8_isTold_22 : decode cX8_isTold 22 = .ok (.imul, 1) := by decide +kernel
theorem dX8_isTold_23 : decode cX8_isTold 23 = .ok (.iadd, 1) := by decide +kernel
theorem dX8_isTold_24 : decode cX8_isTold 24 = .ok (.istore 6, 2) := by decide +kernel
theorem dX8_isTold_26 : decode cX8_isTold 26 = .ok (.iload 4, 2) := by decide +kernel
theorem dX8_isTold_28 : decode cX8_isTold 28 = .ok (.ifCond .ne 40, 3) := by decide +kernel
theorem dX8_isTold_31 : decode cX8_isTold 31 = .ok (.aload_n 0, 1) := by decide +kernel
theorem dX8_isTold_32 : decode cX8_isTold 32 = .ok (.getfield 28, 3) := by decide +kernel
theorem dX8_isTold_35 : decode cX8_isTold 35 = .ok (.iload 6, 2) := by decide +kernel
theorem dX8_isTold_37 : decode cX8_isTold 37 = .ok (.iaload, 1) := by decide +kernel
theorem dX8_isTold_38 : decode cX8_isTold 38 = .ok (.iload_n 1, 1) := by decide +kernel
theorem dX8_isTold_39 : decode cX8_isTold 39 = .ok (.if_icmp .ne 33, 3) := by decide +kernel
theorem dX8_isTold_42 : decode cX8_isTold 42 = .ok (.aload_n 0, 1) := by decide +kernel
theorem dX8_isTold_43 : decode cX8_isTold 43 = .ok (.getfield 28, 3) := by decide +kernel
theorem dX8_isTold_46 : decode cX8_isTold 46 = .ok (.iload 6, 2) := by decide +kernel
theorem dX8_isTold_48 : decode cX8_isTold 48 = .ok (.iconst 1, 1) := by decide +kernel
theorem dX8_isTold_49 : decode cX8_isTold 49 = .ok (.iadd, 1) := by decide +kernel
theorem dX8_isTold_50 : decode cX8_isTold 50 = .ok (.iaload, 1) := by decide +kernel
theorem dX8_isTold_51 : decode cX8_isTold 51 = .ok (.iload_n 2, 1) := by decide +kernel
theorem dX8_isTold_52 : decode cX8_isTold 52 = .ok (.if_icmp .ne 20, 3) := by decide +kernel
theorem dX8_isTold_55 : decode cX8_isTold 55 = .ok (.aload_n 0, 1) := by decide +kernel
theorem dX8_isTold_56 : decode cX8_isTold 56 = .ok (.getfield 28, 3) := by decide +kernel
theorem dX8_isTold_59 : decode cX8_isTold 59 = .ok (.iload 6, 2) := by decide +kernel
theorem dX8_isTold_61 : decode cX8_isTold 61 = .ok (.iconst 2, 1) := by decide +kernel
theorem dX8_isTold_62 : decode cX8_isTold 62 = .ok (.iadd, 1) := by decide +kernel
theorem dX8_isTold_63 : decode cX8_isTold 63 = .ok (.iaload, 1) := by decide +kernel
theorem dX8_isTold_64 : decode cX8_isTold 64 = .ok (.iload_n 3, 1) := by decide +kernel
theorem dX8_isTold_65 : decode cX8_isTold 65 = .ok (.if_icmp .ne 7, 3) := by decide +kernel
theorem dX8_isTold_68 : decode cX8_isTold 68 = .ok (.iconst 1, 1) := by decide +kernel
theorem dX8_isTold_69 : decode cX8_isTold 69 = .ok (.goto 4, 3) := by decide +kernel
theorem dX8_isTold_72 : decode cX8_isTold 72 = .ok (.iconst 0, 1) := by decide +kernel
theorem dX8_isTold_73 : decode cX8_isTold 73 = .ok (.istore 4, 2) := by decide +kernel
theorem dX8_isTold_75 : decode cX8_isTold 75 = .ok (.iinc 5 1, 3) := by decide +kernel
theorem dX8_isTold_78 : decode cX8_isTold 78 = .ok (.goto (-72), 3) := by decide +kernel
theorem dX8_isTold_81 : decode cX8_isTold 81 = .ok (.iload 4, 2) := by decide +kernel
theorem dX8_isTold_83 : decode cX8_isTold 83 = .ok (.ireturn, 1) := by decide +kernel
set_option maxRecDepth 20000 in
theorem ggX8_letterOf_X8_takes : GoodIn wsX8_letterOf wsX8_takes := goodIn_r _ [6, 7, 8, 9, 10, 11, 12, 13, 5, 14, 15, 16, 17, 18, 19, 1, 20, 21, 22, 23, 24, 25, 26, 27, 28, 29, 30, 31, 32, 33, 34, 35, 36, 37, 38, 39, 40, 41, 42, 43, 44, 45, 46, 47, 48, 49, 50, 51] (by decide +kernel) (by decide +kernel)
set_option maxRecDepth 20000 in
theorem gX8_letterOf_X8_takes : GoodIn wsX8_letterOf (wsV RX8 114 RX8 yX8_takes wsX8_takes) := goodIn_app (goodIn_of _ (by decide +kernel)) ggX8_letterOf_X8_takes
theorem dX8_letterOf_0 : decode cX8_letterOf 0 = .ok (.aload_n 0, 1) := by decide +kernel
theorem dX8_letterOf_1 : decode cX8_letterOf 1 = .ok (.aload_n 0, 1) := by decide +kernel
theorem dX8_letterOf_2 : decode cX8_letterOf 2 = .ok (.getfield 98, 3) := by decide +kernel
theorem dX8_letterOf_5 : decode cX8_letterOf 5 = .ok (.iconst 1, 1) := by decide +kernel
theorem dX8_letterOf_6 : decode cX8_letterOf 6 = .ok (.if_icmp .ne 7, 3) := by decide +kernel
theorem dX8_letterOf_9 : decode cX8_letterOf 9 = .ok (.iconst 1, 1) := by decide +kernel
theorem dX8_letterOf_10 : decode cX8_letterOf 10 = .ok (.goto 4, 3) := by decide +kernel
theorem dX8_letterOf_13 : decode cX8_letterOf 13 = .ok (.iconst 0, 1) := by decide +kernel
theorem dX8_letterOf_14 : decode cX8_letterOf 14 = .ok (.iconst 1, 1) := by decide +kernel
theorem dX8_letterOf_15 : decode cX8_letterOf 15 = .ok (.invokevirtual 114, 3) := by decide +kernel
theorem dX8_letterOf_18 : decode cX8_letterOf 18 = .ok (.bipush 97, 2) := by decide +kernel
theorem dX8_letterOf_20 : decode cX8_letterOf 20 = .ok (.isub, 1) := by decide +kernel
theorem dX8_letterOf_21 : decode cX8_letterOf 21 = .ok (.ireturn, 1) := by decide +kernel
set_option maxRecDepth 20000 in
theorem ggX8_readsWord_X8_takes : GoodIn wsX8_readsWord wsX8_takes := goodIn_r _ [8, 9, 10, 11, 3, 12, 13, 14, 7, 15, 16, 17, 18, 19, 20, 2, 21, 22, 23, 24, 25, 26, 27, 28, 29, 38, 39, 40, 41, 42, 43, 44, 45, 46, 47, 48, 49, 50, 51, 52, 53, 54, 55, 56, 57, 58, 59, 60] (by decide +kernel) (by decide +kernel)
set_option maxRecDepth 20000 in
theorem gX8_readsWord_X8_takes : GoodIn wsX8_readsWord (wsV RX8 114 RX8 yX8_takes wsX8_takes) := goodIn_app (goodIn_of _ (by decide +kernel)) ggX8_readsWord_X8_takes
set_option maxRecDepth 20000 in
theorem ggX8_readsWord_X8_letterOf : GoodIn wsX8_readsWord wsX8_letterOf := goodIn_r _ [33, 2, 4, 5, 6, 7, 8, 9, 10, 11, 3, 12, 13, 14, 15, 16, 17, 18, 19, 20, 21, 22, 23, 24, 25, 26, 27, 28, 29, 38, 39, 40, 41, 42, 43, 44, 45, 46, 47, 48, 49, 50, 51, 52, 53, 54, 55, 56, 57, 58, 59, 60] (by decide +kernel) (by decide +kernel)
set_option maxRecDepth 20000 in
theorem gX8_readsWord_X8_letterOf : GoodIn wsX8_readsWord (wsV RX8 121 RX8 yX8_letterOf wsX8_letterOf) := goodIn_app (goodIn_of _ (by decide +kernel)) ggX8_readsWord_X8_letterOf
set_option maxRecDepth 20000 in
theorem ggX8_readsWord_X8_isWell : GoodIn wsX8_readsWord wsX8_isWell := goodIn_r _ [15, 10, 38, 39, 40, 41, 42, 43, 44, 45, 46, 47, 48, 49, 50, 51, 52, 53, 54, 55, 56, 57, 58, 59, 60] (by decide +kernel) (by decide +kernel)
set_option maxRecDepth 20000 in
theorem gX8_readsWord_X8_isWell : GoodIn wsX8_readsWord (wsV RX8 104 RX8 yX8_isWell wsX8_isWell) := goodIn_app (goodIn_of _ (by decide +kernel)) ggX8_readsWord_X8_isWell
set_option maxRecDepth 20000 in
theorem ggX8_readsWord_X8_isTold : GoodIn wsX8_readsWord wsX8_isTold := goodIn_r _ [37, 1, 38, 39, 40, 41, 42, 43, 44, 45, 46, 47, 48, 49, 50, 51, 52, 53, 54, 55, 56, 57, 58, 59, 60] (by decide +kernel) (by decide +kernel)
set_option maxRecDepth 20000 in
theorem gX8_readsWord_X8_isTold : GoodIn wsX8_readsWord (wsV RX8 125 RX8 yX8_isTold wsX8_isTold) := goodIn_app (goodIn_of _ (by decide +kernel)) ggX8_readsWord_X8_isTold
theorem dX8_readsWord_0 : decode cX8_readsWord 0 = .ok (.aload_n 0, 1) := by decide +kernel
theorem dX8_readsWord_1 : decode cX8_readsWord 1 = .ok (.aload_n 0, 1) := by decide +kernel
theorem dX8_readsWord_2 : decode cX8_readsWord 2 = .ok (.getfield 28, 3) := by decide +kernel
theorem dX8_readsWord_5 : decode cX8_readsWord 5 = .ok (.iconst 3, 1) := by decide +kernel
theorem dX8_readsWord_6 : decode cX8_readsWord 6 = .ok (.iaload, 1) := by decide +kernel
theorem dX8_readsWord_7 : decode cX8_readsWord 7 = .ok (.bipush 6, 2) := by decide +kernel
theorem dX8_readsWord_9 : decode cX8_readsWord 9 = .ok (.if_icmp .ge 7, 3) := by decide +kernel
theorem dX8_readsWord_12 : decode cX8_readsWord 12 = .ok (.iconst 1, 1) := by decide +kernel
theorem dX8_readsWord_13 : decode cX8_readsWord 13 = .ok (.goto 4, 3) := by decide +kernel
theorem dX8_readsWord_16 : decode cX8_readsWord 16 = .ok (.iconst 0, 1) := by decide +kernel
theorem dX8_readsWord_17 : decode cX8_readsWord 17 = .ok (.iconst 3, 1) := by decide +kernel
theorem dX8_readsWord_18 : decode cX8_readsWord 18 = .ok (.invokevirtual 114, 3) := by decide +kernel
theorem dX8_readsWord_21 : decode cX8_readsWord 21 = .ok (.pop, 1) := by decide +kernel
theorem dX8_readsWord_22 : decode cX8_readsWord 22 = .ok (.bipush 8, 2) := by decide +kernel
theorem dX8_readsWord_24 : decode cX8_readsWord 24 = .ok (.iconst 3, 1) := by decide +kernel
theorem dX8_readsWord_25 : decode cX8_readsWord 25 = .ok (.aload_n 0, 1) := by decide +kernel
theorem dX8_readsWord_26 : decode cX8_readsWord 26 = .ok (.getfield 28, 3) := by decide +kernel
theorem dX8_readsWord_29 : decode cX8_readsWord 29 = .ok (.iconst 3, 1) := by decide +kernel
theorem dX8_readsWord_30 : decode cX8_readsWord 30 = .ok (.iaload, 1) := by decide +kernel
theorem dX8_readsWord_31 : decode cX8_readsWord 31 = .ok (.bipush 6, 2) := by decide +kernel
theorem dX8_readsWord_33 : decode cX8_readsWord 33 = .ok (.if_icmp .ge 12, 3) := by decide +kernel
theorem dX8_readsWord_36 : decode cX8_readsWord 36 = .ok (.aload_n 0, 1) := by decide +kernel
theorem dX8_readsWord_37 : decode cX8_readsWord 37 = .ok (.getfield 28, 3) := by decide +kernel
theorem dX8_readsWord_40 : decode cX8_readsWord 40 = .ok (.iconst 3, 1) := by decide +kernel
theorem dX8_readsWord_41 : decode cX8_readsWord 41 = .ok (.iaload, 1) := by decide +kernel
theorem dX8_readsWord_42 : decode cX8_readsWord 42 = .ok (.goto 4, 3) := by decide +kernel
theorem dX8_readsWord_45 : decode cX8_readsWord 45 = .ok (.iconst 0, 1) := by decide +kernel
theorem dX8_readsWord_46 : decode cX8_readsWord 46 = .ok (.imul, 1) := by decide +kernel
theorem dX8_readsWord_47 : decode cX8_readsWord 47 = .ok (.iadd, 1) := by decide +kernel
theorem dX8_readsWord_48 : decode cX8_readsWord 48 = .ok (.istore_n 1, 1) := by decide +kernel
theorem dX8_readsWord_49 : decode cX8_readsWord 49 = .ok (.aload_n 0, 1) := by decide +kernel
theorem dX8_readsWord_50 : decode cX8_readsWord 50 = .ok (.invokevirtual 121, 3) := by decide +kernel
theorem dX8_readsWord_53 : decode cX8_readsWord 53 = .ok (.istore_n 2, 1) := by decide +kernel
theorem dX8_readsWord_54 : decode cX8_readsWord 54 = .ok (.aload_n 0, 1) := by decide +kernel
theorem dX8_readsWord_55 : decode cX8_readsWord 55 = .ok (.invokevirtual 121, 3) := by decide +kernel
theorem dX8_readsWord_58 : decode cX8_readsWord 58 = .ok (.istore_n 3, 1) := by decide +kernel
theorem dX8_readsWord_59 : decode cX8_readsWord 59 = .ok (.aload_n 0, 1) := by decide +kernel
theorem dX8_readsWord_60 : decode cX8_readsWord 60 = .ok (.invokevirtual 104, 3) := by decide +kernel
theorem dX8_readsWord_63 : decode cX8_readsWord 63 = .ok (.ifCond .eq 18, 3) := by decide +kernel
theorem dX8_readsWord_66 : decode cX8_readsWord 66 = .ok (.aload_n 0, 1) := by decide +kernel
theorem dX8_readsWord_67 : decode cX8_readsWord 67 = .ok (.getfield 98, 3) := by decide +kernel
theorem dX8_readsWord_70 : decode cX8_readsWord 70 = .ok (.iconst 1, 1) := by decide +kernel
theorem dX8_readsWord_71 : decode cX8_readsWord 71 = .ok (.if_icmp .eq 10, 3) := by decide +kernel
theorem dX8_readsWord_74 : decode cX8_readsWord 74 = .ok (.aload_n 0, 1) := by decide +kernel
theorem dX8_readsWord_75 : decode cX8_readsWord 75 = .ok (.iconst 0, 1) := by decide +kernel
theorem dX8_readsWord_76 : decode cX8_readsWord 76 = .ok (.iconst 1, 1) := by decide +kernel
theorem dX8_readsWord_77 : decode cX8_readsWord 77 = .ok (.invokevirtual 114, 3) := by decide +kernel
theorem dX8_readsWord_80 : decode cX8_readsWord 80 = .ok (.pop, 1) := by decide +kernel
theorem dX8_readsWord_81 : decode cX8_readsWord 81 = .ok (.aload_n 0, 1) := by decide +kernel
theorem dX8_readsWord_82 : decode cX8_readsWord 82 = .ok (.aload_n 0, 1) := by decide +kernel
theorem dX8_readsWord_83 : decode cX8_readsWord 83 = .ok (.iload_n 2, 1) := by decide +kernel
theorem dX8_readsWord_84 : decode cX8_readsWord 84 = .ok (.iload_n 3, 1) := by decide +kernel
theorem dX8_readsWord_85 : decode cX8_readsWord 85 = .ok (.aload_n 0, 1) := by decide +kernel
theorem dX8_readsWord_86 : decode cX8_readsWord 86 = .ok (.getfield 95, 3) := by decide +kernel
theorem dX8_readsWord_89 : decode cX8_readsWord 89 = .ok (.bipush 97, 2) := by decide +kernel
theorem dX8_readsWord_91 : decode cX8_readsWord 91 = .ok (.isub, 1) := by decide +kernel
theorem dX8_readsWord_92 : decode cX8_readsWord 92 = .ok (.invokevirtual 125, 3) := by decide +kernel
theorem dX8_readsWord_95 : decode cX8_readsWord 95 = .ok (.ifCond .ne 7, 3) := by decide +kernel
theorem dX8_readsWord_98 : decode cX8_readsWord 98 = .ok (.iconst 1, 1) := by decide +kernel
theorem dX8_readsWord_99 : decode cX8_readsWord 99 = .ok (.goto 4, 3) := by decide +kernel
theorem dX8_readsWord_102 : decode cX8_readsWord 102 = .ok (.iconst 0, 1) := by decide +kernel
theorem dX8_readsWord_103 : decode cX8_readsWord 103 = .ok (.iconst 2, 1) := by decide +kernel
theorem dX8_readsWord_104 : decode cX8_readsWord 104 = .ok (.invokevirtual 114, 3) := by decide +kernel
theorem dX8_readsWord_107 : decode cX8_readsWord 107 = .ok (.bipush 97, 2) := by decide +kernel
theorem dX8_readsWord_109 : decode cX8_readsWord 109 = .ok (.isub, 1) := by decide +kernel
theorem dX8_readsWord_110 : decode cX8_readsWord 110 = .ok (.istore 4, 2) := by decide +kernel
theorem dX8_readsWord_112 : decode cX8_readsWord 112 = .ok (.aload_n 0, 1) := by decide +kernel
theorem dX8_readsWord_113 : decode cX8_readsWord 113 = .ok (.aload_n 0, 1) := by decide +kernel
theorem dX8_readsWord_114 : decode cX8_readsWord 114 = .ok (.getfield 98, 3) := by decide +kernel
theorem dX8_readsWord_117 : decode cX8_readsWord 117 = .ok (.iconst 4, 1) := by decide +kernel
theorem dX8_readsWord_118 : decode cX8_readsWord 118 = .ok (.if_icmp .ne 7, 3) := by decide +kernel
theorem dX8_readsWord_121 : decode cX8_readsWord 121 = .ok (.iconst 1, 1) := by decide +kernel
theorem dX8_readsWord_122 : decode cX8_readsWord 122 = .ok (.goto 4, 3) := by decide +kernel
theorem dX8_readsWord_125 : decode cX8_readsWord 125 = .ok (.iconst 0, 1) := by decide +kernel
theorem dX8_readsWord_126 : decode cX8_readsWord 126 = .ok (.iconst 1, 1) := by decide +kernel
theorem dX8_readsWord_127 : decode cX8_readsWord 127 = .ok (.invokevirtual 114, 3) := by decide +kernel
theorem dX8_readsWord_130 : decode cX8_readsWord 130 = .ok (.pop, 1) := by decide +kernel
theorem dX8_readsWord_131 : decode cX8_readsWord 131 = .ok (.aload_n 0, 1) := by decide +kernel
theorem dX8_readsWord_132 : decode cX8_readsWord 132 = .ok (.invokevirtual 104, 3) := by decide +kernel
theorem dX8_readsWord_135 : decode cX8_readsWord 135 = .ok (.ifCond .eq 39, 3) := by decide +kernel
theorem dX8_readsWord_138 : decode cX8_readsWord 138 = .ok (.aload_n 0, 1) := by decide +kernel
theorem dX8_readsWord_139 : decode cX8_readsWord 139 = .ok (.getfield 28, 3) := by decide +kernel
theorem dX8_readsWord_142 : decode cX8_readsWord 142 = .ok (.iload_n 1, 1) := by decide +kernel
theorem dX8_readsWord_143 : decode cX8_readsWord 143 = .ok (.iload_n 2, 1) := by decide +kernel
theorem dX8_readsWord_144 : decode cX8_readsWord 144 = .ok (.iastore, 1) := by decide +kernel
theorem dX8_readsWord_145 : decode cX8_readsWord 145 = .ok (.aload_n 0, 1) := by decide +kernel
theorem dX8_readsWord_146 : decode cX8_readsWord 146 = .ok (.getfield 28, 3) := by decide +kernel
theorem dX8_readsWord_149 : decode cX8_readsWord 149 = .ok (.iload_n 1, 1) := by decide +kernel
theorem dX8_readsWord_150 : decode cX8_readsWord 150 = .ok (.iconst 1, 1) := by decide +kernel
theorem dX8_readsWord_151 : decode cX8_readsWord 151 = .ok (.iadd, 1) := by decide +kernel
theorem dX8_readsWord_152 : decode cX8_readsWord 152 = .ok (.iload_n 3, 1) := by decide +kernel
theorem dX8_readsWord_153 : decode cX8_readsWord 153 = .ok (.iastore, 1) := by decide +kernel
theorem dX8_readsWord_154 : decode cX8_readsWord 154 = .ok (.aload_n 0, 1) := by decide +kernel
theorem dX8_readsWord_155 : decode cX8_readsWord 155 = .ok (.getfield 28, 3) := by decide +kernel
theorem dX8_readsWord_158 : decode cX8_readsWord 158 = .ok (.iload_n 1, 1) := by decide +kernel
theorem dX8_readsWord_159 : decode cX8_readsWord 159 = .ok (.iconst 2, 1) := by decide +kernel
theorem dX8_readsWord_160 : decode cX8_readsWord 160 = .ok (.iadd, 1) := by decide +kernel
theorem dX8_readsWord_161 : decode cX8_readsWord 161 = .ok (.iload 4, 2) := by decide +kernel
theorem dX8_readsWord_163 : decode cX8_readsWord 163 = .ok (.iastore, 1) := by decide +kernel
theorem dX8_readsWord_164 : decode cX8_readsWord 164 = .ok (.aload_n 0, 1) := by decide +kernel
theorem dX8_readsWord_165 : decode cX8_readsWord 165 = .ok (.getfield 28, 3) := by decide +kernel
theorem dX8_readsWord_168 : decode cX8_readsWord 168 = .ok (.iconst 3, 1) := by decide +kernel
theorem dX8_readsWord_169 : decode cX8_readsWord 169 = .ok (.dup2, 1) := by decide +kernel
theorem dX8_readsWord_170 : decode cX8_readsWord 170 = .ok (.iaload, 1) := by decide +kernel
theorem dX8_readsWord_171 : decode cX8_readsWord 171 = .ok (.iconst 1, 1) := by decide +kernel
theorem dX8_readsWord_172 : decode cX8_readsWord 172 = .ok (.iadd, 1) := by decide +kernel
theorem dX8_readsWord_173 : decode cX8_readsWord 173 = .ok (.iastore, 1) := by decide +kernel
theorem dX8_readsWord_174 : decode cX8_readsWord 174 = .ok (.return_, 1) := by decide +kernel
set_option maxRecDepth 20000 in
theorem ggX8_readsGuard_X8_kindOf : GoodIn wsX8_readsGuard wsX8_kindOf := goodIn_r _ [7] (by decide +kernel) (by decide +kernel)
set_option maxRecDepth 20000 in
theorem gX8_readsGuard_X8_kindOf : GoodIn wsX8_readsGuard (va_wsS RX8 128 yX8_kindOf wsX8_kindOf) := goodIn_app (goodIn_of _ (by decide +kernel)) ggX8_readsGuard_X8_kindOf
set_option maxRecDepth 20000 in
theorem ggX8_readsGuard_X8_takes : GoodIn wsX8_readsGuard wsX8_takes := goodIn_r _ [11, 12, 13, 14, 1, 15, 16, 17, 6, 18, 19, 20, 21, 22, 23, 3, 24, 25, 26, 27, 28, 29, 30, 31, 32, 37, 38, 39, 40, 41, 42, 43, 44, 45, 46, 47, 48, 49, 50, 51, 52, 53, 54, 55, 56, 57, 58, 59] (by decide +kernel) (by decide +kernel)
set_option maxRecDepth 20000 in
theorem gX8_readsGuard_X8_takes : GoodIn wsX8_readsGuard (wsV RX8 114 RX8 yX8_takes wsX8_takes) := goodIn_app (goodIn_of _ (by decide +kernel)) ggX8_readsGuard_X8_takes
set_option maxRecDepth 20000 in
theorem ggX8_readsGuard_X8_figure : GoodIn wsX8_readsGuard wsX8_figure := goodIn_r _ [36, 3, 1, 15, 16, 17, 6, 18, 13, 8, 9, 10, 11, 12, 14, 19, 20, 21, 22, 23, 24, 25, 26, 27, 28, 29, 30, 31, 32, 37, 38, 39, 40, 41, 42, 43, 44, 45, 46, 47, 48, 49, 50, 51, 52, 53, 54, 55, 56, 57, 58, 59] (by decide +kernel) (by decide +kernel)
set_option maxRecDepth 20000 in
theorem gX8_readsGuard_X8_figure : GoodIn wsX8_readsGuard (wsV RX8 118 RX8 yX8_figure wsX8_figure) := goodIn_app (goodIn_of _ (by decide +kernel)) ggX8_readsGuard_X8_figure
set_option maxRecDepth 20000 in
theorem ggX8_readsGuard_X8_isWell : GoodIn wsX8_readsGuard wsX8_isWell := goodIn_r _ [18, 13, 37, 38, 39, 40, 41, 42, 43, 44, 45, 46, 47, 48, 49, 50, 51, 52, 53, 54, 55, 56, 57, 58, 59] (by decide +kernel) (by decide +kernel)
set_option maxRecDepth 20000 in
theorem gX8_readsGuard_X8_isWell : GoodIn wsX8_readsGuard (wsV RX8 104 RX8 yX8_isWell wsX8_isWell) := goodIn_app (goodIn_of _ (by decide +kernel)) ggX8_readsGuard_X8_isWell
theorem dX8_readsGuard_0 : decode cX8_readsGuard 0 = .ok (.aload_n 0, 1) := by decide +kernel
theorem dX8_readsGuard_1 : decode cX8_readsGuard 1 = .ok (.getfield 95, 3) := by decide +kernel
theorem dX8_readsGuard_4 : decode cX8_readsGuard 4 = .ok (.invokestatic 128, 3) := by decide +kernel
theorem dX8_readsGuard_7 : decode cX8_readsGuard 7 = .ok (.istore_n 1, 1) := by decide +kernel
theorem dX8_readsGuard_8 : decode cX8_readsGuard 8 = .ok (.aload_n 0, 1) := by decide +kernel
theorem dX8_readsGuard_9 : decode cX8_readsGuard 9 = .ok (.aload_n 0, 1) := by decide +kernel
theorem dX8_readsGuard_10 : decode cX8_readsGuard 10 = .ok (.getfield 28, 3) := by decide +kernel
theorem dX8_readsGuard_13 : decode cX8_readsGuard 13 = .ok (.iconst 4, 1) := by decide +kernel
theorem dX8_readsGuard_14 : decode cX8_readsGuard 14 = .ok (.iaload, 1) := by decide +kernel
theorem dX8_readsGuard_15 : decode cX8_readsGuard 15 = .ok (.iconst 4, 1) := by decide +kernel
theorem dX8_readsGuard_16 : decode cX8_readsGuard 16 = .ok (.if_icmp .ge 7, 3) := by decide +kernel
theorem dX8_readsGuard_19 : decode cX8_readsGuard 19 = .ok (.iconst 1, 1) := by decide +kernel
theorem dX8_readsGuard_20 : decode cX8_readsGuard 20 = .ok (.goto 4, 3) := by decide +kernel
theorem dX8_readsGuard_23 : decode cX8_readsGuard 23 = .ok (.iconst 0, 1) := by decide +kernel
theorem dX8_readsGuard_24 : decode cX8_readsGuard 24 = .ok (.iconst 3, 1) := by decide +kernel
theorem dX8_readsGuard_25 : decode cX8_readsGuard 25 = .ok (.invokevirtual 114, 3) := by decide +kernel
theorem dX8_readsGuard_28 : decode cX8_readsGuard 28 = .ok (.pop, 1) := by decide +kernel
theorem dX8_readsGuard_29 : decode cX8_readsGuard 29 = .ok (.bipush 26, 2) := by decide +kernel
theorem dX8_readsGuard_31 : decode cX8_readsGuard 31 = .ok (.iconst 3, 1) := by decide +kernel
theorem dX8_readsGuard_32 : decode cX8_readsGuard 32 = .ok (.aload_n 0, 1) := by decide +kernel
theorem dX8_readsGuard_33 : decode cX8_readsGuard 33 = .ok (.getfield 28, 3) := by decide +kernel
theorem dX8_readsGuard_36 : decode cX8_readsGuard 36 = .ok (.iconst 4, 1) := by decide +kernel
theorem dX8_readsGuard_37 : decode cX8_readsGuard 37 = .ok (.iaload, 1) := by decide +kernel
theorem dX8_readsGuard_38 : decode cX8_readsGuard 38 = .ok (.iconst 4, 1) := by decide +kernel
theorem dX8_readsGuard_39 : decode cX8_readsGuard 39 = .ok (.if_icmp .ge 12, 3) := by decide +kernel
theorem dX8_readsGuard_42 : decode cX8_readsGuard 42 = .ok (.aload_n 0, 1) := by decide +kernel
theorem dX8_readsGuard_43 : decode cX8_readsGuard 43 = .ok (.getfield 28, 3) := by decide +kernel
theorem dX8_readsGuard_46 : decode cX8_readsGuard 46 = .ok (.iconst 4, 1) := by decide +kernel
theorem dX8_readsGuard_47 : decode cX8_readsGuard 47 = .ok (.iaload, 1) := by decide +kernel
theorem dX8_readsGuard_48 : decode cX8_readsGuard 48 = .ok (.goto 4, 3) := by decide +kernel
theorem dX8_readsGuard_51 : decode cX8_readsGuard 51 = .ok (.iconst 0, 1) := by decide +kernel
theorem dX8_readsGuard_52 : decode cX8_readsGuard 52 = .ok (.imul, 1) := by decide +kernel
theorem dX8_readsGuard_53 : decode cX8_readsGuard 53 = .ok (.iadd, 1) := by decide +kernel
theorem dX8_readsGuard_54 : decode cX8_readsGuard 54 = .ok (.istore_n 2, 1) := by decide +kernel
theorem dX8_readsGuard_55 : decode cX8_readsGuard 55 = .ok (.aload_n 0, 1) := by decide +kernel
theorem dX8_readsGuard_56 : decode cX8_readsGuard 56 = .ok (.iconst 0, 1) := by decide +kernel
theorem dX8_readsGuard_57 : decode cX8_readsGuard 57 = .ok (.bipush 9, 2) := by decide +kernel
theorem dX8_readsGuard_59 : decode cX8_readsGuard 59 = .ok (.invokevirtual 118, 3) := by decide +kernel
theorem dX8_readsGuard_62 : decode cX8_readsGuard 62 = .ok (.istore_n 3, 1) := by decide +kernel
theorem dX8_readsGuard_63 : decode cX8_readsGuard 63 = .ok (.aload_n 0, 1) := by decide +kernel
theorem dX8_readsGuard_64 : decode cX8_readsGuard 64 = .ok (.aload_n 0, 1) := by decide +kernel
theorem dX8_readsGuard_65 : decode cX8_readsGuard 65 = .ok (.getfield 98, 3) := by decide +kernel
theorem dX8_readsGuard_68 : decode cX8_readsGuard 68 = .ok (.iconst 4, 1) := by decide +kernel
theorem dX8_readsGuard_69 : decode cX8_readsGuard 69 = .ok (.if_icmp .ne 7, 3) := by decide +kernel
theorem dX8_readsGuard_72 : decode cX8_readsGuard 72 = .ok (.iconst 1, 1) := by decide +kernel
theorem dX8_readsGuard_73 : decode cX8_readsGuard 73 = .ok (.goto 4, 3) := by decide +kernel
theorem dX8_readsGuard_76 : decode cX8_readsGuard 76 = .ok (.iconst 0, 1) := by decide +kernel
theorem dX8_readsGuard_77 : decode cX8_readsGuard 77 = .ok (.iconst 1, 1) := by decide +kernel
theorem dX8_readsGuard_78 : decode cX8_readsGuard 78 = .ok (.invokevirtual 114, 3) := by decide +kernel
theorem dX8_readsGuard_81 : decode cX8_readsGuard 81 = .ok (.pop, 1) := by decide +kernel
theorem dX8_readsGuard_82 : decode cX8_readsGuard 82 = .ok (.aload_n 0, 1) := by decide +kernel
theorem dX8_readsGuard_83 : decode cX8_readsGuard 83 = .ok (.invokevirtual 104, 3) := by decide +kernel
theorem dX8_readsGuard_86 : decode cX8_readsGuard 86 = .ok (.ifCond .eq 47, 3) := by decide +kernel
theorem dX8_readsGuard_89 : decode cX8_readsGuard 89 = .ok (.aload_n 0, 1) := by decide +kernel
theorem dX8_readsGuard_90 : decode cX8_readsGuard 90 = .ok (.getfield 28, 3) := by decide +kernel
theorem dX8_readsGuard_93 : decode cX8_readsGuard 93 = .ok (.iload_n 2, 1) := by decide +kernel
theorem dX8_readsGuard_94 : decode cX8_readsGuard 94 = .ok (.iload_n 1, 1) := by decide +kernel
theorem dX8_readsGuard_95 : decode cX8_readsGuard 95 = .ok (.iastore, 1) := by decide +kernel
theorem dX8_readsGuard_96 : decode cX8_readsGuard 96 = .ok (.aload_n 0, 1) := by decide +kernel
theorem dX8_readsGuard_97 : decode cX8_readsGuard 97 = .ok (.getfield 28, 3) := by decide +kernel
theorem dX8_readsGuard_100 : decode cX8_readsGuard 100 = .ok (.iload_n 2, 1) := by decide +kernel
theorem dX8_readsGuard_101 : decode cX8_readsGuard 101 = .ok (.iconst 1, 1) := by decide +kernel
theorem dX8_readsGuard_102 : decode cX8_readsGuard 102 = .ok (.iadd, 1) := by decide +kernel
theorem dX8_readsGuard_103 : decode cX8_readsGuard 103 = .ok (.iload_n 3, 1) := by decide +kernel
theorem dX8_readsGuard_104 : decode cX8_readsGuard 104 = .ok (.iastore, 1) := by decide +kernel
theorem dX8_readsGuard_105 : decode cX8_readsGuard 105 = .ok (.aload_n 0, 1) := by decide +kernel
theorem dX8_readsGuard_106 : decode cX8_readsGuard 106 = .ok (.getfield 28, 3) := by decide +kernel
theorem dX8_readsGuard_109 : decode cX8_readsGuard 109 = .ok (.bipush 6, 2) := by decide +kernel
theorem dX8_readsGuard_111 : decode cX8_readsGuard 111 = .ok (.dup2, 1) := by decide +kernel
theorem dX8_readsGuard_112 : decode cX8_readsGuard 112 = .ok (.iaload, 1) := by decide +kernel
theorem dX8_readsGuard_113 : decode cX8_readsGuard 113 = .ok (.iconst 1, 1) := by decide +kernel
theorem dX8_readsGuard_114 : decode cX8_readsGuard 114 = .ok (.aload_n 0, 1) := by decide +kernel
theorem dX8_readsGuard_115 : decode cX8_readsGuard 115 = .ok (.getfield 28, 3) := by decide +kernel
theorem dX8_readsGuard_118 : decode cX8_readsGuard 118 = .ok (.iconst 4, 1) := by decide +kernel
theorem dX8_readsGuard_119 : decode cX8_readsGuard 119 = .ok (.iaload, 1) := by decide +kernel
theorem dX8_readsGuard_120 : decode cX8_readsGuard 120 = .ok (.ishl, 1) := by decide +kernel
theorem dX8_readsGuard_121 : decode cX8_readsGuard 121 = .ok (.ior, 1) := by decide +kernel
theorem dX8_readsGuard_122 : decode cX8_readsGuard 122 = .ok (.iastore, 1) := by decide +kernel
theorem dX8_readsGuard_123 : decode cX8_readsGuard 123 = .ok (.aload_n 0, 1) := by decide +kernel
theorem dX8_readsGuard_124 : decode cX8_readsGuard 124 = .ok (.getfield 28, 3) := by decide +kernel
theorem dX8_readsGuard_127 : decode cX8_readsGuard 127 = .ok (.iconst 4, 1) := by decide +kernel
theorem dX8_readsGuard_128 : decode cX8_readsGuard 128 = .ok (.dup2, 1) := by decide +kernel
theorem dX8_readsGuard_129 : decode cX8_readsGuard 129 = .ok (.iaload, 1) := by decide +kernel
theorem dX8_readsGuard_130 : decode cX8_readsGuard 130 = .ok (.iconst 1, 1) := by decide +kernel
theorem dX8_readsGuard_131 : decode cX8_readsGuard 131 = .ok (.iadd, 1) := by decide +kernel
theorem dX8_readsGuard_132 : decode cX8_readsGuard 132 = .ok (.iastore, 1) := by decide +kernel
theorem dX8_readsGuard_133 : decode cX8_readsGuard 133 = .ok (.return_, 1) := by decide +kernel
set_option maxRecDepth 20000 in
theorem ggX8_must_X8_isWell : GoodIn wsX8_must wsX8_isWell := goodIn_r _ [5, 6, 29, 30, 31, 32, 33, 34, 35, 36, 37, 38, 39, 40, 41, 42, 43, 44, 45, 46, 47, 48, 49, 50, 51] (by decide +kernel) (by decide +kernel)
set_option maxRecDepth 20000 in
theorem gX8_must_X8_isWell : GoodIn wsX8_must (wsV RX8 104 RX8 yX8_isWell wsX8_isWell) := goodIn_app (goodIn_of _ (by decide +kernel)) ggX8_must_X8_isWell
set_option maxRecDepth 20000 in
theorem ggX8_must_X8_takes : GoodIn wsX8_must wsX8_takes := goodIn_r _ [10, 11, 6, 12, 13, 1, 2, 3, 4, 5, 14, 15, 16, 17, 18, 19, 20, 21, 22, 23, 24, 25, 26, 27, 28, 29, 30, 31, 32, 33, 34, 35, 36, 37, 38, 39, 40, 41, 42, 43, 44, 45, 46, 47, 48, 49, 50, 51] (by decide +kernel) (by decide +kernel)
set_option maxRecDepth 20000 in
theorem gX8_must_X8_takes : GoodIn wsX8_must (wsV RX8 114 RX8 yX8_takes wsX8_takes) := goodIn_app (goodIn_of _ (by decide +kernel)) ggX8_must_X8_takes
theorem dX8_must_0 : decode cX8_must 0 = .ok (.aload_n 0, 1) := by decide +kernel
theorem dX8_must_1 : decode cX8_must 1 = .ok (.invokevirtual 104, 3) := by decide +kernel
theorem dX8_must_4 : decode cX8_must 4 = .ok (.ifCond .eq 14, 3) := by decide +kernel
theorem dX8_must_7 : decode cX8_must 7 = .ok (.iload_n 1, 1) := by decide +kernel
theorem dX8_must_8 : decode cX8_must 8 = .ok (.ifCond .ne 10, 3) := by decide +kernel
theorem dX8_must_11 : decode cX8_must 11 = .ok (.aload_n 0, 1) := by decide +kernel
theorem dX8_must_12 : decode cX8_must 12 = .ok (.iconst 0, 1) := by decide +kernel
theorem dX8_must_13 : decode cX8_must 13 = .ok (.iconst 1, 1) := by decide +kernel
theorem dX8_must_14 : decode cX8_must 14 = .ok (.invokevirtual 114, 3) := by decide +kernel
theorem dX8_must_17 : decode cX8_must 17 = .ok (.pop, 1) := by decide +kernel
theorem dX8_must_18 : decode cX8_must 18 = .ok (.return_, 1) := by decide +kernel
set_option maxRecDepth 20000 in
theorem ggX8_gate_X8_advances : GoodIn wsX8_gate wsX8_advances := goodIn_r _ [14, 2, 15, 5, 4, 16, 17, 18, 13, 19, 6, 20, 21, 22, 23, 67, 68, 69, 70, 71, 72, 73, 74, 75, 76, 77, 78, 79, 80, 81, 82, 83, 84, 85, 86, 87, 88, 89] (by decide +kernel) (by decide +kernel)
set_option maxRecDepth 20000 in
theorem gX8_gate_X8_advances : GoodIn wsX8_gate (wsV RX8 111 RX8 yX8_advances wsX8_advances) := goodIn_app (goodIn_of _ (by decide +kernel)) ggX8_gate_X8_advances
set_option maxRecDepth 20000 in
theorem ggX8_gate_X8_takes : GoodIn wsX8_gate wsX8_takes := goodIn_r _ [27, 15, 3, 28, 5, 29, 30, 31, 13, 32, 10, 11, 12, 14, 2, 4, 16, 17, 18, 19, 6, 20, 21, 22, 23, 67, 68, 69, 70, 71, 72, 73, 74, 75, 76, 77, 78, 79, 80, 81, 82, 83, 84, 85, 86, 87, 88, 89] (by decide +kernel) (by decide +kernel)
set_option maxRecDepth 20000 in
theorem gX8_gate_X8_takes : GoodIn wsX8_gate (wsV RX8 114 RX8 yX8_takes wsX8_takes) := goodIn_app (goodIn_of _ (by decide +kernel)) ggX8_gate_X8_takes
set_option maxRecDepth 20000 in
theorem ggX8_gate_X8_figure : GoodIn wsX8_gate wsX8_figure := goodIn_r _ [36, 4, 5, 29, 30, 31, 13, 32, 3, 24, 25, 26, 27, 15, 28, 10, 11, 12, 14, 2, 16, 17, 18, 19, 6, 20, 21, 22, 23, 67, 68, 69, 70, 71, 72, 73, 74, 75, 76, 77, 78, 79, 80, 81, 82, 83, 84, 85, 86, 87, 88, 89] (by decide +kernel) (by decide +kernel)
set_option maxRecDepth 20000 in
theorem gX8_gate_X8_figure : GoodIn wsX8_gate (wsV RX8 118 RX8 yX8_figure wsX8_figure) := goodIn_app (goodIn_of _ (by decide +kernel)) ggX8_gate_X8_figure
set_option maxRecDepth 20000 in
theorem ggX8_gate_X8_follows : GoodIn wsX8_gate wsX8_follows := goodIn_r _ [40, 4, 24, 25, 26, 13, 27, 15, 3, 28, 5, 29, 30, 31, 32, 10, 11, 12, 14, 2, 16, 17, 18, 19, 6, 20, 21, 22, 23, 33, 34, 35, 36, 67, 68, 69, 70, 71, 72, 73, 74, 75, 76, 77, 78, 79, 80, 81, 82, 83, 84, 85, 86, 87, 88, 89] (by decide +kernel) (by decide +kernel)
set_option maxRecDepth 20000 in
theorem gX8_gate_X8_follows : GoodIn wsX8_gate (wsV RX8 131 RX8 yX8_follows wsX8_follows) := goodIn_app (goodIn_of _ (by decide +kernel)) ggX8_gate_X8_follows
set_option maxRecDepth 20000 in
theorem ggX8_gate_X8_must : GoodIn wsX8_gate wsX8_must := goodIn_r _ [44, 29, 30, 31, 13, 32, 3, 24, 25, 26, 27, 15, 28, 5, 10, 11, 12, 14, 2, 4, 16, 17, 18, 19, 6, 20, 21, 22, 23, 67, 68, 69, 70, 71, 72, 73, 74, 75, 76, 77, 78, 79, 80, 81, 82, 83, 84, 85, 86, 87, 88, 89] (by decide +kernel) (by decide +kernel)
set_option maxRecDepth 20000 in
theorem gX8_gate_X8_must : GoodIn wsX8_gate (wsV RX8 134 RX8 yX8_must wsX8_must) := goodIn_app (goodIn_of _ (by decide +kernel)) ggX8_gate_X8_must
set_option maxRecDepth 20000 in
theorem ggX8_gate_X8_isWell : GoodIn wsX8_gate wsX8_isWell := goodIn_r _ [32, 3, 67, 68, 69, 70, 71, 72, 73, 74, 75, 76, 77, 78, 79, 80, 81, 82, 83, 84, 85, 86, 87, 88, 89] (by decide +kernel) (by decide +kernel)
set_option maxRecDepth 20000 in
theorem gX8_gate_X8_isWell : GoodIn wsX8_gate (wsV RX8 104 RX8 yX8_isWell wsX8_isWell) := goodIn_app (goodIn_of _ (by decide +kernel)) ggX8_gate_X8_isWell
set_option maxRecDepth 20000 in
theorem ggX8_gate_X8_readsWord : GoodIn wsX8_gate wsX8_readsWord := goodIn_r _ [48, 1, 4, 5, 24, 25, 26, 13, 27, 15, 3, 28, 29, 30, 31, 32, 10, 11, 12, 14, 2, 16, 17, 18, 19, 6, 20, 21, 22, 23, 49, 50, 51, 52, 53, 54, 55, 56, 67, 68, 69, 70, 71, 72, 73, 74, 75, 76, 77, 78, 79, 80, 81, 82, 83, 84, 85, 86, 87, 88, 89] (by decide +kernel) (by decide +kernel)
set_option maxRecDepth 20000 in
theorem gX8_gate_X8_readsWord : GoodIn wsX8_gate (wsV RX8 138 RX8 yX8_readsWord wsX8_readsWord) := goodIn_app (goodIn_of _ (by decide +kernel)) ggX8_gate_X8_readsWord
set_option maxRecDepth 20000 in
theorem ggX8_gate_X8_kindOf : GoodIn wsX8_gate wsX8_kindOf := goodIn_r _ [59] (by decide +kernel) (by decide +kernel)
set_option maxRecDepth 20000 in
theorem gX8_gate_X8_kindOf : GoodIn wsX8_gate (va_wsS RX8 128 yX8_kindOf wsX8_kindOf) := goodIn_app (goodIn_of _ (by decide +kernel)) ggX8_gate_X8_kindOf
set_option maxRecDepth 20000 in
theorem ggX8_gate_X8_readsGuard : GoodIn wsX8_gate wsX8_readsGuard := goodIn_r _ [63, 5, 1, 4, 57, 58, 13, 59, 24, 25, 26, 27, 15, 3, 28, 29, 30, 31, 32, 10, 11, 12, 14, 2, 16, 17, 18, 19, 6, 20, 21, 22, 23, 33, 34, 35, 36, 67, 68, 69, 70, 71, 72, 73, 74, 75, 76, 77, 78, 79, 80, 81, 82, 83, 84, 85, 86, 87, 88, 89] (by decide +kernel) (by decide +kernel)
set_option maxRecDepth 20000 in
theorem gX8_gate_X8_readsGuard : GoodIn wsX8_gate (wsV RX8 141 RX8 yX8_readsGuard wsX8_readsGuard) := goodIn_app (goodIn_of _ (by decide +kernel)) ggX8_gate_X8_readsGuard
set_option maxRecDepth 20000 in
theorem ggX8_gate_X8_copies : GoodIn wsX8_gate wsX8_copies := goodIn_r _ [66] (by decide +kernel) (by decide +kernel)
set_option maxRecDepth 20000 in
theorem gX8_gate_X8_copies : GoodIn wsX8_gate (va_wsS RX8 145 yX8_copies wsX8_copies) := goodIn_app (goodIn_of _ (by decide +kernel)) ggX8_gate_X8_copies
theorem dX8_gate_0 : decode cX8_gate 0 = .ok (.iconst 0, 1) := by decide +kernel
theorem dX8_gate_1 : decode cX8_gate 1 = .ok (.istore_n 1, 1) := by decide +kernel
theorem dX8_gate_2 : decode cX8_gate 2 = .ok (.iload_n 1, 1) := by decide +kernel
theorem dX8_gate_3 : decode cX8_gate 3 = .ok (.bipush 65, 2) := by decide +kernel
theorem dX8_gate_5 : decode cX8_gate 5 = .ok (.if_icmp .ge 16, 3) := by decide +kernel
theorem dX8_gate_8 : decode cX8_gate 8 = .ok (.aload_n 0, 1) := by decide +kernel
theorem dX8_gate_9 : decode cX8_gate 9 = .ok (.getfield 28, 3) := by decide +kernel
theorem dX8_gate_12 : decode cX8_gate 12 = .ok (.iload_n 1, 1) := by decide +kernel
theorem dX8_gate_13 : decode cX8_gate 13 = .ok (.iconst 0, 1) := by decide +kernel
theorem dX8_gate_14 : decode cX8_gate 14 = .ok (.iastore, 1) := by decide +kernel
theorem dX8_gate_15 : decode cX8_gate 15 = .ok (.iinc 1 1, 3) := by decide +kernel
theorem dX8_gate_18 : decode cX8_gate 18 = .ok (.goto (-16), 3) := by decide +kernel
theorem dX8_gate_21 : decode cX8_gate 21 = .ok (.aload_n 0, 1) := by decide +kernel
theorem dX8_gate_22 : decode cX8_gate 22 = .ok (.iconst 0, 1) := by decide +kernel
theorem dX8_gate_23 : decode cX8_gate 23 = .ok (.putfield 86, 3) := by decide +kernel
theorem dX8_gate_26 : decode cX8_gate 26 = .ok (.aload_n 0, 1) := by decide +kernel
theorem dX8_gate_27 : decode cX8_gate 27 = .ok (.iconst (-1), 1) := by decide +kernel
theorem dX8_gate_28 : decode cX8_gate 28 = .ok (.putfield 101, 3) := by decide +kernel
theorem dX8_gate_31 : decode cX8_gate 31 = .ok (.aload_n 0, 1) := by decide +kernel
theorem dX8_gate_32 : decode cX8_gate 32 = .ok (.invokevirtual 111, 3) := by decide +kernel
theorem dX8_gate_35 : decode cX8_gate 35 = .ok (.aload_n 0, 1) := by decide +kernel
theorem dX8_gate_36 : decode cX8_gate 36 = .ok (.aload_n 0, 1) := by decide +kernel
theorem dX8_gate_37 : decode cX8_gate 37 = .ok (.getfield 98, 3) := by decide +kernel
theorem dX8_gate_40 : decode cX8_gate 40 = .ok (.iconst 1, 1) := by decide +kernel
theorem dX8_gate_41 : decode cX8_gate 41 = .ok (.if_icmp .ne 16, 3) := by decide +kernel
theorem dX8_gate_44 : decode cX8_gate 44 = .ok (.aload_n 0, 1) := by decide +kernel
theorem dX8_gate_45 : decode cX8_gate 45 = .ok (.getfield 95, 3) := by decide +kernel
theorem dX8_gate_48 : decode cX8_gate 48 = .ok (.bipush 113, 2) := by decide +kernel
theorem dX8_gate_50 : decode cX8_gate 50 = .ok (.if_icmp .ne 7, 3) := by decide +kernel
theorem dX8_gate_53 : decode cX8_gate 53 = .ok (.iconst 1, 1) := by decide +kernel
theorem dX8_gate_54 : decode cX8_gate 54 = .ok (.goto 4, 3) := by decide +kernel
theorem dX8_gate_57 : decode cX8_gate 57 = .ok (.iconst 0, 1) := by decide +kernel
theorem dX8_gate_58 : decode cX8_gate 58 = .ok (.iconst 1, 1) := by decide +kernel
theorem dX8_gate_59 : decode cX8_gate 59 = .ok (.invokevirtual 114, 3) := by decide +kernel
theorem dX8_gate_62 : decode cX8_gate 62 = .ok (.pop, 1) := by decide +kernel
theorem dX8_gate_63 : decode cX8_gate 63 = .ok (.aload_n 0, 1) := by decide +kernel
theorem dX8_gate_64 : decode cX8_gate 64 = .ok (.getfield 28, 3) := by decide +kernel
theorem dX8_gate_67 : decode cX8_gate 67 = .ok (.iconst 0, 1) := by decide +kernel
theorem dX8_gate_68 : decode cX8_gate 68 = .ok (.aload_n 0, 1) := by decide +kernel
theorem dX8_gate_69 : decode cX8_gate 69 = .ok (.iconst 0, 1) := by decide +kernel
theorem dX8_gate_70 : decode cX8_gate 70 = .ok (.bipush 9, 2) := by decide +kernel
theorem dX8_gate_72 : decode cX8_gate 72 = .ok (.invokevirtual 118, 3) := by decide +kernel
theorem dX8_gate_75 : decode cX8_gate 75 = .ok (.iastore, 1) := by decide +kernel
theorem dX8_gate_76 : decode cX8_gate 76 = .ok (.aload_n 0, 1) := by decide +kernel
theorem dX8_gate_77 : decode cX8_gate 77 = .ok (.getfield 28, 3) := by decide +kernel
theorem dX8_gate_80 : decode cX8_gate 80 = .ok (.iconst 1, 1) := by decide +kernel
theorem dX8_gate_81 : decode cX8_gate 81 = .ok (.aload_n 0, 1) := by decide +kernel
theorem dX8_gate_82 : decode cX8_gate 82 = .ok (.iconst 0, 1) := by decide +kernel
theorem dX8_gate_83 : decode cX8_gate 83 = .ok (.bipush 9, 2) := by decide +kernel
theorem dX8_gate_85 : decode cX8_gate 85 = .ok (.invokevirtual 131, 3) := by decide +kernel
theorem dX8_gate_88 : decode cX8_gate 88 = .ok (.iastore, 1) := by decide +kernel
theorem dX8_gate_89 : decode cX8_gate 89 = .ok (.aload_n 0, 1) := by decide +kernel
theorem dX8_gate_90 : decode cX8_gate 90 = .ok (.getfield 28, 3) := by decide +kernel
theorem dX8_gate_93 : decode cX8_gate 93 = .ok (.iconst 2, 1) := by decide +kernel
theorem dX8_gate_94 : decode cX8_gate 94 = .ok (.aload_n 0, 1) := by decide +kernel
theorem dX8_gate_95 : decode cX8_gate 95 = .ok (.iconst 0, 1) := by decide +kernel
theorem dX8_gate_96 : decode cX8_gate 96 = .ok (.bipush 6, 2) := by decide +kernel
theorem dX8_gate_98 : decode cX8_gate 98 = .ok (.invokevirtual 131, 3) := by decide +kernel
theorem dX8_gate_101 : decode cX8_gate 101 = .ok (.iastore, 1) := by decide +kernel
theorem dX8_gate_102 : decode cX8_gate 102 = .ok (.aload_n 0, 1) := by decide +kernel
theorem dX8_gate_103 : decode cX8_gate 103 = .ok (.aload_n 0, 1) := by decide +kernel
theorem dX8_gate_104 : decode cX8_gate 104 = .ok (.getfield 98, 3) := by decide +kernel
theorem dX8_gate_107 : decode cX8_gate 107 = .ok (.iconst 4, 1) := by decide +kernel
theorem dX8_gate_108 : decode cX8_gate 108 = .ok (.if_icmp .ne 7, 3) := by decide +kernel
theorem dX8_gate_111 : decode cX8_gate 111 = .ok (.iconst 1, 1) := by decide +kernel
theorem dX8_gate_112 : decode cX8_gate 112 = .ok (.goto 4, 3) := by decide +kernel
theorem dX8_gate_115 : decode cX8_gate 115 = .ok (.iconst 0, 1) := by decide +kernel
theorem dX8_gate_116 : decode cX8_gate 116 = .ok (.iconst 1, 1) := by decide +kernel
theorem dX8_gate_117 : decode cX8_gate 117 = .ok (.invokevirtual 114, 3) := by decide +kernel
theorem dX8_gate_120 : decode cX8_gate 120 = .ok (.pop, 1) := by decide +kernel
theorem dX8_gate_121 : decode cX8_gate 121 = .ok (.aload_n 0, 1) := by decide +kernel
theorem dX8_gate_122 : decode cX8_gate 122 = .ok (.aload_n 0, 1) := by decide +kernel
theorem dX8_gate_123 : decode cX8_gate 123 = .ok (.getfield 98, 3) := by decide +kernel
theorem dX8_gate_126 : decode cX8_gate 126 = .ok (.iconst 1, 1) := by decide +kernel
theorem dX8_gate_127 : decode cX8_gate 127 = .ok (.if_icmp .ne 16, 3) := by decide +kernel
theorem dX8_gate_130 : decode cX8_gate 130 = .ok (.aload_n 0, 1) := by decide +kernel
theorem dX8_gate_131 : decode cX8_gate 131 = .ok (.getfield 95, 3) := by decide +kernel
theorem dX8_gate_134 : decode cX8_gate 134 = .ok (.bipush 119, 2) := by decide +kernel
theorem dX8_gate_136 : decode cX8_gate 136 = .ok (.if_icmp .ne 7, 3) := by decide +kernel
theorem dX8_gate_139 : decode cX8_gate 139 = .ok (.iconst 1, 1) := by decide +kernel
theorem dX8_gate_140 : decode cX8_gate 140 = .ok (.goto 4, 3) := by decide +kernel
theorem dX8_gate_143 : decode cX8_gate 143 = .ok (.iconst 0, 1) := by decide +kernel
theorem dX8_gate_144 : decode cX8_gate 144 = .ok (.invokevirtual 134, 3) := by decide +kernel
theorem dX8_gate_147 : decode cX8_gate 147 = .ok (.aload_n 0, 1) := by decide +kernel
theorem dX8_gate_148 : decode cX8_gate 148 = .ok (.invokevirtual 104, 3) := by decide +kernel
theorem dX8_gate_151 : decode cX8_gate 151 = .ok (.ifCond .eq 27, 3) := by decide +kernel
theorem dX8_gate_154 : decode cX8_gate 154 = .ok (.aload_n 0, 1) := by decide +kernel
theorem dX8_gate_155 : decode cX8_gate 155 = .ok (.getfield 98, 3) := by decide +kernel
theorem dX8_gate_158 : decode cX8_gate 158 = .ok (.iconst 1, 1) := by decide +kernel
theorem dX8_gate_159 : decode cX8_gate 159 = .ok (.if_icmp .ne 19, 3) := by decide +kernel
theorem dX8_gate_162 : decode cX8_gate 162 = .ok (.aload_n 0, 1) := by decide +kernel
theorem dX8_gate_163 : decode cX8_gate 163 = .ok (.getfield 95, 3) := by decide +kernel
theorem dX8_gate_166 : decode cX8_gate 166 = .ok (.bipush 119, 2) := by decide +kernel
theorem dX8_gate_168 : decode cX8_gate 168 = .ok (.if_icmp .ne 10, 3) := by decide +kernel
theorem dX8_gate_171 : decode cX8_gate 171 = .ok (.aload_n 0, 1) := by decide +kernel
theorem dX8_gate_172 : decode cX8_gate 172 = .ok (.invokevirtual 138, 3) := by decide +kernel
theorem dX8_gate_175 : decode cX8_gate 175 = .ok (.goto (-28), 3) := by decide +kernel
theorem dX8_gate_178 : decode cX8_gate 178 = .ok (.aload_n 0, 1) := by decide +kernel
theorem dX8_gate_179 : decode cX8_gate 179 = .ok (.aload_n 0, 1) := by decide +kernel
theorem dX8_gate_180 : decode cX8_gate 180 = .ok (.getfield 98, 3) := by decide +kernel
theorem dX8_gate_183 : decode cX8_gate 183 = .ok (.iconst 1, 1) := by decide +kernel
theorem dX8_gate_184 : decode cX8_gate 184 = .ok (.if_icmp .ne 17, 3) := by decide +kernel
theorem dX8_gate_187 : decode cX8_gate 187 = .ok (.aload_n 0, 1) := by decide +kernel
theorem dX8_gate_188 : decode cX8_gate 188 = .ok (.getfield 95, 3) := by decide +kernel
theorem dX8_gate_191 : decode cX8_gate 191 = .ok (.invokestatic 128, 3) := by decide +kernel
theorem dX8_gate_194 : decode cX8_gate 194 = .ok (.ifCond .le 7, 3) := by decide +kernel
theorem dX8_gate_197 : decode cX8_gate 197 = .ok (.iconst 1, 1) := by decide +kernel
theorem dX8_gate_198 : decode cX8_gate 198 = .ok (.goto 4, 3) := by decide +kernel
theorem dX8_gate_201 : decode cX8_gate 201 = .ok (.iconst 0, 1) := by decide +kernel
theorem dX8_gate_202 : decode cX8_gate 202 = .ok (.invokevirtual 134, 3) := by decide +kernel
theorem dX8_gate_205 : decode cX8_gate 205 = .ok (.aload_n 0, 1) := by decide +kernel
theorem dX8_gate_206 : decode cX8_gate 206 = .ok (.invokevirtual 104, 3) := by decide +kernel
theorem dX8_gate_209 : decode cX8_gate 209 = .ok (.ifCond .eq 28, 3) := by decide +kernel
theorem dX8_gate_212 : decode cX8_gate 212 = .ok (.aload_n 0, 1) := by decide +kernel
theorem dX8_gate_213 : decode cX8_gate 213 = .ok (.getfield 98, 3) := by decide +kernel
theorem dX8_gate_216 : decode cX8_gate 216 = .ok (.iconst 1, 1) := by decide +kernel
theorem dX8_gate_217 : decode cX8_gate 217 = .ok (.if_icmp .ne 20, 3) := by decide +kernel
theorem dX8_gate_220 : decode cX8_gate 220 = .ok (.aload_n 0, 1) := by decide +kernel
theorem dX8_gate_221 : decode cX8_gate 221 = .ok (.getfield 95, 3) := by decide +kernel
theorem dX8_gate_224 : decode cX8_gate 224 = .ok (.invokestatic 128, 3) := by decide +kernel
theorem dX8_gate_227 : decode cX8_gate 227 = .ok (.ifCond .le 10, 3) := by decide +kernel
theorem dX8_gate_230 : decode cX8_gate 230 = .ok (.aload_n 0, 1) := by decide +kernel
theorem dX8_gate_231 : decode cX8_gate 231 = .ok (.invokevirtual 141, 3) := by decide +kernel
theorem dX8_gate_234 : decode cX8_gate 234 = .ok (.goto (-29), 3) := by decide +kernel
theorem dX8_gate_237 : decode cX8_gate 237 = .ok (.aload_n 0, 1) := by decide +kernel
theorem dX8_gate_238 : decode cX8_gate 238 = .ok (.aload_n 0, 1) := by decide +kernel
theorem dX8_gate_239 : decode cX8_gate 239 = .ok (.getfield 98, 3) := by decide +kernel
theorem dX8_gate_242 : decode cX8_gate 242 = .ok (.ifCond .ne 7, 3) := by decide +kernel
theorem dX8_gate_245 : decode cX8_gate 245 = .ok (.iconst 1, 1) := by decide +kernel
theorem dX8_gate_246 : decode cX8_gate 246 = .ok (.goto 4, 3) := by decide +kernel
theorem dX8_gate_249 : decode cX8_gate 249 = .ok (.iconst 0, 1) := by decide +kernel
theorem dX8_gate_250 : decode cX8_gate 250 = .ok (.invokevirtual 134, 3) := by decide +kernel
theorem dX8_gate_253 : decode cX8_gate 253 = .ok (.aload_n 0, 1) := by decide +kernel
theorem dX8_gate_254 : decode cX8_gate 254 = .ok (.iconst 0, 1) := by decide +kernel
theorem dX8_gate_255 : decode cX8_gate 255 = .ok (.putfield 82, 3) := by decide +kernel
theorem dX8_gate_258 : decode cX8_gate 258 = .ok (.aload_n 0, 1) := by decide +kernel
theorem dX8_gate_259 : decode cX8_gate 259 = .ok (.invokevirtual 104, 3) := by decide +kernel
theorem dX8_gate_262 : decode cX8_gate 262 = .ok (.ifCond .ne 11, 3) := by decide +kernel
theorem dX8_gate_265 : decode cX8_gate 265 = .ok (.ldc 144, 2) := by decide +kernel
theorem dX8_gate_267 : decode cX8_gate 267 = .ok (.aload_n 0, 1) := by decide +kernel
theorem dX8_gate_268 : decode cX8_gate 268 = .ok (.getfield 101, 3) := by decide +kernel
theorem dX8_gate_271 : decode cX8_gate 271 = .ok (.isub, 1) := by decide +kernel
theorem dX8_gate_272 : decode cX8_gate 272 = .ok (.ireturn, 1) := by decide +kernel
theorem dX8_gate_273 : decode cX8_gate 273 = .ok (.aload_n 0, 1) := by decide +kernel
theorem dX8_gate_274 : decode cX8_gate 274 = .ok (.getfield 28, 3) := by decide +kernel
theorem dX8_gate_277 : decode cX8_gate 277 = .ok (.iconst 0, 1) := by decide +kernel
theorem dX8_gate_278 : decode cX8_gate 278 = .ok (.aload_n 0, 1) := by decide +kernel
theorem dX8_gate_279 : decode cX8_gate 279 = .ok (.getfield 25, 3) := by decide +kernel
theorem dX8_gate_282 : decode cX8_gate 282 = .ok (.iconst 0, 1) := by decide +kernel
theorem dX8_gate_283 : decode cX8_gate 283 = .ok (.invokestatic 145, 3) := by decide +kernel
theorem dX8_gate_286 : decode cX8_gate 286 = .ok (.aload_n 0, 1) := by decide +kernel
theorem dX8_gate_287 : decode cX8_gate 287 = .ok (.iconst 0, 1) := by decide +kernel
theorem dX8_gate_288 : decode cX8_gate 288 = .ok (.putfield 149, 3) := by decide +kernel
theorem dX8_gate_291 : decode cX8_gate 291 = .ok (.aload_n 0, 1) := by decide +kernel
theorem dX8_gate_292 : decode cX8_gate 292 = .ok (.getfield 25, 3) := by decide +kernel
theorem dX8_gate_295 : decode cX8_gate 295 = .ok (.iconst 3, 1) := by decide +kernel
theorem dX8_gate_296 : decode cX8_gate 296 = .ok (.iaload, 1) := by decide +kernel
theorem dX8_gate_297 : decode cX8_gate 297 = .ok (.ireturn, 1) := by decide +kernel
theorem dX8_fault_0 : decode cX8_fault 0 = .ok (.aload_n 0, 1) := by decide +kernel
theorem dX8_fault_1 : decode cX8_fault 1 = .ok (.getfield 108, 3) := by decide +kernel
theorem dX8_fault_4 : decode cX8_fault 4 = .ok (.ireturn, 1) := by decide +kernel
theorem dX8_isGate_0 : decode cX8_isGate 0 = .ok (.aload_n 0, 1) := by decide +kernel
theorem dX8_isGate_1 : decode cX8_isGate 1 = .ok (.getfield 25, 3) := by decide +kernel
theorem dX8_isGate_4 : decode cX8_isGate 4 = .ok (.iconst 3, 1) := by decide +kernel
theorem dX8_isGate_5 : decode cX8_isGate 5 = .ok (.iaload, 1) := by decide +kernel
theorem dX8_isGate_6 : decode cX8_isGate 6 = .ok (.ifCond .le 7, 3) := by decide +kernel
theorem dX8_isGate_9 : decode cX8_isGate 9 = .ok (.iconst 1, 1) := by decide +kernel
theorem dX8_isGate_10 : decode cX8_isGate 10 = .ok (.goto 4, 3) := by decide +kernel
theorem dX8_isGate_13 : decode cX8_isGate 13 = .ok (.iconst 0, 1) := by decide +kernel
theorem dX8_isGate_14 : decode cX8_isGate 14 = .ok (.ireturn, 1) := by decide +kernel
set_option maxRecDepth 20000 in
theorem ggX8_isWord_X8_in : GoodIn wsX8_isWord wsX8_in := goodIn_r _ [5] (by decide +kernel) (by decide +kernel)
set_option maxRecDepth 20000 in
theorem gX8_isWord_X8_in : GoodIn wsX8_isWord (va_wsS RX8 56 yX8_in wsX8_in) := goodIn_app (goodIn_of _ (by decide +kernel)) ggX8_isWord_X8_in
theorem dX8_isWord_0 : decode cX8_isWord 0 = .ok (.iload_n 1, 1) := by decide +kernel
theorem dX8_isWord_1 : decode cX8_isWord 1 = .ok (.iconst 0, 1) := by decide +kernel
theorem dX8_isWord_2 : decode cX8_isWord 2 = .ok (.aload_n 0, 1) := by decide +kernel
theorem dX8_isWord_3 : decode cX8_isWord 3 = .ok (.getfield 25, 3) := by decide +kernel
theorem dX8_isWord_6 : decode cX8_isWord 6 = .ok (.iconst 3, 1) := by decide +kernel
theorem dX8_isWord_7 : decode cX8_isWord 7 = .ok (.iaload, 1) := by decide +kernel
theorem dX8_isWord_8 : decode cX8_isWord 8 = .ok (.iconst 1, 1) := by decide +kernel
theorem dX8_isWord_9 : decode cX8_isWord 9 = .ok (.isub, 1) := by decide +kernel
theorem dX8_isWord_10 : decode cX8_isWord 10 = .ok (.invokestatic 56, 3) := by decide +kernel
theorem dX8_isWord_13 : decode cX8_isWord 13 = .ok (.ireturn, 1) := by decide +kernel
set_option maxRecDepth 20000 in
theorem ggX8_isGuard_X8_in : GoodIn wsX8_isGuard wsX8_in := goodIn_r _ [5] (by decide +kernel) (by decide +kernel)
set_option maxRecDepth 20000 in
theorem gX8_isGuard_X8_in : GoodIn wsX8_isGuard (va_wsS RX8 56 yX8_in wsX8_in) := goodIn_app (goodIn_of _ (by decide +kernel)) ggX8_isGuard_X8_in
theorem dX8_isGuard_0 : decode cX8_isGuard 0 = .ok (.iload_n 1, 1) := by decide +kernel
theorem dX8_isGuard_1 : decode cX8_isGuard 1 = .ok (.iconst 0, 1) := by decide +kernel
theorem dX8_isGuard_2 : decode cX8_isGuard 2 = .ok (.aload_n 0, 1) := by decide +kernel
theorem dX8_isGuard_3 : decode cX8_isGuard 3 = .ok (.getfield 25, 3) := by decide +kernel
theorem dX8_isGuard_6 : decode cX8_isGuard 6 = .ok (.iconst 4, 1) := by decide +kernel
theorem dX8_isGuard_7 : decode cX8_isGuard 7 = .ok (.iaload, 1) := by decide +kernel
theorem dX8_isGuard_8 : decode cX8_isGuard 8 = .ok (.iconst 1, 1) := by decide +kernel
theorem dX8_isGuard_9 : decode cX8_isGuard 9 = .ok (.isub, 1) := by decide +kernel
theorem dX8_isGuard_10 : decode cX8_isGuard 10 = .ok (.invokestatic 56, 3) := by decide +kernel
theorem dX8_isGuard_13 : decode cX8_isGuard 13 = .ok (.ireturn, 1) := by decide +kernel
set_option maxRecDepth 20000 in
theorem ggX8_isHour_X8_in : GoodIn wsX8_isHour wsX8_in := goodIn_r _ [4] (by decide +kernel) (by decide +kernel)
set_option maxRecDepth 20000 in
theorem gX8_isHour_X8_in : GoodIn wsX8_isHour (va_wsS RX8 56 yX8_in wsX8_in) := goodIn_app (goodIn_of _ (by decide +kernel)) ggX8_isHour_X8_in
theorem dX8_isHour_0 : decode cX8_isHour 0 = .ok (.iload_n 0, 1) := by decide +kernel
theorem dX8_isHour_1 : decode cX8_isHour 1 = .ok (.iconst 0, 1) := by decide +kernel
theorem dX8_isHour_2 : decode cX8_isHour 2 = .ok (.iconst 5, 1) := by decide +kernel
theorem dX8_isHour_3 : decode cX8_isHour 3 = .ok (.invokestatic 56, 3) := by decide +kernel
theorem dX8_isHour_6 : decode cX8_isHour 6 = .ok (.ireturn, 1) := by decide +kernel
set_option maxRecDepth 20000 in
theorem ggX8_isFar_X8_in : GoodIn wsX8_isFar wsX8_in := goodIn_r _ [4] (by decide +kernel) (by decide +kernel)
set_option maxRecDepth 20000 in
theorem gX8_isFar_X8_in : GoodIn wsX8_isFar (va_wsS RX8 56 yX8_in wsX8_in) := goodIn_app (goodIn_of _ (by decide +kernel)) ggX8_isFar_X8_in
theorem dX8_isFar_0 : decode cX8_isFar 0 = .ok (.iload_n 0, 1) := by decide +kernel
theorem dX8_isFar_1 : decode cX8_isFar 1 = .ok (.iconst 0, 1) := by decide +kernel
theorem dX8_isFar_2 : decode cX8_isFar 2 = .ok (.bipush 60, 2) := by decide +kernel
theorem dX8_isFar_4 : decode cX8_isFar 4 = .ok (.invokestatic 56, 3) := by decide +kernel
theorem dX8_isFar_7 : decode cX8_isFar 7 = .ok (.ireturn, 1) := by decide +kernel
set_option maxRecDepth 20000 in
theorem ggX8_areWords_X8_in : GoodIn wsX8_areWords wsX8_in := goodIn_r _ [5] (by decide +kernel) (by decide +kernel)
set_option maxRecDepth 20000 in
theorem gX8_areWords_X8_in : GoodIn wsX8_areWords (va_wsS RX8 56 yX8_in wsX8_in) := goodIn_app (goodIn_of _ (by decide +kernel)) ggX8_areWords_X8_in
theorem dX8_areWords_0 : decode cX8_areWords 0 = .ok (.iload_n 1, 1) := by decide +kernel
theorem dX8_areWords_1 : decode cX8_areWords 1 = .ok (.iconst 0, 1) := by decide +kernel
theorem dX8_areWords_2 : decode cX8_areWords 2 = .ok (.iconst 1, 1) := by decide +kernel
theorem dX8_areWords_3 : decode cX8_areWords 3 = .ok (.aload_n 0, 1) := by decide +kernel
theorem dX8_areWords_4 : decode cX8_areWords 4 = .ok (.getfield 25, 3) := by decide +kernel
theorem dX8_areWords_7 : decode cX8_areWords 7 = .ok (.iconst 3, 1) := by decide +kernel
theorem dX8_areWords_8 : decode cX8_areWords 8 = .ok (.iaload, 1) := by decide +kernel
theorem dX8_areWords_9 : decode cX8_areWords 9 = .ok (.ishl, 1) := by decide +kernel
theorem dX8_areWords_10 : decode cX8_areWords 10 = .ok (.iconst 1, 1) := by decide +kernel
theorem dX8_areWords_11 : decode cX8_areWords 11 = .ok (.isub, 1) := by decide +kernel
theorem dX8_areWords_12 : decode cX8_areWords 12 = .ok (.invokestatic 56, 3) := by decide +kernel
theorem dX8_areWords_15 : decode cX8_areWords 15 = .ok (.ireturn, 1) := by decide +kernel
theorem dX8_secretOf_0 : decode cX8_secretOf 0 = .ok (.iload_n 1, 1) := by decide +kernel
theorem dX8_secretOf_1 : decode cX8_secretOf 1 = .ok (.bipush 7, 2) := by decide +kernel
theorem dX8_secretOf_3 : decode cX8_secretOf 3 = .ok (.irem, 1) := by decide +kernel
theorem dX8_secretOf_4 : decode cX8_secretOf 4 = .ok (.aload_n 0, 1) := by decide +kernel
theorem dX8_secretOf_5 : decode cX8_secretOf 5 = .ok (.iconst 2, 1) := by decide +kernel
theorem dX8_secretOf_6 : decode cX8_secretOf 6 = .ok (.iaload, 1) := by decide +kernel
theorem dX8_secretOf_7 : decode cX8_secretOf 7 = .ok (.if_icmp .ne 7, 3) := by decide +kernel
theorem dX8_secretOf_10 : decode cX8_secretOf 10 = .ok (.iconst 0, 1) := by decide +kernel
theorem dX8_secretOf_11 : decode cX8_secretOf 11 = .ok (.goto 16, 3) := by decide +kernel
theorem dX8_secretOf_14 : decode cX8_secretOf 14 = .ok (.aload_n 0, 1) := by decide +kernel
theorem dX8_secretOf_15 : decode cX8_secretOf 15 = .ok (.iconst 0, 1) := by decide +kernel
theorem dX8_secretOf_16 : decode cX8_secretOf 16 = .ok (.iaload, 1) := by decide +kernel
theorem dX8_secretOf_17 : decode cX8_secretOf 17 = .ok (.aload_n 0, 1) := by decide +kernel
theorem dX8_secretOf_18 : decode cX8_secretOf 18 = .ok (.iconst 1, 1) := by decide +kernel
theorem dX8_secretOf_19 : decode cX8_secretOf 19 = .ok (.iaload, 1) := by decide +kernel
theorem dX8_secretOf_20 : decode cX8_secretOf 20 = .ok (.iload_n 1, 1) := by decide +kernel
theorem dX8_secretOf_21 : decode cX8_secretOf 21 = .ok (.imul, 1) := by decide +kernel
theorem dX8_secretOf_22 : decode cX8_secretOf 22 = .ok (.iadd, 1) := by decide +kernel
theorem dX8_secretOf_23 : decode cX8_secretOf 23 = .ok (.aload_n 0, 1) := by decide +kernel
theorem dX8_secretOf_24 : decode cX8_secretOf 24 = .ok (.iconst 3, 1) := by decide +kernel
theorem dX8_secretOf_25 : decode cX8_secretOf 25 = .ok (.iaload, 1) := by decide +kernel
theorem dX8_secretOf_26 : decode cX8_secretOf 26 = .ok (.irem, 1) := by decide +kernel
theorem dX8_secretOf_27 : decode cX8_secretOf 27 = .ok (.ireturn, 1) := by decide +kernel
theorem dX8_distance_0 : decode cX8_distance 0 = .ok (.iconst 0, 1) := by decide +kernel
theorem dX8_distance_1 : decode cX8_distance 1 = .ok (.istore_n 3, 1) := by decide +kernel
theorem dX8_distance_2 : decode cX8_distance 2 = .ok (.iconst 0, 1) := by decide +kernel
theorem dX8_distance_3 : decode cX8_distance 3 = .ok (.istore 4, 2) := by decide +kernel
theorem dX8_distance_5 : decode cX8_distance 5 = .ok (.iload 4, 2) := by decide +kernel
theorem dX8_distance_7 : decode cX8_distance 7 = .ok (.iconst 3, 1) := by decide +kernel
theorem dX8_distance_8 : decode cX8_distance 8 = .ok (.if_icmp .ge 48, 3) := by decide +kernel
theorem dX8_distance_11 : decode cX8_distance 11 = .ok (.iload_n 3, 1) := by decide +kernel
theorem dX8_distance_12 : decode cX8_distance 12 = .ok (.aload_n 0, 1) := by decide +kernel
theorem dX8_distance_13 : decode cX8_distance 13 = .ok (.getfield 25, 3) := by decide +kernel
theorem dX8_distance_16 : decode cX8_distance 16 = .ok (.bipush 8, 2) := by decide +kernel
theorem dX8_distance_18 : decode cX8_distance 18 = .ok (.iconst 3, 1) := by decide +kernel
theorem dX8_distance_19 : decode cX8_distance 19 = .ok (.iload_n 1, 1) := by decide +kernel
theorem dX8_distance_20 : decode cX8_distance 20 = .ok (.imul, 1) := by decide +kernel
theorem dX8_distance_21 : decode cX8_distance 21 = .ok (.iadd, 1) := by decide +kernel
theorem dX8_distance_22 : decode cX8_distance 22 = .ok (.iload 4, 2) := by decide +kernel
theorem dX8_distance_24 : decode cX8_distance 24 = .ok (.iadd, 1) := by decide +kernel
theorem dX8_distance_25 : decode cX8_distance 25 = .ok (.iaload, 1) := by decide +kernel
theorem dX8_distance_26 : decode cX8_distance 26 = .ok (.aload_n 0, 1) := by decide +kernel
theorem dX8_distance_27 : decode cX8_distance 27 = .ok (.getfield 25, 3) := by decide +kernel
theorem dX8_distance_30 : decode cX8_distance 30 = .ok (.bipush 8, 2) := by decide +kernel
theorem dX8_distance_32 : decode cX8_distance 32 = .ok (.iconst 3, 1) := by decide +kernel
theorem dX8_distance_33 : decode cX8_distance 33 = .ok (.iload_n 2, 1) := by decide +kernel
theorem dX8_distance_34 : decode cX8_distance 34 = .ok (.imul, 1) := by decide +kernel
theorem dX8_distance_35 : decode cX8_distance 35 = .ok (.iadd, 1) := by decide +kernel
theorem dX8_distance_36 : decode cX8_distance 36 = .ok (.iload 4, 2) := by decide +kernel
theorem dX8_distance_38 : decode cX8_distance 38 = .ok (.iadd, 1) := by decide +kernel
theorem dX8_distance_39 : decode cX8_distance 39 = .ok (.iaload, 1) := by decide +kernel
theorem dX8_distance_40 : decode cX8_distance 40 = .ok (.if_icmp .ne 7, 3) := by decide +kernel
theorem dX8_distance_43 : decode cX8_distance 43 = .ok (.iconst 0, 1) := by decide +kernel
theorem dX8_distance_44 : decode cX8_distance 44 = .ok (.goto 4, 3) := by decide +kernel
theorem dX8_distance_47 : decode cX8_distance 47 = .ok (.iconst 1, 1) := by decide +kernel
theorem dX8_distance_48 : decode cX8_distance 48 = .ok (.iadd, 1) := by decide +kernel
theorem dX8_distance_49 : decode cX8_distance 49 = .ok (.istore_n 3, 1) := by decide +kernel
theorem dX8_distance_50 : decode cX8_distance 50 = .ok (.iinc 4 1, 3) := by decide +kernel
theorem dX8_distance_53 : decode cX8_distance 53 = .ok (.goto (-48), 3) := by decide +kernel
theorem dX8_distance_56 : decode cX8_distance 56 = .ok (.iload_n 3, 1) := by decide +kernel
theorem dX8_distance_57 : decode cX8_distance 57 = .ok (.ireturn, 1) := by decide +kernel
theorem dX8_lips_0 : decode cX8_lips 0 = .ok (.iconst 0, 1) := by decide +kernel
theorem dX8_lips_1 : decode cX8_lips 1 = .ok (.istore_n 3, 1) := by decide +kernel
theorem dX8_lips_2 : decode cX8_lips 2 = .ok (.iconst 0, 1) := by decide +kernel
theorem dX8_lips_3 : decode cX8_lips 3 = .ok (.istore 4, 2) := by decide +kernel
theorem dX8_lips_5 : decode cX8_lips 5 = .ok (.iload 4, 2) := by decide +kernel
theorem dX8_lips_7 : decode cX8_lips 7 = .ok (.iconst 3, 1) := by decide +kernel
theorem dX8_lips_8 : decode cX8_lips 8 = .ok (.if_icmp .ge 52, 3) := by decide +kernel
theorem dX8_lips_11 : decode cX8_lips 11 = .ok (.iload_n 3, 1) := by decide +kernel
theorem dX8_lips_12 : decode cX8_lips 12 = .ok (.aload_n 0, 1) := by decide +kernel
theorem dX8_lips_13 : decode cX8_lips 13 = .ok (.getfield 25, 3) := by decide +kernel
theorem dX8_lips_16 : decode cX8_lips 16 = .ok (.bipush 8, 2) := by decide +kernel
theorem dX8_lips_18 : decode cX8_lips 18 = .ok (.iconst 3, 1) := by decide +kernel
theorem dX8_lips_19 : decode cX8_lips 19 = .ok (.iload_n 1, 1) := by decide +kernel
theorem dX8_lips_20 : decode cX8_lips 20 = .ok (.imul, 1) := by decide +kernel
theorem dX8_lips_21 : decode cX8_lips 21 = .ok (.iadd, 1) := by decide +kernel
theorem dX8_lips_22 : decode cX8_lips 22 = .ok (.iload 4, 2) := by decide +kernel
theorem dX8_lips_24 : decode cX8_lips 24 = .ok (.iadd, 1) := by decide +kernel
theorem dX8_lips_25 : decode cX8_lips 25 = .ok (.iaload, 1) := by decide +kernel
theorem dX8_lips_26 : decode cX8_lips 26 = .ok (.iconst 5, 1) := by decide +kernel
theorem dX8_lips_27 : decode cX8_lips 27 = .ok (.irem, 1) := by decide +kernel
theorem dX8_lips_28 : decode cX8_lips 28 = .ok (.aload_n 0, 1) := by decide +kernel
theorem dX8_lips_29 : decode cX8_lips 29 = .ok (.getfield 25, 3) := by decide +kernel
theorem dX8_lips_32 : decode cX8_lips 32 = .ok (.bipush 8, 2) := by decide +kernel
theorem dX8_lips_34 : decode cX8_lips 34 = .ok (.iconst 3, 1) := by decide +kernel
theorem dX8_lips_35 : decode cX8_lips 35 = .ok (.iload_n 2, 1) := by decide +kernel
theorem dX8_lips_36 : decode cX8_lips 36 = .ok (.imul, 1) := by decide +kernel
theorem dX8_lips_37 : decode cX8_lips 37 = .ok (.iadd, 1) := by decide +kernel
theorem dX8_lips_38 : decode cX8_lips 38 = .ok (.iload 4, 2) := by decide +kernel
theorem dX8_lips_40 : decode cX8_lips 40 = .ok (.iadd, 1) := by decide +kernel
theorem dX8_lips_41 : decode cX8_lips 41 = .ok (.iaload, 1) := by decide +kernel
theorem dX8_lips_42 : decode cX8_lips 42 = .ok (.iconst 5, 1) := by decide +kernel
theorem dX8_lips_43 : decode cX8_lips 43 = .ok (.irem, 1) := by decide +kernel
theorem dX8_lips_44 : decode cX8_lips 44 = .ok (.if_icmp .ne 7, 3) := by decide +kernel
theorem dX8_lips_47 : decode cX8_lips 47 = .ok (.iconst 1, 1) := by decide +kernel
theorem dX8_lips_48 : decode cX8_lips 48 = .ok (.goto 4, 3) := by decide +kernel
theorem dX8_lips_51 : decode cX8_lips 51 = .ok (.iconst 0, 1) := by decide +kernel
theorem dX8_lips_52 : decode cX8_lips 52 = .ok (.iadd, 1) := by decide +kernel
theorem dX8_lips_53 : decode cX8_lips 53 = .ok (.istore_n 3, 1) := by decide +kernel
theorem dX8_lips_54 : decode cX8_lips 54 = .ok (.iinc 4 1, 3) := by decide +kernel
theorem dX8_lips_57 : decode cX8_lips 57 = .ok (.goto (-52), 3) := by decide +kernel
theorem dX8_lips_60 : decode cX8_lips 60 = .ok (.iload_n 3, 1) := by decide +kernel
theorem dX8_lips_61 : decode cX8_lips 61 = .ok (.ireturn, 1) := by decide +kernel
set_option maxRecDepth 20000 in
theorem ggX8_takesBy_X8_distance : GoodIn wsX8_takesBy wsX8_distance := goodIn_r _ [5, 6, 11, 12, 13, 14, 15, 16, 17, 18, 19, 20, 21, 22, 23, 24, 25, 26, 27, 28, 29, 30, 31, 32, 33] (by decide +kernel) (by decide +kernel)
set_option maxRecDepth 20000 in
theorem gX8_takesBy_X8_distance : GoodIn wsX8_takesBy (wsV RX8 152 RX8 yX8_distance wsX8_distance) := goodIn_app (goodIn_of _ (by decide +kernel)) ggX8_takesBy_X8_distance
set_option maxRecDepth 20000 in
theorem ggX8_takesBy_X8_lips : GoodIn wsX8_takesBy wsX8_lips := goodIn_r _ [10, 6, 11, 12, 13, 14, 15, 16, 17, 18, 19, 20, 21, 22, 23, 24, 25, 26, 27, 28, 29, 30, 31, 32, 33] (by decide +kernel) (by decide +kernel)
set_option maxRecDepth 20000 in
theorem gX8_takesBy_X8_lips : GoodIn wsX8_takesBy (wsV RX8 155 RX8 yX8_lips wsX8_lips) := goodIn_app (goodIn_of _ (by decide +kernel)) ggX8_takesBy_X8_lips
theorem dX8_takesBy_0 : decode cX8_takesBy 0 = .ok (.iload_n 1, 1) := by decide +kernel
theorem dX8_takesBy_1 : decode cX8_takesBy 1 = .ok (.tableswitch 100 1 4 #[31, 46, 62, 84], 31) := by decide +kernel
theorem dX8_takesBy_32 : decode cX8_takesBy 32 = .ok (.aload_n 0, 1) := by decide +kernel
theorem dX8_takesBy_33 : decode cX8_takesBy 33 = .ok (.iload_n 2, 1) := by decide +kernel
theorem dX8_takesBy_34 : decode cX8_takesBy 34 = .ok (.iload_n 3, 1) := by decide +kernel
theorem dX8_takesBy_35 : decode cX8_takesBy 35 = .ok (.invokevirtual 152, 3) := by decide +kernel
theorem dX8_takesBy_38 : decode cX8_takesBy 38 = .ok (.ifCond .ne 7, 3) := by decide +kernel
theorem dX8_takesBy_41 : decode cX8_takesBy 41 = .ok (.iconst 1, 1) := by decide +kernel
theorem dX8_takesBy_42 : decode cX8_takesBy 42 = .ok (.goto 4, 3) := by decide +kernel
theorem dX8_takesBy_45 : decode cX8_takesBy 45 = .ok (.iconst 0, 1) := by decide +kernel
theorem dX8_takesBy_46 : decode cX8_takesBy 46 = .ok (.ireturn, 1) := by decide +kernel
theorem dX8_takesBy_47 : decode cX8_takesBy 47 = .ok (.aload_n 0, 1) := by decide +kernel
theorem dX8_takesBy_48 : decode cX8_takesBy 48 = .ok (.iload_n 2, 1) := by decide +kernel
theorem dX8_takesBy_49 : decode cX8_takesBy 49 = .ok (.iload_n 3, 1) := by decide +kernel
theorem dX8_takesBy_50 : decode cX8_takesBy 50 = .ok (.invokevirtual 152, 3) := by decide +kernel
theorem dX8_takesBy_53 : decode cX8_takesBy 53 = .ok (.iconst 2, 1) := by decide +kernel
theorem dX8_takesBy_54 : decode cX8_takesBy 54 = .ok (.if_icmp .ge 7, 3) := by decide +kernel
theorem dX8_takesBy_57 : decode cX8_takesBy 57 = .ok (.iconst 1, 1) := by decide +kernel
theorem dX8_takesBy_58 : decode cX8_takesBy 58 = .ok (.goto 4, 3) := by decide +kernel
theorem dX8_takesBy_61 : decode cX8_takesBy 61 = .ok (.iconst 0, 1) := by decide +kernel
theorem dX8_takesBy_62 : decode cX8_takesBy 62 = .ok (.ireturn, 1) := by decide +kernel
theorem dX8_takesBy_63 : decode cX8_takesBy 63 = .ok (.aload_n 0, 1) := by decide +kernel
theorem dX8_takesBy_64 : decode cX8_takesBy 64 = .ok (.iload_n 2, 1) := by decide +kernel
theorem dX8_takesBy_65 : decode cX8_takesBy 65 = .ok (.iload_n 3, 1) := by decide +kernel
theorem dX8_takesBy_66 : decode cX8_takesBy 66 = .ok (.invokevirtual 152, 3) := by decide +kernel
theorem dX8_takesBy_69 : decode cX8_takesBy 69 = .ok (.ifCond .ne 14, 3) := by decide +kernel
theorem dX8_takesBy_72 : decode cX8_takesBy 72 = .ok (.iload 4, 2) := by decide +kernel
theorem dX8_takesBy_74 : decode cX8_takesBy 74 = .ok (.iconst 2, 1) := by decide +kernel
theorem dX8_takesBy_75 : decode cX8_takesBy 75 = .ok (.irem, 1) := by decide +kernel
theorem dX8_takesBy_76 : decode cX8_takesBy 76 = .ok (.ifCond .ne 7, 3) := by decide +kernel
theorem dX8_takesBy_79 : decode cX8_takesBy 79 = .ok (.iconst 1, 1) := by decide +kernel
theorem dX8_takesBy_80 : decode cX8_takesBy 80 = .ok (.goto 4, 3) := by decide +kernel
theorem dX8_takesBy_83 : decode cX8_takesBy 83 = .ok (.iconst 0, 1) := by decide +kernel
theorem dX8_takesBy_84 : decode cX8_takesBy 84 = .ok (.ireturn, 1) := by decide +kernel
theorem dX8_takesBy_85 : decode cX8_takesBy 85 = .ok (.aload_n 0, 1) := by decide +kernel
theorem dX8_takesBy_86 : decode cX8_takesBy 86 = .ok (.iload_n 2, 1) := by decide +kernel
theorem dX8_takesBy_87 : decode cX8_takesBy 87 = .ok (.iload_n 3, 1) := by decide +kernel
theorem dX8_takesBy_88 : decode cX8_takesBy 88 = .ok (.invokevirtual 155, 3) := by decide +kernel
theorem dX8_takesBy_91 : decode cX8_takesBy 91 = .ok (.iconst 3, 1) := by decide +kernel
theorem dX8_takesBy_92 : decode cX8_takesBy 92 = .ok (.if_icmp .ne 7, 3) := by decide +kernel
theorem dX8_takesBy_95 : decode cX8_takesBy 95 = .ok (.iconst 1, 1) := by decide +kernel
theorem dX8_takesBy_96 : decode cX8_takesBy 96 = .ok (.goto 4, 3) := by decide +kernel
theorem dX8_takesBy_99 : decode cX8_takesBy 99 = .ok (.iconst 0, 1) := by decide +kernel
theorem dX8_takesBy_100 : decode cX8_takesBy 100 = .ok (.ireturn, 1) := by decide +kernel
theorem dX8_takesBy_101 : decode cX8_takesBy 101 = .ok (.aload_n 0, 1) := by decide +kernel
theorem dX8_takesBy_102 : decode cX8_takesBy 102 = .ok (.iload_n 2, 1) := by decide +kernel
theorem dX8_takesBy_103 : decode cX8_takesBy 103 = .ok (.iload_n 3, 1) := by decide +kernel
theorem dX8_takesBy_104 : decode cX8_takesBy 104 = .ok (.invokevirtual 155, 3) := by decide +kernel
theorem dX8_takesBy_107 : decode cX8_takesBy 107 = .ok (.iconst 1, 1) := by decide +kernel
theorem dX8_takesBy_108 : decode cX8_takesBy 108 = .ok (.if_icmp .le 7, 3) := by decide +kernel
theorem dX8_takesBy_111 : decode cX8_takesBy 111 = .ok (.iconst 1, 1) := by decide +kernel
theorem dX8_takesBy_112 : decode cX8_takesBy 112 = .ok (.goto 4, 3) := by decide +kernel
theorem dX8_takesBy_115 : decode cX8_takesBy 115 = .ok (.iconst 0, 1) := by decide +kernel
theorem dX8_takesBy_116 : decode cX8_takesBy 116 = .ok (.ireturn, 1) := by decide +kernel
theorem dX8_guardOn_0 : decode cX8_guardOn 0 = .ok (.iload_n 2, 1) := by decide +kernel
theorem dX8_guardOn_1 : decode cX8_guardOn 1 = .ok (.iload_n 1, 1) := by decide +kernel
theorem dX8_guardOn_2 : decode cX8_guardOn 2 = .ok (.iadd, 1) := by decide +kernel
theorem dX8_guardOn_3 : decode cX8_guardOn 3 = .ok (.aload_n 0, 1) := by decide +kernel
theorem dX8_guardOn_4 : decode cX8_guardOn 4 = .ok (.getfield 25, 3) := by decide +kernel
theorem dX8_guardOn_7 : decode cX8_guardOn 7 = .ok (.iconst 4, 1) := by decide +kernel
theorem dX8_guardOn_8 : decode cX8_guardOn 8 = .ok (.iaload, 1) := by decide +kernel
theorem dX8_guardOn_9 : decode cX8_guardOn 9 = .ok (.irem, 1) := by decide +kernel
theorem dX8_guardOn_10 : decode cX8_guardOn 10 = .ok (.ireturn, 1) := by decide +kernel
theorem dX8_kindIn_0 : decode cX8_kindIn 0 = .ok (.aload_n 0, 1) := by decide +kernel
theorem dX8_kindIn_1 : decode cX8_kindIn 1 = .ok (.getfield 25, 3) := by decide +kernel
theorem dX8_kindIn_4 : decode cX8_kindIn 4 = .ok (.bipush 26, 2) := by decide +kernel
theorem dX8_kindIn_6 : decode cX8_kindIn 6 = .ok (.iconst 3, 1) := by decide +kernel
theorem dX8_kindIn_7 : decode cX8_kindIn 7 = .ok (.iload_n 1, 1) := by decide +kernel
theorem dX8_kindIn_8 : decode cX8_kindIn 8 = .ok (.imul, 1) := by decide +kernel
theorem dX8_kindIn_9 : decode cX8_kindIn 9 = .ok (.iadd, 1) := by decide +kernel
theorem dX8_kindIn_10 : decode cX8_kindIn 10 = .ok (.iaload, 1) := by decide +kernel
theorem dX8_kindIn_11 : decode cX8_kindIn 11 = .ok (.ireturn, 1) := by decide +kernel
set_option maxRecDepth 20000 in
theorem ggX8_isTaken_X8_guardOn : GoodIn wsX8_isTaken wsX8_guardOn := goodIn_r _ [5, 6, 26, 27, 28, 29, 30, 31, 32, 33, 34, 35, 36, 37, 38, 39, 40, 41, 42, 43, 44, 45, 46, 47, 48] (by decide +kernel) (by decide +kernel)
set_option maxRecDepth 20000 in
theorem gX8_isTaken_X8_guardOn : GoodIn wsX8_isTaken (wsV RX8 158 RX8 yX8_guardOn wsX8_guardOn) := goodIn_app (goodIn_of _ (by decide +kernel)) ggX8_isTaken_X8_guardOn
set_option maxRecDepth 20000 in
theorem ggX8_isTaken_X8_has : GoodIn wsX8_isTaken wsX8_has := goodIn_r _ [9] (by decide +kernel) (by decide +kernel)
set_option maxRecDepth 20000 in
theorem gX8_isTaken_X8_has : GoodIn wsX8_isTaken (va_wsS RX8 161 yX8_has wsX8_has) := goodIn_app (goodIn_of _ (by decide +kernel)) ggX8_isTaken_X8_has
set_option maxRecDepth 20000 in
theorem ggX8_isTaken_X8_kindIn : GoodIn wsX8_isTaken wsX8_kindIn := goodIn_r _ [13, 6, 26, 27, 28, 29, 30, 31, 32, 33, 34, 35, 36, 37, 38, 39, 40, 41, 42, 43, 44, 45, 46, 47, 48] (by decide +kernel) (by decide +kernel)
set_option maxRecDepth 20000 in
theorem gX8_isTaken_X8_kindIn : GoodIn wsX8_isTaken (wsV RX8 165 RX8 yX8_kindIn wsX8_kindIn) := goodIn_app (goodIn_of _ (by decide +kernel)) ggX8_isTaken_X8_kindIn
set_option maxRecDepth 20000 in
theorem ggX8_isTaken_X8_takesBy : GoodIn wsX8_isTaken wsX8_takesBy := goodIn_r _ [17, 18, 19, 20, 4, 21, 6, 22, 23, 24, 25, 26, 27, 28, 29, 30, 31, 32, 33, 34, 35, 36, 37, 38, 39, 40, 41, 42, 43, 44, 45, 46, 47, 48] (by decide +kernel) (by decide +kernel)
set_option maxRecDepth 20000 in
theorem gX8_isTaken_X8_takesBy : GoodIn wsX8_isTaken (wsV RX8 168 RX8 yX8_takesBy wsX8_takesBy) := goodIn_app (goodIn_of _ (by decide +kernel)) ggX8_isTaken_X8_takesBy
theorem dX8_isTaken_0 : decode cX8_isTaken 0 = .ok (.aload_n 0, 1) := by decide +kernel
theorem dX8_isTaken_1 : decode cX8_isTaken 1 = .ok (.iload_n 2, 1) := by decide +kernel
theorem dX8_isTaken_2 : decode cX8_isTaken 2 = .ok (.iload_n 3, 1) := by decide +kernel
theorem dX8_isTaken_3 : decode cX8_isTaken 3 = .ok (.invokevirtual 158, 3) := by decide +kernel
theorem dX8_isTaken_6 : decode cX8_isTaken 6 = .ok (.istore 6, 2) := by decide +kernel
theorem dX8_isTaken_8 : decode cX8_isTaken 8 = .ok (.iload 4, 2) := by decide +kernel
theorem dX8_isTaken_10 : decode cX8_isTaken 10 = .ok (.iload 6, 2) := by decide +kernel
theorem dX8_isTaken_12 : decode cX8_isTaken 12 = .ok (.invokestatic 161, 3) := by decide +kernel
theorem dX8_isTaken_15 : decode cX8_isTaken 15 = .ok (.ifCond .eq 24, 3) := by decide +kernel
theorem dX8_isTaken_18 : decode cX8_isTaken 18 = .ok (.aload_n 0, 1) := by decide +kernel
theorem dX8_isTaken_19 : decode cX8_isTaken 19 = .ok (.aload_n 0, 1) := by decide +kernel
theorem dX8_isTaken_20 : decode cX8_isTaken 20 = .ok (.iload 6, 2) := by decide +kernel
theorem dX8_isTaken_22 : decode cX8_isTaken 22 = .ok (.invokevirtual 165, 3) := by decide +kernel
theorem dX8_isTaken_25 : decode cX8_isTaken 25 = .ok (.iload_n 1, 1) := by decide +kernel
theorem dX8_isTaken_26 : decode cX8_isTaken 26 = .ok (.iload 5, 2) := by decide +kernel
theorem dX8_isTaken_28 : decode cX8_isTaken 28 = .ok (.iload_n 3, 1) := by decide +kernel
theorem dX8_isTaken_29 : decode cX8_isTaken 29 = .ok (.invokevirtual 168, 3) := by decide +kernel
theorem dX8_isTaken_32 : decode cX8_isTaken 32 = .ok (.ifCond .eq 7, 3) := by decide +kernel
theorem dX8_isTaken_35 : decode cX8_isTaken 35 = .ok (.iconst 1, 1) := by decide +kernel
theorem dX8_isTaken_36 : decode cX8_isTaken 36 = .ok (.goto 4, 3) := by decide +kernel
theorem dX8_isTaken_39 : decode cX8_isTaken 39 = .ok (.iconst 0, 1) := by decide +kernel
theorem dX8_isTaken_40 : decode cX8_isTaken 40 = .ok (.ireturn, 1) := by decide +kernel
set_option maxRecDepth 20000 in
theorem ggX8_isTakenNow_X8_secretOf : GoodIn wsX8_isTakenNow wsX8_secretOf := goodIn_r _ [5] (by decide +kernel) (by decide +kernel)
set_option maxRecDepth 20000 in
theorem gX8_isTakenNow_X8_secretOf : GoodIn wsX8_isTakenNow (va_wsS RX8 172 yX8_secretOf wsX8_secretOf) := goodIn_app (goodIn_of _ (by decide +kernel)) ggX8_isTakenNow_X8_secretOf
set_option maxRecDepth 20000 in
theorem ggX8_isTakenNow_X8_isTaken : GoodIn wsX8_isTakenNow wsX8_isTaken := goodIn_r _ [9, 10, 11, 12, 4, 13, 1, 14, 15, 16, 17, 18, 19, 20, 21, 22, 23, 24, 25, 26, 27, 28, 29, 30, 31, 32, 33, 34, 35, 36, 37, 38, 39, 40, 41, 42, 43, 44, 45, 46, 47, 48, 49, 50, 51, 52, 53, 54, 55] (by decide +kernel) (by decide +kernel)
set_option maxRecDepth 20000 in
theorem gX8_isTakenNow_X8_isTaken : GoodIn wsX8_isTakenNow (wsV RX8 176 RX8 yX8_isTaken wsX8_isTaken) := goodIn_app (goodIn_of _ (by decide +kernel)) ggX8_isTakenNow_X8_isTaken
theorem dX8_isTakenNow_0 : decode cX8_isTakenNow 0 = .ok (.aload_n 0, 1) := by decide +kernel
theorem dX8_isTakenNow_1 : decode cX8_isTakenNow 1 = .ok (.getfield 25, 3) := by decide +kernel
theorem dX8_isTakenNow_4 : decode cX8_isTakenNow 4 = .ok (.iconst 5, 1) := by decide +kernel
theorem dX8_isTakenNow_5 : decode cX8_isTakenNow 5 = .ok (.iaload, 1) := by decide +kernel
theorem dX8_isTakenNow_6 : decode cX8_isTakenNow 6 = .ok (.iload_n 3, 1) := by decide +kernel
theorem dX8_isTakenNow_7 : decode cX8_isTakenNow 7 = .ok (.iadd, 1) := by decide +kernel
theorem dX8_isTakenNow_8 : decode cX8_isTakenNow 8 = .ok (.istore 4, 2) := by decide +kernel
theorem dX8_isTakenNow_10 : decode cX8_isTakenNow 10 = .ok (.aload_n 0, 1) := by decide +kernel
theorem dX8_isTakenNow_11 : decode cX8_isTakenNow 11 = .ok (.iload_n 1, 1) := by decide +kernel
theorem dX8_isTakenNow_12 : decode cX8_isTakenNow 12 = .ok (.iload_n 2, 1) := by decide +kernel
theorem dX8_isTakenNow_13 : decode cX8_isTakenNow 13 = .ok (.iload 4, 2) := by decide +kernel
theorem dX8_isTakenNow_15 : decode cX8_isTakenNow 15 = .ok (.aload_n 0, 1) := by decide +kernel
theorem dX8_isTakenNow_16 : decode cX8_isTakenNow 16 = .ok (.getfield 25, 3) := by decide +kernel
theorem dX8_isTakenNow_19 : decode cX8_isTakenNow 19 = .ok (.bipush 6, 2) := by decide +kernel
theorem dX8_isTakenNow_21 : decode cX8_isTakenNow 21 = .ok (.iaload, 1) := by decide +kernel
theorem dX8_isTakenNow_22 : decode cX8_isTakenNow 22 = .ok (.aload_n 0, 1) := by decide +kernel
theorem dX8_isTakenNow_23 : decode cX8_isTakenNow 23 = .ok (.getfield 25, 3) := by decide +kernel
theorem dX8_isTakenNow_26 : decode cX8_isTakenNow 26 = .ok (.iload 4, 2) := by decide +kernel
theorem dX8_isTakenNow_28 : decode cX8_isTakenNow 28 = .ok (.invokestatic 172, 3) := by decide +kernel
theorem dX8_isTakenNow_31 : decode cX8_isTakenNow 31 = .ok (.invokevirtual 176, 3) := by decide +kernel
theorem dX8_isTakenNow_34 : decode cX8_isTakenNow 34 = .ok (.ireturn, 1) := by decide +kernel
set_option maxRecDepth 20000 in
theorem ggX8_notes_X8_copies : GoodIn wsX8_notes wsX8_copies := goodIn_r _ [7] (by decide +kernel) (by decide +kernel)
set_option maxRecDepth 20000 in
theorem gX8_notes_X8_copies : GoodIn wsX8_notes (va_wsS RX8 145 yX8_copies wsX8_copies) := goodIn_app (goodIn_of _ (by decide +kernel)) ggX8_notes_X8_copies
theorem dX8_notes_0 : decode cX8_notes 0 = .ok (.aload_n 0, 1) := by decide +kernel
theorem dX8_notes_1 : decode cX8_notes 1 = .ok (.getfield 149, 3) := by decide +kernel
theorem dX8_notes_4 : decode cX8_notes 4 = .ok (.bipush 24, 2) := by decide +kernel
theorem dX8_notes_6 : decode cX8_notes 6 = .ok (.if_icmp .ne 43, 3) := by decide +kernel
theorem dX8_notes_9 : decode cX8_notes 9 = .ok (.iconst 0, 1) := by decide +kernel
theorem dX8_notes_10 : decode cX8_notes 10 = .ok (.istore_n 1, 1) := by decide +kernel
theorem dX8_notes_11 : decode cX8_notes 11 = .ok (.iload_n 1, 1) := by decide +kernel
theorem dX8_notes_12 : decode cX8_notes 12 = .ok (.sipush 1495, 3) := by decide +kernel
theorem dX8_notes_15 : decode cX8_notes 15 = .ok (.if_icmp .ge 24, 3) := by decide +kernel
theorem dX8_notes_18 : decode cX8_notes 18 = .ok (.aload_n 0, 1) := by decide +kernel
theorem dX8_notes_19 : decode cX8_notes 19 = .ok (.getfield 34, 3) := by decide +kernel
theorem dX8_notes_22 : decode cX8_notes 22 = .ok (.iload_n 1, 1) := by decide +kernel
theorem dX8_notes_23 : decode cX8_notes 23 = .ok (.aload_n 0, 1) := by decide +kernel
theorem dX8_notes_24 : decode cX8_notes 24 = .ok (.getfield 34, 3) := by decide +kernel
theorem dX8_notes_27 : decode cX8_notes 27 = .ok (.iload_n 1, 1) := by decide +kernel
theorem dX8_notes_28 : decode cX8_notes 28 = .ok (.bipush 65, 2) := by decide +kernel
theorem dX8_notes_30 : decode cX8_notes 30 = .ok (.iadd, 1) := by decide +kernel
theorem dX8_notes_31 : decode cX8_notes 31 = .ok (.iaload, 1) := by decide +kernel
theorem dX8_notes_32 : decode cX8_notes 32 = .ok (.iastore, 1) := by decide +kernel
theorem dX8_notes_33 : decode cX8_notes 33 = .ok (.iinc 1 1, 3) := by decide +kernel
theorem dX8_notes_36 : decode cX8_notes 36 = .ok (.goto (-25), 3) := by decide +kernel
theorem dX8_notes_39 : decode cX8_notes 39 = .ok (.aload_n 0, 1) := by decide +kernel
theorem dX8_notes_40 : decode cX8_notes 40 = .ok (.dup, 1) := by decide +kernel
theorem dX8_notes_41 : decode cX8_notes 41 = .ok (.getfield 149, 3) := by decide +kernel
theorem dX8_notes_44 : decode cX8_notes 44 = .ok (.iconst 1, 1) := by decide +kernel
theorem dX8_notes_45 : decode cX8_notes 45 = .ok (.isub, 1) := by decide +kernel
theorem dX8_notes_46 : decode cX8_notes 46 = .ok (.putfield 149, 3) := by decide +kernel
theorem dX8_notes_49 : decode cX8_notes 49 = .ok (.aload_n 0, 1) := by decide +kernel
theorem dX8_notes_50 : decode cX8_notes 50 = .ok (.getfield 25, 3) := by decide +kernel
theorem dX8_notes_53 : decode cX8_notes 53 = .ok (.iconst 0, 1) := by decide +kernel
theorem dX8_notes_54 : decode cX8_notes 54 = .ok (.aload_n 0, 1) := by decide +kernel
theorem dX8_notes_55 : decode cX8_notes 55 = .ok (.getfield 34, 3) := by decide +kernel
theorem dX8_notes_58 : decode cX8_notes 58 = .ok (.bipush 65, 2) := by decide +kernel
theorem dX8_notes_60 : decode cX8_notes 60 = .ok (.aload_n 0, 1) := by decide +kernel
theorem dX8_notes_61 : decode cX8_notes 61 = .ok (.getfield 149, 3) := by decide +kernel
theorem dX8_notes_64 : decode cX8_notes 64 = .ok (.imul, 1) := by decide +kernel
theorem dX8_notes_65 : decode cX8_notes 65 = .ok (.invokestatic 145, 3) := by decide +kernel
theorem dX8_notes_68 : decode cX8_notes 68 = .ok (.aload_n 0, 1) := by decide +kernel
theorem dX8_notes_69 : decode cX8_notes 69 = .ok (.dup, 1) := by decide +kernel
theorem dX8_notes_70 : decode cX8_notes 70 = .ok (.getfield 149, 3) := by decide +kernel
theorem dX8_notes_73 : decode cX8_notes 73 = .ok (.iconst 1, 1) := by decide +kernel
theorem dX8_notes_74 : decode cX8_notes 74 = .ok (.iadd, 1) := by decide +kernel
theorem dX8_notes_75 : decode cX8_notes 75 = .ok (.putfield 149, 3) := by decide +kernel
theorem dX8_notes_78 : decode cX8_notes 78 = .ok (.return_, 1) := by decide +kernel
theorem dX8_forgets_0 : decode cX8_forgets 0 = .ok (.bipush 38, 2) := by decide +kernel
theorem dX8_forgets_2 : decode cX8_forgets 2 = .ok (.istore_n 1, 1) := by decide +kernel
theorem dX8_forgets_3 : decode cX8_forgets 3 = .ok (.iload_n 1, 1) := by decide +kernel
theorem dX8_forgets_4 : decode cX8_forgets 4 = .ok (.bipush 65, 2) := by decide +kernel
theorem dX8_forgets_6 : decode cX8_forgets 6 = .ok (.if_icmp .ge 16, 3) := by decide +kernel
theorem dX8_forgets_9 : decode cX8_forgets 9 = .ok (.aload_n 0, 1) := by decide +kernel
theorem dX8_forgets_10 : decode cX8_forgets 10 = .ok (.getfield 25, 3) := by decide +kernel
theorem dX8_forgets_13 : decode cX8_forgets 13 = .ok (.iload_n 1, 1) := by decide +kernel
theorem dX8_forgets_14 : decode cX8_forgets 14 = .ok (.iconst 0, 1) := by decide +kernel
theorem dX8_forgets_15 : decode cX8_forgets 15 = .ok (.iastore, 1) := by decide +kernel
theorem dX8_forgets_16 : decode cX8_forgets 16 = .ok (.iinc 1 1, 3) := by decide +kernel
theorem dX8_forgets_19 : decode cX8_forgets 19 = .ok (.goto (-16), 3) := by decide +kernel
theorem dX8_forgets_22 : decode cX8_forgets 22 = .ok (.aload_n 0, 1) := by decide +kernel
theorem dX8_forgets_23 : decode cX8_forgets 23 = .ok (.getfield 25, 3) := by decide +kernel
theorem dX8_forgets_26 : decode cX8_forgets 26 = .ok (.bipush 7, 2) := by decide +kernel
theorem dX8_forgets_28 : decode cX8_forgets 28 = .ok (.iconst 0, 1) := by decide +kernel
theorem dX8_forgets_29 : decode cX8_forgets 29 = .ok (.iastore, 1) := by decide +kernel
theorem dX8_forgets_30 : decode cX8_forgets 30 = .ok (.return_, 1) := by decide +kernel
set_option maxRecDepth 20000 in
theorem ggX8_nights_X8_isGate : GoodIn wsX8_nights wsX8_isGate := goodIn_r _ [9, 3, 29, 30, 31, 32, 33, 34, 35, 36, 37, 38, 39, 40, 41, 42, 43, 44, 45, 46, 47, 48, 49, 50, 51] (by decide +kernel) (by decide +kernel)
set_option maxRecDepth 20000 in
theorem gX8_nights_X8_isGate : GoodIn wsX8_nights (wsV RX8 180 RX8 yX8_isGate wsX8_isGate) := goodIn_app (goodIn_of _ (by decide +kernel)) ggX8_nights_X8_isGate
set_option maxRecDepth 20000 in
theorem ggX8_nights_X8_in : GoodIn wsX8_nights wsX8_in := goodIn_r _ [12] (by decide +kernel) (by decide +kernel)
set_option maxRecDepth 20000 in
theorem gX8_nights_X8_in : GoodIn wsX8_nights (va_wsS RX8 56 yX8_in wsX8_in) := goodIn_app (goodIn_of _ (by decide +kernel)) ggX8_nights_X8_in
set_option maxRecDepth 20000 in
theorem ggX8_nights_X8_notes : GoodIn wsX8_nights wsX8_notes := goodIn_r _ [16, 17, 18, 3, 19, 20, 8, 21, 29, 30, 31, 32, 33, 34, 35, 36, 37, 38, 39, 40, 41, 42, 43, 44, 45, 46, 47, 48, 49, 50, 51] (by decide +kernel) (by decide +kernel)
set_option maxRecDepth 20000 in
theorem gX8_nights_X8_notes : GoodIn wsX8_nights (wsV RX8 184 RX8 yX8_notes wsX8_notes) := goodIn_app (goodIn_of _ (by decide +kernel)) ggX8_nights_X8_notes
set_option maxRecDepth 20000 in
theorem ggX8_nights_X8_forgets : GoodIn wsX8_nights wsX8_forgets := goodIn_r _ [25, 3, 29, 30, 31, 32, 33, 34, 35, 36, 37, 38, 39, 40, 41, 42, 43, 44, 45, 46, 47, 48, 49, 50, 51] (by decide +kernel) (by decide +kernel)
set_option maxRecDepth 20000 in
theorem gX8_nights_X8_forgets : GoodIn wsX8_nights (wsV RX8 187 RX8 yX8_forgets wsX8_forgets) := goodIn_app (goodIn_of _ (by decide +kernel)) ggX8_nights_X8_forgets
set_option maxRecDepth 20000 in
theorem ggX8_nights_X8_secretOf : GoodIn wsX8_nights wsX8_secretOf := goodIn_r _ [28] (by decide +kernel) (by decide +kernel)
set_option maxRecDepth 20000 in
theorem gX8_nights_X8_secretOf : GoodIn wsX8_nights (va_wsS RX8 172 yX8_secretOf wsX8_secretOf) := goodIn_app (goodIn_of _ (by decide +kernel)) ggX8_nights_X8_secretOf
theorem dX8_nights_0 : decode cX8_nights 0 = .ok (.aload_n 0, 1) := by decide +kernel
theorem dX8_nights_1 : decode cX8_nights 1 = .ok (.invokevirtual 180, 3) := by decide +kernel
theorem dX8_nights_4 : decode cX8_nights 4 = .ok (.ifCond .ne 6, 3) := by decide +kernel
theorem dX8_nights_7 : decode cX8_nights 7 = .ok (.ldc 183, 2) := by decide +kernel
theorem dX8_nights_9 : decode cX8_nights 9 = .ok (.ireturn, 1) := by decide +kernel
theorem dX8_nights_10 : decode cX8_nights 10 = .ok (.iload_n 1, 1) := by decide +kernel
theorem dX8_nights_11 : decode cX8_nights 11 = .ok (.iconst 1, 1) := by decide +kernel
theorem dX8_nights_12 : decode cX8_nights 12 = .ok (.bipush 24, 2) := by decide +kernel
theorem dX8_nights_14 : decode cX8_nights 14 = .ok (.invokestatic 56, 3) := by decide +kernel
theorem dX8_nights_17 : decode cX8_nights 17 = .ok (.ifCond .ne 6, 3) := by decide +kernel
theorem dX8_nights_20 : decode cX8_nights 20 = .ok (.ldc 64, 2) := by decide +kernel
theorem dX8_nights_22 : decode cX8_nights 22 = .ok (.ireturn, 1) := by decide +kernel
theorem dX8_nights_23 : decode cX8_nights 23 = .ok (.aload_n 0, 1) := by decide +kernel
theorem dX8_nights_24 : decode cX8_nights 24 = .ok (.getfield 25, 3) := by decide +kernel
theorem dX8_nights_27 : decode cX8_nights 27 = .ok (.iconst 5, 1) := by decide +kernel
theorem dX8_nights_28 : decode cX8_nights 28 = .ok (.iaload, 1) := by decide +kernel
theorem dX8_nights_29 : decode cX8_nights 29 = .ok (.iload_n 1, 1) := by decide +kernel
theorem dX8_nights_30 : decode cX8_nights 30 = .ok (.iadd, 1) := by decide +kernel
theorem dX8_nights_31 : decode cX8_nights 31 = .ok (.sipush 999, 3) := by decide +kernel
theorem dX8_nights_34 : decode cX8_nights 34 = .ok (.if_icmp .le 6, 3) := by decide +kernel
theorem dX8_nights_37 : decode cX8_nights 37 = .ok (.ldc 85, 2) := by decide +kernel
theorem dX8_nights_39 : decode cX8_nights 39 = .ok (.ireturn, 1) := by decide +kernel
theorem dX8_nights_40 : decode cX8_nights 40 = .ok (.iconst 0, 1) := by decide +kernel
theorem dX8_nights_41 : decode cX8_nights 41 = .ok (.istore_n 2, 1) := by decide +kernel
theorem dX8_nights_42 : decode cX8_nights 42 = .ok (.iload_n 2, 1) := by decide +kernel
theorem dX8_nights_43 : decode cX8_nights 43 = .ok (.iload_n 1, 1) := by decide +kernel
theorem dX8_nights_44 : decode cX8_nights 44 = .ok (.if_icmp .ge 27, 3) := by decide +kernel
theorem dX8_nights_47 : decode cX8_nights 47 = .ok (.aload_n 0, 1) := by decide +kernel
theorem dX8_nights_48 : decode cX8_nights 48 = .ok (.invokevirtual 184, 3) := by decide +kernel
theorem dX8_nights_51 : decode cX8_nights 51 = .ok (.aload_n 0, 1) := by decide +kernel
theorem dX8_nights_52 : decode cX8_nights 52 = .ok (.getfield 25, 3) := by decide +kernel
theorem dX8_nights_55 : decode cX8_nights 55 = .ok (.iconst 5, 1) := by decide +kernel
theorem dX8_nights_56 : decode cX8_nights 56 = .ok (.dup2, 1) := by decide +kernel
theorem dX8_nights_57 : decode cX8_nights 57 = .ok (.iaload, 1) := by decide +kernel
theorem dX8_nights_58 : decode cX8_nights 58 = .ok (.iconst 1, 1) := by decide +kernel
theorem dX8_nights_59 : decode cX8_nights 59 = .ok (.iadd, 1) := by decide +kernel
theorem dX8_nights_60 : decode cX8_nights 60 = .ok (.iastore, 1) := by decide +kernel
theorem dX8_nights_61 : decode cX8_nights 61 = .ok (.aload_n 0, 1) := by decide +kernel
theorem dX8_nights_62 : decode cX8_nights 62 = .ok (.invokevirtual 187, 3) := by decide +kernel
theorem dX8_nights_65 : decode cX8_nights 65 = .ok (.iinc 2 1, 3) := by decide +kernel
theorem dX8_nights_68 : decode cX8_nights 68 = .ok (.goto (-26), 3) := by decide +kernel
theorem dX8_nights_71 : decode cX8_nights 71 = .ok (.aload_n 0, 1) := by decide +kernel
theorem dX8_nights_72 : decode cX8_nights 72 = .ok (.getfield 25, 3) := by decide +kernel
theorem dX8_nights_75 : decode cX8_nights 75 = .ok (.aload_n 0, 1) := by decide +kernel
theorem dX8_nights_76 : decode cX8_nights 76 = .ok (.getfield 25, 3) := by decide +kernel
theorem dX8_nights_79 : decode cX8_nights 79 = .ok (.iconst 5, 1) := by decide +kernel
theorem dX8_nights_80 : decode cX8_nights 80 = .ok (.iaload, 1) := by decide +kernel
theorem dX8_nights_81 : decode cX8_nights 81 = .ok (.invokestatic 172, 3) := by decide +kernel
theorem dX8_nights_84 : decode cX8_nights 84 = .ok (.ireturn, 1) := by decide +kernel
set_option maxRecDepth 20000 in
theorem ggX8_say_X8_isWord : GoodIn wsX8_say wsX8_isWord := goodIn_r _ [8, 2, 9, 10, 7, 11, 58, 59, 60, 61, 62, 63, 64, 65, 66, 67, 68, 69, 70, 71, 72, 73, 74, 75, 76, 77, 78, 79, 80] (by decide +kernel) (by decide +kernel)
set_option maxRecDepth 20000 in
theorem gX8_say_X8_isWord : GoodIn wsX8_say (wsV RX8 190 RX8 yX8_isWord wsX8_isWord) := goodIn_app (goodIn_of _ (by decide +kernel)) ggX8_say_X8_isWord
set_option maxRecDepth 20000 in
theorem ggX8_say_X8_isHour : GoodIn wsX8_say wsX8_isHour := goodIn_r _ [14, 9, 10, 7, 11] (by decide +kernel) (by decide +kernel)
set_option maxRecDepth 20000 in
theorem gX8_say_X8_isHour : GoodIn wsX8_say (va_wsS RX8 193 yX8_isHour wsX8_isHour) := goodIn_app (goodIn_of _ (by decide +kernel)) ggX8_say_X8_isHour
set_option maxRecDepth 20000 in
theorem ggX8_say_X8_notes : GoodIn wsX8_say wsX8_notes := goodIn_r _ [18, 19, 20, 2, 21, 22, 7, 23, 58, 59, 60, 61, 62, 63, 64, 65, 66, 67, 68, 69, 70, 71, 72, 73, 74, 75, 76, 77, 78, 79, 80] (by decide +kernel) (by decide +kernel)
set_option maxRecDepth 20000 in
theorem gX8_say_X8_notes : GoodIn wsX8_say (wsV RX8 184 RX8 yX8_notes wsX8_notes) := goodIn_app (goodIn_of _ (by decide +kernel)) ggX8_say_X8_notes
set_option maxRecDepth 20000 in
theorem ggX8_say_X8_guardOn : GoodIn wsX8_say wsX8_guardOn := goodIn_r _ [27, 2, 58, 59, 60, 61, 62, 63, 64, 65, 66, 67, 68, 69, 70, 71, 72, 73, 74, 75, 76, 77, 78, 79, 80] (by decide +kernel) (by decide +kernel)
set_option maxRecDepth 20000 in
theorem gX8_say_X8_guardOn : GoodIn wsX8_say (wsV RX8 158 RX8 yX8_guardOn wsX8_guardOn) := goodIn_app (goodIn_of _ (by decide +kernel)) ggX8_say_X8_guardOn
set_option maxRecDepth 20000 in
theorem ggX8_say_X8_isTakenNow : GoodIn wsX8_say wsX8_isTakenNow := goodIn_r _ [31, 2, 32, 33, 7, 34, 35, 36, 37, 38, 24, 25, 26, 27, 39, 40, 41, 42, 43, 44, 45, 46, 47, 48, 49, 50, 51, 52, 53, 54, 55, 56, 57, 58, 59, 60, 61, 62, 63, 64, 65, 66, 67, 68, 69, 70, 71, 72, 73, 74, 75, 76, 77, 78, 79, 80] (by decide +kernel) (by decide +kernel)
set_option maxRecDepth 20000 in
theorem gX8_say_X8_isTakenNow : GoodIn wsX8_say (wsV RX8 196 RX8 yX8_isTakenNow wsX8_isTakenNow) := goodIn_app (goodIn_of _ (by decide +kernel)) ggX8_say_X8_isTakenNow
set_option maxRecDepth 20000 in
theorem ggX8_say_X8_has : GoodIn wsX8_say wsX8_has := goodIn_r _ [41] (by decide +kernel) (by decide +kernel)
set_option maxRecDepth 20000 in
theorem gX8_say_X8_has : GoodIn wsX8_say (va_wsS RX8 161 yX8_has wsX8_has) := goodIn_app (goodIn_of _ (by decide +kernel)) ggX8_say_X8_has
theorem dX8_say_0 : decode cX8_say 0 = .ok (.aload_n 0, 1) := by decide +kernel
theorem dX8_say_1 : decode cX8_say 1 = .ok (.iload_n 1, 1) := by decide +kernel
theorem dX8_say_2 : decode cX8_say 2 = .ok (.invokevirtual 190, 3) := by decide +kernel
theorem dX8_say_5 : decode cX8_say 5 = .ok (.ifCond .eq 10, 3) := by decide +kernel
theorem dX8_say_8 : decode cX8_say 8 = .ok (.iload_n 2, 1) := by decide +kernel
theorem dX8_say_9 : decode cX8_say 9 = .ok (.invokestatic 193, 3) := by decide +kernel
theorem dX8_say_12 : decode cX8_say 12 = .ok (.ifCond .ne 6, 3) := by decide +kernel
theorem dX8_say_15 : decode cX8_say 15 = .ok (.ldc 64, 2) := by decide +kernel
theorem dX8_say_17 : decode cX8_say 17 = .ok (.ireturn, 1) := by decide +kernel
theorem dX8_say_18 : decode cX8_say 18 = .ok (.aload_n 0, 1) := by decide +kernel
theorem dX8_say_19 : decode cX8_say 19 = .ok (.getfield 25, 3) := by decide +kernel
theorem dX8_say_22 : decode cX8_say 22 = .ok (.bipush 7, 2) := by decide +kernel
theorem dX8_say_24 : decode cX8_say 24 = .ok (.iaload, 1) := by decide +kernel
theorem dX8_say_25 : decode cX8_say 25 = .ok (.bipush 9, 2) := by decide +kernel
theorem dX8_say_27 : decode cX8_say 27 = .ok (.if_icmp .ne 6, 3) := by decide +kernel
theorem dX8_say_30 : decode cX8_say 30 = .ok (.ldc 85, 2) := by decide +kernel
theorem dX8_say_32 : decode cX8_say 32 = .ok (.ireturn, 1) := by decide +kernel
theorem dX8_say_33 : decode cX8_say 33 = .ok (.aload_n 0, 1) := by decide +kernel
theorem dX8_say_34 : decode cX8_say 34 = .ok (.invokevirtual 184, 3) := by decide +kernel
theorem dX8_say_37 : decode cX8_say 37 = .ok (.aload_n 0, 1) := by decide +kernel
theorem dX8_say_38 : decode cX8_say 38 = .ok (.iload_n 2, 1) := by decide +kernel
theorem dX8_say_39 : decode cX8_say 39 = .ok (.aload_n 0, 1) := by decide +kernel
theorem dX8_say_40 : decode cX8_say 40 = .ok (.getfield 25, 3) := by decide +kernel
theorem dX8_say_43 : decode cX8_say 43 = .ok (.iconst 5, 1) := by decide +kernel
theorem dX8_say_44 : decode cX8_say 44 = .ok (.iaload, 1) := by decide +kernel
theorem dX8_say_45 : decode cX8_say 45 = .ok (.invokevirtual 158, 3) := by decide +kernel
theorem dX8_say_48 : decode cX8_say 48 = .ok (.istore_n 3, 1) := by decide +kernel
theorem dX8_say_49 : decode cX8_say 49 = .ok (.aload_n 0, 1) := by decide +kernel
theorem dX8_say_50 : decode cX8_say 50 = .ok (.iload_n 1, 1) := by decide +kernel
theorem dX8_say_51 : decode cX8_say 51 = .ok (.iload_n 2, 1) := by decide +kernel
theorem dX8_say_52 : decode cX8_say 52 = .ok (.iconst 0, 1) := by decide +kernel
theorem dX8_say_53 : decode cX8_say 53 = .ok (.invokevirtual 196, 3) := by decide +kernel
theorem dX8_say_56 : decode cX8_say 56 = .ok (.ifCond .eq 7, 3) := by decide +kernel
theorem dX8_say_59 : decode cX8_say 59 = .ok (.iconst 1, 1) := by decide +kernel
theorem dX8_say_60 : decode cX8_say 60 = .ok (.goto 4, 3) := by decide +kernel
theorem dX8_say_63 : decode cX8_say 63 = .ok (.iconst 0, 1) := by decide +kernel
theorem dX8_say_64 : decode cX8_say 64 = .ok (.istore 4, 2) := by decide +kernel
theorem dX8_say_66 : decode cX8_say 66 = .ok (.bipush 38, 2) := by decide +kernel
theorem dX8_say_68 : decode cX8_say 68 = .ok (.iconst 3, 1) := by decide +kernel
theorem dX8_say_69 : decode cX8_say 69 = .ok (.aload_n 0, 1) := by decide +kernel
theorem dX8_say_70 : decode cX8_say 70 = .ok (.getfield 25, 3) := by decide +kernel
theorem dX8_say_73 : decode cX8_say 73 = .ok (.bipush 7, 2) := by decide +kernel
theorem dX8_say_75 : decode cX8_say 75 = .ok (.iaload, 1) := by decide +kernel
theorem dX8_say_76 : decode cX8_say 76 = .ok (.imul, 1) := by decide +kernel
theorem dX8_say_77 : decode cX8_say 77 = .ok (.iadd, 1) := by decide +kernel
theorem dX8_say_78 : decode cX8_say 78 = .ok (.istore 5, 2) := by decide +kernel
theorem dX8_say_80 : decode cX8_say 80 = .ok (.aload_n 0, 1) := by decide +kernel
theorem dX8_say_81 : decode cX8_say 81 = .ok (.getfield 25, 3) := by decide +kernel
theorem dX8_say_84 : decode cX8_say 84 = .ok (.iload 5, 2) := by decide +kernel
theorem dX8_say_86 : decode cX8_say 86 = .ok (.iload_n 1, 1) := by decide +kernel
theorem dX8_say_87 : decode cX8_say 87 = .ok (.iastore, 1) := by decide +kernel
theorem dX8_say_88 : decode cX8_say 88 = .ok (.aload_n 0, 1) := by decide +kernel
theorem dX8_say_89 : decode cX8_say 89 = .ok (.getfield 25, 3) := by decide +kernel
theorem dX8_say_92 : decode cX8_say 92 = .ok (.iload 5, 2) := by decide +kernel
theorem dX8_say_94 : decode cX8_say 94 = .ok (.iconst 1, 1) := by decide +kernel
theorem dX8_say_95 : decode cX8_say 95 = .ok (.iadd, 1) := by decide +kernel
theorem dX8_say_96 : decode cX8_say 96 = .ok (.aload_n 0, 1) := by decide +kernel
theorem dX8_say_97 : decode cX8_say 97 = .ok (.getfield 25, 3) := by decide +kernel
theorem dX8_say_100 : decode cX8_say 100 = .ok (.bipush 6, 2) := by decide +kernel
theorem dX8_say_102 : decode cX8_say 102 = .ok (.iaload, 1) := by decide +kernel
theorem dX8_say_103 : decode cX8_say 103 = .ok (.iload_n 3, 1) := by decide +kernel
theorem dX8_say_104 : decode cX8_say 104 = .ok (.invokestatic 161, 3) := by decide +kernel
theorem dX8_say_107 : decode cX8_say 107 = .ok (.ifCond .eq 9, 3) := by decide +kernel
theorem dX8_say_110 : decode cX8_say 110 = .ok (.iload_n 3, 1) := by decide +kernel
theorem dX8_say_111 : decode cX8_say 111 = .ok (.iconst 1, 1) := by decide +kernel
theorem dX8_say_112 : decode cX8_say 112 = .ok (.iadd, 1) := by decide +kernel
theorem dX8_say_113 : decode cX8_say 113 = .ok (.goto 4, 3) := by decide +kernel
theorem dX8_say_116 : decode cX8_say 116 = .ok (.iconst 0, 1) := by decide +kernel
theorem dX8_say_117 : decode cX8_say 117 = .ok (.iastore, 1) := by decide +kernel
theorem dX8_say_118 : decode cX8_say 118 = .ok (.aload_n 0, 1) := by decide +kernel
theorem dX8_say_119 : decode cX8_say 119 = .ok (.getfield 25, 3) := by decide +kernel
theorem dX8_say_122 : decode cX8_say 122 = .ok (.iload 5, 2) := by decide +kernel
theorem dX8_say_124 : decode cX8_say 124 = .ok (.iconst 2, 1) := by decide +kernel
theorem dX8_say_125 : decode cX8_say 125 = .ok (.iadd, 1) := by decide +kernel
theorem dX8_say_126 : decode cX8_say 126 = .ok (.iload 4, 2) := by decide +kernel
theorem dX8_say_128 : decode cX8_say 128 = .ok (.iastore, 1) := by decide +kernel
theorem dX8_say_129 : decode cX8_say 129 = .ok (.aload_n 0, 1) := by decide +kernel
theorem dX8_say_130 : decode cX8_say 130 = .ok (.getfield 25, 3) := by decide +kernel
theorem dX8_say_133 : decode cX8_say 133 = .ok (.bipush 7, 2) := by decide +kernel
theorem dX8_say_135 : decode cX8_say 135 = .ok (.dup2, 1) := by decide +kernel
theorem dX8_say_136 : decode cX8_say 136 = .ok (.iaload, 1) := by decide +kernel
theorem dX8_say_137 : decode cX8_say 137 = .ok (.iconst 1, 1) := by decide +kernel
theorem dX8_say_138 : decode cX8_say 138 = .ok (.iadd, 1) := by decide +kernel
theorem dX8_say_139 : decode cX8_say 139 = .ok (.iastore, 1) := by decide +kernel
theorem dX8_say_140 : decode cX8_say 140 = .ok (.aload_n 0, 1) := by decide +kernel
theorem dX8_say_141 : decode cX8_say 141 = .ok (.getfield 25, 3) := by decide +kernel
theorem dX8_say_144 : decode cX8_say 144 = .ok (.bipush 26, 2) := by decide +kernel
theorem dX8_say_146 : decode cX8_say 146 = .ok (.iconst 3, 1) := by decide +kernel
theorem dX8_say_147 : decode cX8_say 147 = .ok (.iload_n 3, 1) := by decide +kernel
theorem dX8_say_148 : decode cX8_say 148 = .ok (.imul, 1) := by decide +kernel
theorem dX8_say_149 : decode cX8_say 149 = .ok (.iadd, 1) := by decide +kernel
theorem dX8_say_150 : decode cX8_say 150 = .ok (.iconst 2, 1) := by decide +kernel
theorem dX8_say_151 : decode cX8_say 151 = .ok (.iadd, 1) := by decide +kernel
theorem dX8_say_152 : decode cX8_say 152 = .ok (.dup2, 1) := by decide +kernel
theorem dX8_say_153 : decode cX8_say 153 = .ok (.iaload, 1) := by decide +kernel
theorem dX8_say_154 : decode cX8_say 154 = .ok (.iload 4, 2) := by decide +kernel
theorem dX8_say_156 : decode cX8_say 156 = .ok (.iadd, 1) := by decide +kernel
theorem dX8_say_157 : decode cX8_say 157 = .ok (.iastore, 1) := by decide +kernel
theorem dX8_say_158 : decode cX8_say 158 = .ok (.iload 4, 2) := by decide +kernel
theorem dX8_say_160 : decode cX8_say 160 = .ok (.ireturn, 1) := by decide +kernel
set_option maxRecDepth 20000 in
theorem ggX8_start_X8_isGate : GoodIn wsX8_start wsX8_isGate := goodIn_r _ [8, 3, 21, 22, 23, 24, 25, 26, 27, 28, 29, 30, 31, 32, 33, 34, 35, 36, 37, 38, 39, 40, 41, 42, 43] (by decide +kernel) (by decide +kernel)
set_option maxRecDepth 20000 in
theorem gX8_start_X8_isGate : GoodIn wsX8_start (wsV RX8 180 RX8 yX8_isGate wsX8_isGate) := goodIn_app (goodIn_of _ (by decide +kernel)) ggX8_start_X8_isGate
set_option maxRecDepth 20000 in
theorem ggX8_start_X8_in : GoodIn wsX8_start wsX8_in := goodIn_r _ [11] (by decide +kernel) (by decide +kernel)
set_option maxRecDepth 20000 in
theorem gX8_start_X8_in : GoodIn wsX8_start (va_wsS RX8 56 yX8_in wsX8_in) := goodIn_app (goodIn_of _ (by decide +kernel)) ggX8_start_X8_in
set_option maxRecDepth 20000 in
theorem ggX8_start_X8_notes : GoodIn wsX8_start wsX8_notes := goodIn_r _ [15, 16, 17, 3, 18, 19, 7, 20, 21, 22, 23, 24, 25, 26, 27, 28, 29, 30, 31, 32, 33, 34, 35, 36, 37, 38, 39, 40, 41, 42, 43] (by decide +kernel) (by decide +kernel)
set_option maxRecDepth 20000 in
theorem gX8_start_X8_notes : GoodIn wsX8_start (wsV RX8 184 RX8 yX8_notes wsX8_notes) := goodIn_app (goodIn_of _ (by decide +kernel)) ggX8_start_X8_notes
theorem dX8_start_0 : decode cX8_start 0 = .ok (.aload_n 0, 1) := by decide +kernel
theorem dX8_start_1 : decode cX8_start 1 = .ok (.invokevirtual 180, 3) := by decide +kernel
theorem dX8_start_4 : decode cX8_start 4 = .ok (.ifCond .ne 6, 3) := by decide +kernel
theorem dX8_start_7 : decode cX8_start 7 = .ok (.ldc 183, 2) := by decide +kernel
theorem dX8_start_9 : decode cX8_start 9 = .ok (.ireturn, 1) := by decide +kernel
theorem dX8_start_10 : decode cX8_start 10 = .ok (.iload_n 1, 1) := by decide +kernel
theorem dX8_start_11 : decode cX8_start 11 = .ok (.iconst 0, 1) := by decide +kernel
theorem dX8_start_12 : decode cX8_start 12 = .ok (.bipush 9, 2) := by decide +kernel
theorem dX8_start_14 : decode cX8_start 14 = .ok (.invokestatic 56, 3) := by decide +kernel
theorem dX8_start_17 : decode cX8_start 17 = .ok (.ifCond .ne 6, 3) := by decide +kernel
theorem dX8_start_20 : decode cX8_start 20 = .ok (.ldc 64, 2) := by decide +kernel
theorem dX8_start_22 : decode cX8_start 22 = .ok (.ireturn, 1) := by decide +kernel
theorem dX8_start_23 : decode cX8_start 23 = .ok (.aload_n 0, 1) := by decide +kernel
theorem dX8_start_24 : decode cX8_start 24 = .ok (.invokevirtual 184, 3) := by decide +kernel
theorem dX8_start_27 : decode cX8_start 27 = .ok (.aload_n 0, 1) := by decide +kernel
theorem dX8_start_28 : decode cX8_start 28 = .ok (.getfield 25, 3) := by decide +kernel
theorem dX8_start_31 : decode cX8_start 31 = .ok (.iconst 0, 1) := by decide +kernel
theorem dX8_start_32 : decode cX8_start 32 = .ok (.iaload, 1) := by decide +kernel
theorem dX8_start_33 : decode cX8_start 33 = .ok (.istore_n 2, 1) := by decide +kernel
theorem dX8_start_34 : decode cX8_start 34 = .ok (.aload_n 0, 1) := by decide +kernel
theorem dX8_start_35 : decode cX8_start 35 = .ok (.getfield 25, 3) := by decide +kernel
theorem dX8_start_38 : decode cX8_start 38 = .ok (.iconst 0, 1) := by decide +kernel
theorem dX8_start_39 : decode cX8_start 39 = .ok (.iload_n 1, 1) := by decide +kernel
theorem dX8_start_40 : decode cX8_start 40 = .ok (.iastore, 1) := by decide +kernel
theorem dX8_start_41 : decode cX8_start 41 = .ok (.iload_n 2, 1) := by decide +kernel
theorem dX8_start_42 : decode cX8_start 42 = .ok (.ireturn, 1) := by decide +kernel
set_option maxRecDepth 20000 in
theorem ggX8_dismiss_X8_isGuard : GoodIn wsX8_dismiss wsX8_isGuard := goodIn_r _ [8, 2, 9, 10, 7, 11, 21, 22, 23, 24, 25, 26, 27, 28, 29, 30, 31, 32, 33, 34, 35, 36, 37, 38, 39, 40, 41, 42, 43] (by decide +kernel) (by decide +kernel)
set_option maxRecDepth 20000 in
theorem gX8_dismiss_X8_isGuard : GoodIn wsX8_dismiss (wsV RX8 199 RX8 yX8_isGuard wsX8_isGuard) := goodIn_app (goodIn_of _ (by decide +kernel)) ggX8_dismiss_X8_isGuard
set_option maxRecDepth 20000 in
theorem ggX8_dismiss_X8_in : GoodIn wsX8_dismiss wsX8_in := goodIn_r _ [11] (by decide +kernel) (by decide +kernel)
set_option maxRecDepth 20000 in
theorem gX8_dismiss_X8_in : GoodIn wsX8_dismiss (va_wsS RX8 56 yX8_in wsX8_in) := goodIn_app (goodIn_of _ (by decide +kernel)) ggX8_dismiss_X8_in
set_option maxRecDepth 20000 in
theorem ggX8_dismiss_X8_notes : GoodIn wsX8_dismiss wsX8_notes := goodIn_r _ [15, 16, 17, 2, 18, 19, 7, 20, 21, 22, 23, 24, 25, 26, 27, 28, 29, 30, 31, 32, 33, 34, 35, 36, 37, 38, 39, 40, 41, 42, 43] (by decide +kernel) (by decide +kernel)
set_option maxRecDepth 20000 in
theorem gX8_dismiss_X8_notes : GoodIn wsX8_dismiss (wsV RX8 184 RX8 yX8_notes wsX8_notes) := goodIn_app (goodIn_of _ (by decide +kernel)) ggX8_dismiss_X8_notes
theorem dX8_dismiss_0 : decode cX8_dismiss 0 = .ok (.aload_n 0, 1) := by decide +kernel
theorem dX8_dismiss_1 : decode cX8_dismiss 1 = .ok (.iload_n 1, 1) := by decide +kernel
theorem dX8_dismiss_2 : decode cX8_dismiss 2 = .ok (.invokevirtual 199, 3) := by decide +kernel
theorem dX8_dismiss_5 : decode cX8_dismiss 5 = .ok (.ifCond .eq 12, 3) := by decide +kernel
theorem dX8_dismiss_8 : decode cX8_dismiss 8 = .ok (.iload_n 2, 1) := by decide +kernel
theorem dX8_dismiss_9 : decode cX8_dismiss 9 = .ok (.iconst 0, 1) := by decide +kernel
theorem dX8_dismiss_10 : decode cX8_dismiss 10 = .ok (.iconst 1, 1) := by decide +kernel
theorem dX8_dismiss_11 : decode cX8_dismiss 11 = .ok (.invokestatic 56, 3) := by decide +kernel
theorem dX8_dismiss_14 : decode cX8_dismiss 14 = .ok (.ifCond .ne 6, 3) := by decide +kernel
theorem dX8_dismiss_17 : decode cX8_dismiss 17 = .ok (.ldc 64, 2) := by decide +kernel
theorem dX8_dismiss_19 : decode cX8_dismiss 19 = .ok (.ireturn, 1) := by decide +kernel
theorem dX8_dismiss_20 : decode cX8_dismiss 20 = .ok (.aload_n 0, 1) := by decide +kernel
theorem dX8_dismiss_21 : decode cX8_dismiss 21 = .ok (.getfield 25, 3) := by decide +kernel
theorem dX8_dismiss_24 : decode cX8_dismiss 24 = .ok (.bipush 6, 2) := by decide +kernel
theorem dX8_dismiss_26 : decode cX8_dismiss 26 = .ok (.iaload, 1) := by decide +kernel
theorem dX8_dismiss_27 : decode cX8_dismiss 27 = .ok (.iload_n 1, 1) := by decide +kernel
theorem dX8_dismiss_28 : decode cX8_dismiss 28 = .ok (.ishr, 1) := by decide +kernel
theorem dX8_dismiss_29 : decode cX8_dismiss 29 = .ok (.iconst 1, 1) := by decide +kernel
theorem dX8_dismiss_30 : decode cX8_dismiss 30 = .ok (.iand, 1) := by decide +kernel
theorem dX8_dismiss_31 : decode cX8_dismiss 31 = .ok (.iload_n 2, 1) := by decide +kernel
theorem dX8_dismiss_32 : decode cX8_dismiss 32 = .ok (.if_icmp .ne 6, 3) := by decide +kernel
theorem dX8_dismiss_35 : decode cX8_dismiss 35 = .ok (.ldc 183, 2) := by decide +kernel
theorem dX8_dismiss_37 : decode cX8_dismiss 37 = .ok (.ireturn, 1) := by decide +kernel
theorem dX8_dismiss_38 : decode cX8_dismiss 38 = .ok (.aload_n 0, 1) := by decide +kernel
theorem dX8_dismiss_39 : decode cX8_dismiss 39 = .ok (.invokevirtual 184, 3) := by decide +kernel
theorem dX8_dismiss_42 : decode cX8_dismiss 42 = .ok (.aload_n 0, 1) := by decide +kernel
theorem dX8_dismiss_43 : decode cX8_dismiss 43 = .ok (.getfield 25, 3) := by decide +kernel
theorem dX8_dismiss_46 : decode cX8_dismiss 46 = .ok (.bipush 6, 2) := by decide +kernel
theorem dX8_dismiss_48 : decode cX8_dismiss 48 = .ok (.dup2, 1) := by decide +kernel
theorem dX8_dismiss_49 : decode cX8_dismiss 49 = .ok (.iaload, 1) := by decide +kernel
theorem dX8_dismiss_50 : decode cX8_dismiss 50 = .ok (.iconst 1, 1) := by decide +kernel
theorem dX8_dismiss_51 : decode cX8_dismiss 51 = .ok (.iload_n 1, 1) := by decide +kernel
theorem dX8_dismiss_52 : decode cX8_dismiss 52 = .ok (.ishl, 1) := by decide +kernel
theorem dX8_dismiss_53 : decode cX8_dismiss 53 = .ok (.ixor, 1) := by decide +kernel
theorem dX8_dismiss_54 : decode cX8_dismiss 54 = .ok (.iastore, 1) := by decide +kernel
theorem dX8_dismiss_55 : decode cX8_dismiss 55 = .ok (.aload_n 0, 1) := by decide +kernel
theorem dX8_dismiss_56 : decode cX8_dismiss 56 = .ok (.getfield 25, 3) := by decide +kernel
theorem dX8_dismiss_59 : decode cX8_dismiss 59 = .ok (.bipush 6, 2) := by decide +kernel
theorem dX8_dismiss_61 : decode cX8_dismiss 61 = .ok (.iaload, 1) := by decide +kernel
theorem dX8_dismiss_62 : decode cX8_dismiss 62 = .ok (.ireturn, 1) := by decide +kernel
set_option maxRecDepth 20000 in
theorem ggX8_undo_X8_copies : GoodIn wsX8_undo wsX8_copies := goodIn_r _ [8] (by decide +kernel) (by decide +kernel)
set_option maxRecDepth 20000 in
theorem gX8_undo_X8_copies : GoodIn wsX8_undo (va_wsS RX8 145 yX8_copies wsX8_copies) := goodIn_app (goodIn_of _ (by decide +kernel)) ggX8_undo_X8_copies
theorem dX8_undo_0 : decode cX8_undo 0 = .ok (.aload_n 0, 1) := by decide +kernel
theorem dX8_undo_1 : decode cX8_undo 1 = .ok (.getfield 149, 3) := by decide +kernel
theorem dX8_undo_4 : decode cX8_undo 4 = .ok (.ifCond .ne 6, 3) := by decide +kernel
theorem dX8_undo_7 : decode cX8_undo 7 = .ok (.ldc 183, 2) := by decide +kernel
theorem dX8_undo_9 : decode cX8_undo 9 = .ok (.ireturn, 1) := by decide +kernel
theorem dX8_undo_10 : decode cX8_undo 10 = .ok (.aload_n 0, 1) := by decide +kernel
theorem dX8_undo_11 : decode cX8_undo 11 = .ok (.dup, 1) := by decide +kernel
theorem dX8_undo_12 : decode cX8_undo 12 = .ok (.getfield 149, 3) := by decide +kernel
theorem dX8_undo_15 : decode cX8_undo 15 = .ok (.iconst 1, 1) := by decide +kernel
theorem dX8_undo_16 : decode cX8_undo 16 = .ok (.isub, 1) := by decide +kernel
theorem dX8_undo_17 : decode cX8_undo 17 = .ok (.putfield 149, 3) := by decide +kernel
theorem dX8_undo_20 : decode cX8_undo 20 = .ok (.aload_n 0, 1) := by decide +kernel
theorem dX8_undo_21 : decode cX8_undo 21 = .ok (.getfield 34, 3) := by decide +kernel
theorem dX8_undo_24 : decode cX8_undo 24 = .ok (.bipush 65, 2) := by decide +kernel
theorem dX8_undo_26 : decode cX8_undo 26 = .ok (.aload_n 0, 1) := by decide +kernel
theorem dX8_undo_27 : decode cX8_undo 27 = .ok (.getfield 149, 3) := by decide +kernel
theorem dX8_undo_30 : decode cX8_undo 30 = .ok (.imul, 1) := by decide +kernel
theorem dX8_undo_31 : decode cX8_undo 31 = .ok (.aload_n 0, 1) := by decide +kernel
theorem dX8_undo_32 : decode cX8_undo 32 = .ok (.getfield 25, 3) := by decide +kernel
theorem dX8_undo_35 : decode cX8_undo 35 = .ok (.iconst 0, 1) := by decide +kernel
theorem dX8_undo_36 : decode cX8_undo 36 = .ok (.invokestatic 145, 3) := by decide +kernel
theorem dX8_undo_39 : decode cX8_undo 39 = .ok (.aload_n 0, 1) := by decide +kernel
theorem dX8_undo_40 : decode cX8_undo 40 = .ok (.getfield 149, 3) := by decide +kernel
theorem dX8_undo_43 : decode cX8_undo 43 = .ok (.ireturn, 1) := by decide +kernel
set_option maxRecDepth 20000 in
theorem ggX8_letter_X8_isWord : GoodIn wsX8_letter wsX8_isWord := goodIn_r _ [7, 1, 8, 9, 6, 10, 11, 12, 13, 14, 15, 16, 17, 18, 19, 20, 21, 22, 23, 24, 25, 26, 27, 28, 29, 30, 31, 32, 33] (by decide +kernel) (by decide +kernel)
set_option maxRecDepth 20000 in
theorem gX8_letter_X8_isWord : GoodIn wsX8_letter (wsV RX8 190 RX8 yX8_isWord wsX8_isWord) := goodIn_app (goodIn_of _ (by decide +kernel)) ggX8_letter_X8_isWord
set_option maxRecDepth 20000 in
theorem ggX8_letter_X8_in : GoodIn wsX8_letter wsX8_in := goodIn_r _ [10] (by decide +kernel) (by decide +kernel)
set_option maxRecDepth 20000 in
theorem gX8_letter_X8_in : GoodIn wsX8_letter (va_wsS RX8 56 yX8_in wsX8_in) := goodIn_app (goodIn_of _ (by decide +kernel)) ggX8_letter_X8_in
theorem dX8_letter_0 : decode cX8_letter 0 = .ok (.aload_n 0, 1) := by decide +kernel
theorem dX8_letter_1 : decode cX8_letter 1 = .ok (.iload_n 1, 1) := by decide +kernel
theorem dX8_letter_2 : decode cX8_letter 2 = .ok (.invokevirtual 190, 3) := by decide +kernel
theorem dX8_letter_5 : decode cX8_letter 5 = .ok (.ifCond .eq 28, 3) := by decide +kernel
theorem dX8_letter_8 : decode cX8_letter 8 = .ok (.iload_n 2, 1) := by decide +kernel
theorem dX8_letter_9 : decode cX8_letter 9 = .ok (.iconst 0, 1) := by decide +kernel
theorem dX8_letter_10 : decode cX8_letter 10 = .ok (.iconst 2, 1) := by decide +kernel
theorem dX8_letter_11 : decode cX8_letter 11 = .ok (.invokestatic 56, 3) := by decide +kernel
theorem dX8_letter_14 : decode cX8_letter 14 = .ok (.ifCond .eq 19, 3) := by decide +kernel
theorem dX8_letter_17 : decode cX8_letter 17 = .ok (.aload_n 0, 1) := by decide +kernel
theorem dX8_letter_18 : decode cX8_letter 18 = .ok (.getfield 25, 3) := by decide +kernel
theorem dX8_letter_21 : decode cX8_letter 21 = .ok (.bipush 8, 2) := by decide +kernel
theorem dX8_letter_23 : decode cX8_letter 23 = .ok (.iconst 3, 1) := by decide +kernel
theorem dX8_letter_24 : decode cX8_letter 24 = .ok (.iload_n 1, 1) := by decide +kernel
theorem dX8_letter_25 : decode cX8_letter 25 = .ok (.imul, 1) := by decide +kernel
theorem dX8_letter_26 : decode cX8_letter 26 = .ok (.iadd, 1) := by decide +kernel
theorem dX8_letter_27 : decode cX8_letter 27 = .ok (.iload_n 2, 1) := by decide +kernel
theorem dX8_letter_28 : decode cX8_letter 28 = .ok (.iadd, 1) := by decide +kernel
theorem dX8_letter_29 : decode cX8_letter 29 = .ok (.iaload, 1) := by decide +kernel
theorem dX8_letter_30 : decode cX8_letter 30 = .ok (.goto 5, 3) := by decide +kernel
theorem dX8_letter_33 : decode cX8_letter 33 = .ok (.ldc 64, 2) := by decide +kernel
theorem dX8_letter_35 : decode cX8_letter 35 = .ok (.ireturn, 1) := by decide +kernel
set_option maxRecDepth 20000 in
theorem ggX8_like_X8_isWord : GoodIn wsX8_like wsX8_isWord := goodIn_r _ [6, 7, 8, 9, 5, 10, 19, 20, 21, 22, 23, 24, 25, 26, 27, 28, 29, 30, 31, 32, 33, 34, 35, 36, 37, 38, 39, 40, 41] (by decide +kernel) (by decide +kernel)
set_option maxRecDepth 20000 in
theorem gX8_like_X8_isWord : GoodIn wsX8_like (wsV RX8 190 RX8 yX8_isWord wsX8_isWord) := goodIn_app (goodIn_of _ (by decide +kernel)) ggX8_like_X8_isWord
set_option maxRecDepth 20000 in
theorem ggX8_like_X8_in : GoodIn wsX8_like wsX8_in := goodIn_r _ [10] (by decide +kernel) (by decide +kernel)
set_option maxRecDepth 20000 in
theorem gX8_like_X8_in : GoodIn wsX8_like (va_wsS RX8 56 yX8_in wsX8_in) := goodIn_app (goodIn_of _ (by decide +kernel)) ggX8_like_X8_in
set_option maxRecDepth 20000 in
theorem ggX8_like_X8_distance : GoodIn wsX8_like wsX8_distance := goodIn_r _ [14, 7, 19, 20, 21, 22, 23, 24, 25, 26, 27, 28, 29, 30, 31, 32, 33, 34, 35, 36, 37, 38, 39, 40, 41] (by decide +kernel) (by decide +kernel)
set_option maxRecDepth 20000 in
theorem gX8_like_X8_distance : GoodIn wsX8_like (wsV RX8 152 RX8 yX8_distance wsX8_distance) := goodIn_app (goodIn_of _ (by decide +kernel)) ggX8_like_X8_distance
set_option maxRecDepth 20000 in
theorem ggX8_like_X8_lips : GoodIn wsX8_like wsX8_lips := goodIn_r _ [18, 7, 19, 20, 21, 22, 23, 24, 25, 26, 27, 28, 29, 30, 31, 32, 33, 34, 35, 36, 37, 38, 39, 40, 41] (by decide +kernel) (by decide +kernel)
set_option maxRecDepth 20000 in
theorem gX8_like_X8_lips : GoodIn wsX8_like (wsV RX8 155 RX8 yX8_lips wsX8_lips) := goodIn_app (goodIn_of _ (by decide +kernel)) ggX8_like_X8_lips
theorem dX8_like_0 : decode cX8_like 0 = .ok (.aload_n 0, 1) := by decide +kernel
theorem dX8_like_1 : decode cX8_like 1 = .ok (.iload_n 1, 1) := by decide +kernel
theorem dX8_like_2 : decode cX8_like 2 = .ok (.invokevirtual 190, 3) := by decide +kernel
theorem dX8_like_5 : decode cX8_like 5 = .ok (.ifCond .eq 20, 3) := by decide +kernel
theorem dX8_like_8 : decode cX8_like 8 = .ok (.aload_n 0, 1) := by decide +kernel
theorem dX8_like_9 : decode cX8_like 9 = .ok (.iload_n 2, 1) := by decide +kernel
theorem dX8_like_10 : decode cX8_like 10 = .ok (.invokevirtual 190, 3) := by decide +kernel
theorem dX8_like_13 : decode cX8_like 13 = .ok (.ifCond .eq 12, 3) := by decide +kernel
theorem dX8_like_16 : decode cX8_like 16 = .ok (.iload_n 3, 1) := by decide +kernel
theorem dX8_like_17 : decode cX8_like 17 = .ok (.iconst 0, 1) := by decide +kernel
theorem dX8_like_18 : decode cX8_like 18 = .ok (.iconst 1, 1) := by decide +kernel
theorem dX8_like_19 : decode cX8_like 19 = .ok (.invokestatic 56, 3) := by decide +kernel
theorem dX8_like_22 : decode cX8_like 22 = .ok (.ifCond .ne 6, 3) := by decide +kernel
theorem dX8_like_25 : decode cX8_like 25 = .ok (.ldc 64, 2) := by decide +kernel
theorem dX8_like_27 : decode cX8_like 27 = .ok (.ireturn, 1) := by decide +kernel
theorem dX8_like_28 : decode cX8_like 28 = .ok (.iload_n 3, 1) := by decide +kernel
theorem dX8_like_29 : decode cX8_like 29 = .ok (.ifCond .ne 12, 3) := by decide +kernel
theorem dX8_like_32 : decode cX8_like 32 = .ok (.aload_n 0, 1) := by decide +kernel
theorem dX8_like_33 : decode cX8_like 33 = .ok (.iload_n 1, 1) := by decide +kernel
theorem dX8_like_34 : decode cX8_like 34 = .ok (.iload_n 2, 1) := by decide +kernel
theorem dX8_like_35 : decode cX8_like 35 = .ok (.invokevirtual 152, 3) := by decide +kernel
theorem dX8_like_38 : decode cX8_like 38 = .ok (.goto 9, 3) := by decide +kernel
theorem dX8_like_41 : decode cX8_like 41 = .ok (.aload_n 0, 1) := by decide +kernel
theorem dX8_like_42 : decode cX8_like 42 = .ok (.iload_n 1, 1) := by decide +kernel
theorem dX8_like_43 : decode cX8_like 43 = .ok (.iload_n 2, 1) := by decide +kernel
theorem dX8_like_44 : decode cX8_like 44 = .ok (.invokevirtual 155, 3) := by decide +kernel
theorem dX8_like_47 : decode cX8_like 47 = .ok (.ireturn, 1) := by decide +kernel
set_option maxRecDepth 20000 in
theorem ggX8_hoursOf_X8_guardOn : GoodIn wsX8_hoursOf wsX8_guardOn := goodIn_r _ [6, 1, 7, 8, 9, 10, 11, 12, 13, 14, 15, 16, 17, 18, 19, 20, 21, 22, 23, 24, 25, 26, 27, 28, 29] (by decide +kernel) (by decide +kernel)
set_option maxRecDepth 20000 in
theorem gX8_hoursOf_X8_guardOn : GoodIn wsX8_hoursOf (wsV RX8 158 RX8 yX8_guardOn wsX8_guardOn) := goodIn_app (goodIn_of _ (by decide +kernel)) ggX8_hoursOf_X8_guardOn
theorem dX8_hoursOf_0 : decode cX8_hoursOf 0 = .ok (.iconst 0, 1) := by decide +kernel
theorem dX8_hoursOf_1 : decode cX8_hoursOf 1 = .ok (.istore_n 2, 1) := by decide +kernel
theorem dX8_hoursOf_2 : decode cX8_hoursOf 2 = .ok (.iconst 0, 1) := by decide +kernel
theorem dX8_hoursOf_3 : decode cX8_hoursOf 3 = .ok (.istore_n 3, 1) := by decide +kernel
theorem dX8_hoursOf_4 : decode cX8_hoursOf 4 = .ok (.iload_n 3, 1) := by decide +kernel
theorem dX8_hoursOf_5 : decode cX8_hoursOf 5 = .ok (.bipush 6, 2) := by decide +kernel
theorem dX8_hoursOf_7 : decode cX8_hoursOf 7 = .ok (.if_icmp .ge 34, 3) := by decide +kernel
theorem dX8_hoursOf_10 : decode cX8_hoursOf 10 = .ok (.iload_n 2, 1) := by decide +kernel
theorem dX8_hoursOf_11 : decode cX8_hoursOf 11 = .ok (.aload_n 0, 1) := by decide +kernel
theorem dX8_hoursOf_12 : decode cX8_hoursOf 12 = .ok (.iload_n 3, 1) := by decide +kernel
theorem dX8_hoursOf_13 : decode cX8_hoursOf 13 = .ok (.aload_n 0, 1) := by decide +kernel
theorem dX8_hoursOf_14 : decode cX8_hoursOf 14 = .ok (.getfield 25, 3) := by decide +kernel
theorem dX8_hoursOf_17 : decode cX8_hoursOf 17 = .ok (.iconst 5, 1) := by decide +kernel
theorem dX8_hoursOf_18 : decode cX8_hoursOf 18 = .ok (.iaload, 1) := by decide +kernel
theorem dX8_hoursOf_19 : decode cX8_hoursOf 19 = .ok (.invokevirtual 158, 3) := by decide +kernel
theorem dX8_hoursOf_22 : decode cX8_hoursOf 22 = .ok (.iload_n 1, 1) := by decide +kernel
theorem dX8_hoursOf_23 : decode cX8_hoursOf 23 = .ok (.if_icmp .ne 9, 3) := by decide +kernel
theorem dX8_hoursOf_26 : decode cX8_hoursOf 26 = .ok (.iconst 1, 1) := by decide +kernel
theorem dX8_hoursOf_27 : decode cX8_hoursOf 27 = .ok (.iload_n 3, 1) := by decide +kernel
theorem dX8_hoursOf_28 : decode cX8_hoursOf 28 = .ok (.ishl, 1) := by decide +kernel
theorem dX8_hoursOf_29 : decode cX8_hoursOf 29 = .ok (.goto 4, 3) := by decide +kernel
theorem dX8_hoursOf_32 : decode cX8_hoursOf 32 = .ok (.iconst 0, 1) := by decide +kernel
theorem dX8_hoursOf_33 : decode cX8_hoursOf 33 = .ok (.ior, 1) := by decide +kernel
theorem dX8_hoursOf_34 : decode cX8_hoursOf 34 = .ok (.istore_n 2, 1) := by decide +kernel
theorem dX8_hoursOf_35 : decode cX8_hoursOf 35 = .ok (.iinc 3 1, 3) := by decide +kernel
theorem dX8_hoursOf_38 : decode cX8_hoursOf 38 = .ok (.goto (-34), 3) := by decide +kernel
theorem dX8_hoursOf_41 : decode cX8_hoursOf 41 = .ok (.iload_n 2, 1) := by decide +kernel
theorem dX8_hoursOf_42 : decode cX8_hoursOf 42 = .ok (.ireturn, 1) := by decide +kernel
set_option maxRecDepth 20000 in
theorem ggX8_guard_X8_isGuard : GoodIn wsX8_guard wsX8_isGuard := goodIn_r _ [7, 2, 8, 9, 6, 10, 19, 20, 21, 22, 23, 24, 25, 26, 27, 28, 29, 30, 31, 32, 33, 34, 35, 36, 37, 38, 39, 40, 41] (by decide +kernel) (by decide +kernel)
set_option maxRecDepth 20000 in
theorem gX8_guard_X8_isGuard : GoodIn wsX8_guard (wsV RX8 199 RX8 yX8_isGuard wsX8_isGuard) := goodIn_app (goodIn_of _ (by decide +kernel)) ggX8_guard_X8_isGuard
set_option maxRecDepth 20000 in
theorem ggX8_guard_X8_hoursOf : GoodIn wsX8_guard wsX8_hoursOf := goodIn_r _ [14, 2, 15, 16, 17, 6, 18, 19, 20, 21, 22, 23, 24, 25, 26, 27, 28, 29, 30, 31, 32, 33, 34, 35, 36, 37, 38, 39, 40, 41] (by decide +kernel) (by decide +kernel)
set_option maxRecDepth 20000 in
theorem gX8_guard_X8_hoursOf : GoodIn wsX8_guard (wsV RX8 202 RX8 yX8_hoursOf wsX8_hoursOf) := goodIn_app (goodIn_of _ (by decide +kernel)) ggX8_guard_X8_hoursOf
theorem dX8_guard_0 : decode cX8_guard 0 = .ok (.aload_n 0, 1) := by decide +kernel
theorem dX8_guard_1 : decode cX8_guard 1 = .ok (.iload_n 1, 1) := by decide +kernel
theorem dX8_guard_2 : decode cX8_guard 2 = .ok (.invokevirtual 199, 3) := by decide +kernel
theorem dX8_guard_5 : decode cX8_guard 5 = .ok (.ifCond .ne 6, 3) := by decide +kernel
theorem dX8_guard_8 : decode cX8_guard 8 = .ok (.ldc 64, 2) := by decide +kernel
theorem dX8_guard_10 : decode cX8_guard 10 = .ok (.ireturn, 1) := by decide +kernel
theorem dX8_guard_11 : decode cX8_guard 11 = .ok (.iload_n 2, 1) := by decide +kernel
theorem dX8_guard_12 : decode cX8_guard 12 = .ok (.tableswitch 78 0 3 #[32, 46, 60, 72], 32) := by decide +kernel
theorem dX8_guard_44 : decode cX8_guard 44 = .ok (.aload_n 0, 1) := by decide +kernel
theorem dX8_guard_45 : decode cX8_guard 45 = .ok (.getfield 25, 3) := by decide +kernel
theorem dX8_guard_48 : decode cX8_guard 48 = .ok (.bipush 26, 2) := by decide +kernel
theorem dX8_guard_50 : decode cX8_guard 50 = .ok (.iconst 3, 1) := by decide +kernel
theorem dX8_guard_51 : decode cX8_guard 51 = .ok (.iload_n 1, 1) := by decide +kernel
theorem dX8_guard_52 : decode cX8_guard 52 = .ok (.imul, 1) := by decide +kernel
theorem dX8_guard_53 : decode cX8_guard 53 = .ok (.iadd, 1) := by decide +kernel
theorem dX8_guard_54 : decode cX8_guard 54 = .ok (.iconst 1, 1) := by decide +kernel
theorem dX8_guard_55 : decode cX8_guard 55 = .ok (.iadd, 1) := by decide +kernel
theorem dX8_guard_56 : decode cX8_guard 56 = .ok (.iaload, 1) := by decide +kernel
theorem dX8_guard_57 : decode cX8_guard 57 = .ok (.ireturn, 1) := by decide +kernel
theorem dX8_guard_58 : decode cX8_guard 58 = .ok (.aload_n 0, 1) := by decide +kernel
theorem dX8_guard_59 : decode cX8_guard 59 = .ok (.getfield 25, 3) := by decide +kernel
theorem dX8_guard_62 : decode cX8_guard 62 = .ok (.bipush 26, 2) := by decide +kernel
theorem dX8_guard_64 : decode cX8_guard 64 = .ok (.iconst 3, 1) := by decide +kernel
theorem dX8_guard_65 : decode cX8_guard 65 = .ok (.iload_n 1, 1) := by decide +kernel
theorem dX8_guard_66 : decode cX8_guard 66 = .ok (.imul, 1) := by decide +kernel
theorem dX8_guard_67 : decode cX8_guard 67 = .ok (.iadd, 1) := by decide +kernel
theorem dX8_guard_68 : decode cX8_guard 68 = .ok (.iconst 2, 1) := by decide +kernel
theorem dX8_guard_69 : decode cX8_guard 69 = .ok (.iadd, 1) := by decide +kernel
theorem dX8_guard_70 : decode cX8_guard 70 = .ok (.iaload, 1) := by decide +kernel
theorem dX8_guard_71 : decode cX8_guard 71 = .ok (.ireturn, 1) := by decide +kernel
theorem dX8_guard_72 : decode cX8_guard 72 = .ok (.aload_n 0, 1) := by decide +kernel
theorem dX8_guard_73 : decode cX8_guard 73 = .ok (.getfield 25, 3) := by decide +kernel
theorem dX8_guard_76 : decode cX8_guard 76 = .ok (.bipush 6, 2) := by decide +kernel
theorem dX8_guard_78 : decode cX8_guard 78 = .ok (.iaload, 1) := by decide +kernel
theorem dX8_guard_79 : decode cX8_guard 79 = .ok (.iload_n 1, 1) := by decide +kernel
theorem dX8_guard_80 : decode cX8_guard 80 = .ok (.ishr, 1) := by decide +kernel
theorem dX8_guard_81 : decode cX8_guard 81 = .ok (.iconst 1, 1) := by decide +kernel
theorem dX8_guard_82 : decode cX8_guard 82 = .ok (.iand, 1) := by decide +kernel
theorem dX8_guard_83 : decode cX8_guard 83 = .ok (.ireturn, 1) := by decide +kernel
theorem dX8_guard_84 : decode cX8_guard 84 = .ok (.aload_n 0, 1) := by decide +kernel
theorem dX8_guard_85 : decode cX8_guard 85 = .ok (.iload_n 1, 1) := by decide +kernel
theorem dX8_guard_86 : decode cX8_guard 86 = .ok (.invokevirtual 202, 3) := by decide +kernel
theorem dX8_guard_89 : decode cX8_guard 89 = .ok (.ireturn, 1) := by decide +kernel
theorem dX8_guard_90 : decode cX8_guard 90 = .ok (.ldc 64, 2) := by decide +kernel
theorem dX8_guard_92 : decode cX8_guard 92 = .ok (.ireturn, 1) := by decide +kernel
set_option maxRecDepth 20000 in
theorem ggX8_tried_X8_in : GoodIn wsX8_tried wsX8_in := goodIn_r _ [7] (by decide +kernel) (by decide +kernel)
set_option maxRecDepth 20000 in
theorem gX8_tried_X8_in : GoodIn wsX8_tried (va_wsS RX8 56 yX8_in wsX8_in) := goodIn_app (goodIn_of _ (by decide +kernel)) ggX8_tried_X8_in
theorem dX8_tried_0 : decode cX8_tried 0 = .ok (.iload_n 1, 1) := by decide +kernel
theorem dX8_tried_1 : decode cX8_tried 1 = .ok (.iconst 0, 1) := by decide +kernel
theorem dX8_tried_2 : decode cX8_tried 2 = .ok (.aload_n 0, 1) := by decide +kernel
theorem dX8_tried_3 : decode cX8_tried 3 = .ok (.getfield 25, 3) := by decide +kernel
theorem dX8_tried_6 : decode cX8_tried 6 = .ok (.bipush 7, 2) := by decide +kernel
theorem dX8_tried_8 : decode cX8_tried 8 = .ok (.iaload, 1) := by decide +kernel
theorem dX8_tried_9 : decode cX8_tried 9 = .ok (.iconst 1, 1) := by decide +kernel
theorem dX8_tried_10 : decode cX8_tried 10 = .ok (.isub, 1) := by decide +kernel
theorem dX8_tried_11 : decode cX8_tried 11 = .ok (.invokestatic 56, 3) := by decide +kernel
theorem dX8_tried_14 : decode cX8_tried 14 = .ok (.ifCond .eq 12, 3) := by decide +kernel
theorem dX8_tried_17 : decode cX8_tried 17 = .ok (.iload_n 2, 1) := by decide +kernel
theorem dX8_tried_18 : decode cX8_tried 18 = .ok (.iconst 0, 1) := by decide +kernel
theorem dX8_tried_19 : decode cX8_tried 19 = .ok (.iconst 2, 1) := by decide +kernel
theorem dX8_tried_20 : decode cX8_tried 20 = .ok (.invokestatic 56, 3) := by decide +kernel
theorem dX8_tried_23 : decode cX8_tried 23 = .ok (.ifCond .ne 6, 3) := by decide +kernel
theorem dX8_tried_26 : decode cX8_tried 26 = .ok (.ldc 64, 2) := by decide +kernel
theorem dX8_tried_28 : decode cX8_tried 28 = .ok (.ireturn, 1) := by decide +kernel
theorem dX8_tried_29 : decode cX8_tried 29 = .ok (.aload_n 0, 1) := by decide +kernel
theorem dX8_tried_30 : decode cX8_tried 30 = .ok (.getfield 25, 3) := by decide +kernel
theorem dX8_tried_33 : decode cX8_tried 33 = .ok (.bipush 38, 2) := by decide +kernel
theorem dX8_tried_35 : decode cX8_tried 35 = .ok (.iconst 3, 1) := by decide +kernel
theorem dX8_tried_36 : decode cX8_tried 36 = .ok (.iload_n 1, 1) := by decide +kernel
theorem dX8_tried_37 : decode cX8_tried 37 = .ok (.imul, 1) := by decide +kernel
theorem dX8_tried_38 : decode cX8_tried 38 = .ok (.iadd, 1) := by decide +kernel
theorem dX8_tried_39 : decode cX8_tried 39 = .ok (.iload_n 2, 1) := by decide +kernel
theorem dX8_tried_40 : decode cX8_tried 40 = .ok (.iadd, 1) := by decide +kernel
theorem dX8_tried_41 : decode cX8_tried 41 = .ok (.iaload, 1) := by decide +kernel
theorem dX8_tried_42 : decode cX8_tried 42 = .ok (.istore_n 3, 1) := by decide +kernel
theorem dX8_tried_43 : decode cX8_tried 43 = .ok (.iload_n 2, 1) := by decide +kernel
theorem dX8_tried_44 : decode cX8_tried 44 = .ok (.iconst 1, 1) := by decide +kernel
theorem dX8_tried_45 : decode cX8_tried 45 = .ok (.if_icmp .eq 7, 3) := by decide +kernel
theorem dX8_tried_48 : decode cX8_tried 48 = .ok (.iload_n 3, 1) := by decide +kernel
theorem dX8_tried_49 : decode cX8_tried 49 = .ok (.goto 15, 3) := by decide +kernel
theorem dX8_tried_52 : decode cX8_tried 52 = .ok (.iload_n 3, 1) := by decide +kernel
theorem dX8_tried_53 : decode cX8_tried 53 = .ok (.ifCond .ne 8, 3) := by decide +kernel
theorem dX8_tried_56 : decode cX8_tried 56 = .ok (.ldc 50, 2) := by decide +kernel
theorem dX8_tried_58 : decode cX8_tried 58 = .ok (.goto 6, 3) := by decide +kernel
theorem dX8_tried_61 : decode cX8_tried 61 = .ok (.iload_n 3, 1) := by decide +kernel
theorem dX8_tried_62 : decode cX8_tried 62 = .ok (.iconst 1, 1) := by decide +kernel
theorem dX8_tried_63 : decode cX8_tried 63 = .ok (.isub, 1) := by decide +kernel
theorem dX8_tried_64 : decode cX8_tried 64 = .ok (.ireturn, 1) := by decide +kernel
set_option maxRecDepth 20000 in
theorem ggX8_secret_X8_isGate : GoodIn wsX8_secret wsX8_isGate := goodIn_r _ [8, 2, 18, 19, 20, 21, 22, 23, 24, 25, 26, 27, 28, 29, 30, 31, 32, 33, 34, 35, 36, 37, 38, 39, 40] (by decide +kernel) (by decide +kernel)
set_option maxRecDepth 20000 in
theorem gX8_secret_X8_isGate : GoodIn wsX8_secret (wsV RX8 180 RX8 yX8_isGate wsX8_isGate) := goodIn_app (goodIn_of _ (by decide +kernel)) ggX8_secret_X8_isGate
set_option maxRecDepth 20000 in
theorem ggX8_secret_X8_isFar : GoodIn wsX8_secret wsX8_isFar := goodIn_r _ [11, 12, 13, 7, 14] (by decide +kernel) (by decide +kernel)
set_option maxRecDepth 20000 in
theorem gX8_secret_X8_isFar : GoodIn wsX8_secret (va_wsS RX8 205 yX8_isFar wsX8_isFar) := goodIn_app (goodIn_of _ (by decide +kernel)) ggX8_secret_X8_isFar
set_option maxRecDepth 20000 in
theorem ggX8_secret_X8_secretOf : GoodIn wsX8_secret wsX8_secretOf := goodIn_r _ [17] (by decide +kernel) (by decide +kernel)
set_option maxRecDepth 20000 in
theorem gX8_secret_X8_secretOf : GoodIn wsX8_secret (va_wsS RX8 172 yX8_secretOf wsX8_secretOf) := goodIn_app (goodIn_of _ (by decide +kernel)) ggX8_secret_X8_secretOf
theorem dX8_secret_0 : decode cX8_secret 0 = .ok (.aload_n 0, 1) := by decide +kernel
theorem dX8_secret_1 : decode cX8_secret 1 = .ok (.invokevirtual 180, 3) := by decide +kernel
theorem dX8_secret_4 : decode cX8_secret 4 = .ok (.ifCond .ne 6, 3) := by decide +kernel
theorem dX8_secret_7 : decode cX8_secret 7 = .ok (.ldc 183, 2) := by decide +kernel
theorem dX8_secret_9 : decode cX8_secret 9 = .ok (.ireturn, 1) := by decide +kernel
theorem dX8_secret_10 : decode cX8_secret 10 = .ok (.iload_n 1, 1) := by decide +kernel
theorem dX8_secret_11 : decode cX8_secret 11 = .ok (.invokestatic 205, 3) := by decide +kernel
theorem dX8_secret_14 : decode cX8_secret 14 = .ok (.ifCond .eq 21, 3) := by decide +kernel
theorem dX8_secret_17 : decode cX8_secret 17 = .ok (.aload_n 0, 1) := by decide +kernel
theorem dX8_secret_18 : decode cX8_secret 18 = .ok (.getfield 25, 3) := by decide +kernel
theorem dX8_secret_21 : decode cX8_secret 21 = .ok (.aload_n 0, 1) := by decide +kernel
theorem dX8_secret_22 : decode cX8_secret 22 = .ok (.getfield 25, 3) := by decide +kernel
theorem dX8_secret_25 : decode cX8_secret 25 = .ok (.iconst 5, 1) := by decide +kernel
theorem dX8_secret_26 : decode cX8_secret 26 = .ok (.iaload, 1) := by decide +kernel
theorem dX8_secret_27 : decode cX8_secret 27 = .ok (.iload_n 1, 1) := by decide +kernel
theorem dX8_secret_28 : decode cX8_secret 28 = .ok (.iadd, 1) := by decide +kernel
theorem dX8_secret_29 : decode cX8_secret 29 = .ok (.invokestatic 172, 3) := by decide +kernel
theorem dX8_secret_32 : decode cX8_secret 32 = .ok (.goto 5, 3) := by decide +kernel
theorem dX8_secret_35 : decode cX8_secret 35 = .ok (.ldc 64, 2) := by decide +kernel
theorem dX8_secret_37 : decode cX8_secret 37 = .ok (.ireturn, 1) := by decide +kernel
set_option maxRecDepth 20000 in
theorem ggX8_taken_X8_isWord : GoodIn wsX8_taken wsX8_isWord := goodIn_r _ [6, 7, 8, 9, 5, 10, 51, 52, 53, 54, 55, 56, 57, 58, 59, 60, 61, 62, 63, 64, 65, 66, 67, 68, 69, 70, 71, 72, 73] (by decide +kernel) (by decide +kernel)
set_option maxRecDepth 20000 in
theorem gX8_taken_X8_isWord : GoodIn wsX8_taken (wsV RX8 190 RX8 yX8_isWord wsX8_isWord) := goodIn_app (goodIn_of _ (by decide +kernel)) ggX8_taken_X8_isWord
set_option maxRecDepth 20000 in
theorem ggX8_taken_X8_isHour : GoodIn wsX8_taken wsX8_isHour := goodIn_r _ [13, 8, 9, 5, 10] (by decide +kernel) (by decide +kernel)
set_option maxRecDepth 20000 in
theorem gX8_taken_X8_isHour : GoodIn wsX8_taken (va_wsS RX8 193 yX8_isHour wsX8_isHour) := goodIn_app (goodIn_of _ (by decide +kernel)) ggX8_taken_X8_isHour
set_option maxRecDepth 20000 in
theorem ggX8_taken_X8_isFar : GoodIn wsX8_taken wsX8_isFar := goodIn_r _ [16, 8, 9, 5, 10] (by decide +kernel) (by decide +kernel)
set_option maxRecDepth 20000 in
theorem gX8_taken_X8_isFar : GoodIn wsX8_taken (va_wsS RX8 205 yX8_isFar wsX8_isFar) := goodIn_app (goodIn_of _ (by decide +kernel)) ggX8_taken_X8_isFar
set_option maxRecDepth 20000 in
theorem ggX8_taken_X8_isTakenNow : GoodIn wsX8_taken wsX8_isTakenNow := goodIn_r _ [20, 7, 21, 22, 5, 23, 24, 25, 26, 27, 28, 29, 30, 31, 32, 33, 34, 35, 36, 37, 38, 39, 40, 41, 42, 43, 44, 45, 46, 47, 48, 49, 50, 51, 52, 53, 54, 55, 56, 57, 58, 59, 60, 61, 62, 63, 64, 65, 66, 67, 68, 69, 70, 71, 72, 73] (by decide +kernel) (by decide +kernel)
set_option maxRecDepth 20000 in
theorem gX8_taken_X8_isTakenNow : GoodIn wsX8_taken (wsV RX8 196 RX8 yX8_isTakenNow wsX8_isTakenNow) := goodIn_app (goodIn_of _ (by decide +kernel)) ggX8_taken_X8_isTakenNow
theorem dX8_taken_0 : decode cX8_taken 0 = .ok (.aload_n 0, 1) := by decide +kernel
theorem dX8_taken_1 : decode cX8_taken 1 = .ok (.iload_n 1, 1) := by decide +kernel
theorem dX8_taken_2 : decode cX8_taken 2 = .ok (.invokevirtual 190, 3) := by decide +kernel
theorem dX8_taken_5 : decode cX8_taken 5 = .ok (.ifCond .eq 17, 3) := by decide +kernel
theorem dX8_taken_8 : decode cX8_taken 8 = .ok (.iload_n 2, 1) := by decide +kernel
theorem dX8_taken_9 : decode cX8_taken 9 = .ok (.invokestatic 193, 3) := by decide +kernel
theorem dX8_taken_12 : decode cX8_taken 12 = .ok (.ifCond .eq 10, 3) := by decide +kernel
theorem dX8_taken_15 : decode cX8_taken 15 = .ok (.iload_n 3, 1) := by decide +kernel
theorem dX8_taken_16 : decode cX8_taken 16 = .ok (.invokestatic 205, 3) := by decide +kernel
theorem dX8_taken_19 : decode cX8_taken 19 = .ok (.ifCond .ne 6, 3) := by decide +kernel
theorem dX8_taken_22 : decode cX8_taken 22 = .ok (.ldc 64, 2) := by decide +kernel
theorem dX8_taken_24 : decode cX8_taken 24 = .ok (.ireturn, 1) := by decide +kernel
theorem dX8_taken_25 : decode cX8_taken 25 = .ok (.aload_n 0, 1) := by decide +kernel
theorem dX8_taken_26 : decode cX8_taken 26 = .ok (.iload_n 1, 1) := by decide +kernel
theorem dX8_taken_27 : decode cX8_taken 27 = .ok (.iload_n 2, 1) := by decide +kernel
theorem dX8_taken_28 : decode cX8_taken 28 = .ok (.iload_n 3, 1) := by decide +kernel
theorem dX8_taken_29 : decode cX8_taken 29 = .ok (.invokevirtual 196, 3) := by decide +kernel
theorem dX8_taken_32 : decode cX8_taken 32 = .ok (.ifCond .eq 7, 3) := by decide +kernel
theorem dX8_taken_35 : decode cX8_taken 35 = .ok (.iconst 1, 1) := by decide +kernel
theorem dX8_taken_36 : decode cX8_taken 36 = .ok (.goto 4, 3) := by decide +kernel
theorem dX8_taken_39 : decode cX8_taken 39 = .ok (.iconst 0, 1) := by decide +kernel
theorem dX8_taken_40 : decode cX8_taken 40 = .ok (.ireturn, 1) := by decide +kernel
set_option maxRecDepth 20000 in
theorem ggX8_safe_X8_isGate : GoodIn wsX8_safe wsX8_isGate := goodIn_r _ [8, 3, 52, 53, 54, 55, 56, 57, 58, 59, 60, 61, 62, 63, 64, 65, 66, 67, 68, 69, 70, 71, 72, 73, 74] (by decide +kernel) (by decide +kernel)
set_option maxRecDepth 20000 in
theorem gX8_safe_X8_isGate : GoodIn wsX8_safe (wsV RX8 180 RX8 yX8_isGate wsX8_isGate) := goodIn_app (goodIn_of _ (by decide +kernel)) ggX8_safe_X8_isGate
set_option maxRecDepth 20000 in
theorem ggX8_safe_X8_isHour : GoodIn wsX8_safe wsX8_isHour := goodIn_r _ [11, 12, 13, 7, 14] (by decide +kernel) (by decide +kernel)
set_option maxRecDepth 20000 in
theorem gX8_safe_X8_isHour : GoodIn wsX8_safe (va_wsS RX8 193 yX8_isHour wsX8_isHour) := goodIn_app (goodIn_of _ (by decide +kernel)) ggX8_safe_X8_isHour
set_option maxRecDepth 20000 in
theorem ggX8_safe_X8_isFar : GoodIn wsX8_safe wsX8_isFar := goodIn_r _ [17, 12, 13, 7, 14] (by decide +kernel) (by decide +kernel)
set_option maxRecDepth 20000 in
theorem gX8_safe_X8_isFar : GoodIn wsX8_safe (va_wsS RX8 205 yX8_isFar wsX8_isFar) := goodIn_app (goodIn_of _ (by decide +kernel)) ggX8_safe_X8_isFar
set_option maxRecDepth 20000 in
theorem ggX8_safe_X8_isTakenNow : GoodIn wsX8_safe wsX8_isTakenNow := goodIn_r _ [21, 3, 22, 23, 7, 24, 25, 26, 27, 28, 29, 30, 31, 32, 33, 34, 35, 36, 37, 38, 39, 40, 41, 42, 43, 44, 45, 46, 47, 48, 49, 50, 51, 52, 53, 54, 55, 56, 57, 58, 59, 60, 61, 62, 63, 64, 65, 66, 67, 68, 69, 70, 71, 72, 73, 74] (by decide +kernel) (by decide +kernel)
set_option maxRecDepth 20000 in
theorem gX8_safe_X8_isTakenNow : GoodIn wsX8_safe (wsV RX8 196 RX8 yX8_isTakenNow wsX8_isTakenNow) := goodIn_app (goodIn_of _ (by decide +kernel)) ggX8_safe_X8_isTakenNow
theorem dX8_safe_0 : decode cX8_safe 0 = .ok (.aload_n 0, 1) := by decide +kernel
theorem dX8_safe_1 : decode cX8_safe 1 = .ok (.invokevirtual 180, 3) := by decide +kernel
theorem dX8_safe_4 : decode cX8_safe 4 = .ok (.ifCond .ne 6, 3) := by decide +kernel
theorem dX8_safe_7 : decode cX8_safe 7 = .ok (.ldc 183, 2) := by decide +kernel
theorem dX8_safe_9 : decode cX8_safe 9 = .ok (.ireturn, 1) := by decide +kernel
theorem dX8_safe_10 : decode cX8_safe 10 = .ok (.iload_n 1, 1) := by decide +kernel
theorem dX8_safe_11 : decode cX8_safe 11 = .ok (.invokestatic 193, 3) := by decide +kernel
theorem dX8_safe_14 : decode cX8_safe 14 = .ok (.ifCond .eq 10, 3) := by decide +kernel
theorem dX8_safe_17 : decode cX8_safe 17 = .ok (.iload_n 2, 1) := by decide +kernel
theorem dX8_safe_18 : decode cX8_safe 18 = .ok (.invokestatic 205, 3) := by decide +kernel
theorem dX8_safe_21 : decode cX8_safe 21 = .ok (.ifCond .ne 6, 3) := by decide +kernel
theorem dX8_safe_24 : decode cX8_safe 24 = .ok (.ldc 64, 2) := by decide +kernel
theorem dX8_safe_26 : decode cX8_safe 26 = .ok (.ireturn, 1) := by decide +kernel
theorem dX8_safe_27 : decode cX8_safe 27 = .ok (.iconst 0, 1) := by decide +kernel
theorem dX8_safe_28 : decode cX8_safe 28 = .ok (.istore_n 3, 1) := by decide +kernel
theorem dX8_safe_29 : decode cX8_safe 29 = .ok (.iconst 0, 1) := by decide +kernel
theorem dX8_safe_30 : decode cX8_safe 30 = .ok (.istore 4, 2) := by decide +kernel
theorem dX8_safe_32 : decode cX8_safe 32 = .ok (.iload 4, 2) := by decide +kernel
theorem dX8_safe_34 : decode cX8_safe 34 = .ok (.aload_n 0, 1) := by decide +kernel
theorem dX8_safe_35 : decode cX8_safe 35 = .ok (.getfield 25, 3) := by decide +kernel
theorem dX8_safe_38 : decode cX8_safe 38 = .ok (.iconst 3, 1) := by decide +kernel
theorem dX8_safe_39 : decode cX8_safe 39 = .ok (.iaload, 1) := by decide +kernel
theorem dX8_safe_40 : decode cX8_safe 40 = .ok (.if_icmp .ge 31, 3) := by decide +kernel
theorem dX8_safe_43 : decode cX8_safe 43 = .ok (.iload_n 3, 1) := by decide +kernel
theorem dX8_safe_44 : decode cX8_safe 44 = .ok (.aload_n 0, 1) := by decide +kernel
theorem dX8_safe_45 : decode cX8_safe 45 = .ok (.iload 4, 2) := by decide +kernel
theorem dX8_safe_47 : decode cX8_safe 47 = .ok (.iload_n 1, 1) := by decide +kernel
theorem dX8_safe_48 : decode cX8_safe 48 = .ok (.iload_n 2, 1) := by decide +kernel
theorem dX8_safe_49 : decode cX8_safe 49 = .ok (.invokevirtual 196, 3) := by decide +kernel
theorem dX8_safe_52 : decode cX8_safe 52 = .ok (.ifCond .eq 7, 3) := by decide +kernel
theorem dX8_safe_55 : decode cX8_safe 55 = .ok (.iconst 0, 1) := by decide +kernel
theorem dX8_safe_56 : decode cX8_safe 56 = .ok (.goto 7, 3) := by decide +kernel
theorem dX8_safe_59 : decode cX8_safe 59 = .ok (.iconst 1, 1) := by decide +kernel
theorem dX8_safe_60 : decode cX8_safe 60 = .ok (.iload 4, 2) := by decide +kernel
theorem dX8_safe_62 : decode cX8_safe 62 = .ok (.ishl, 1) := by decide +kernel
theorem dX8_safe_63 : decode cX8_safe 63 = .ok (.ior, 1) := by decide +kernel
theorem dX8_safe_64 : decode cX8_safe 64 = .ok (.istore_n 3, 1) := by decide +kernel
theorem dX8_safe_65 : decode cX8_safe 65 = .ok (.iinc 4 1, 3) := by decide +kernel
theorem dX8_safe_68 : decode cX8_safe 68 = .ok (.goto (-36), 3) := by decide +kernel
theorem dX8_safe_71 : decode cX8_safe 71 = .ok (.iload_n 3, 1) := by decide +kernel
theorem dX8_safe_72 : decode cX8_safe 72 = .ok (.ireturn, 1) := by decide +kernel
set_option maxRecDepth 20000 in
theorem ggX8_areIn_X8_has : GoodIn wsX8_areIn wsX8_has := goodIn_r _ [5] (by decide +kernel) (by decide +kernel)
set_option maxRecDepth 20000 in
theorem gX8_areIn_X8_has : GoodIn wsX8_areIn (va_wsS RX8 161 yX8_has wsX8_has) := goodIn_app (goodIn_of _ (by decide +kernel)) ggX8_areIn_X8_has
set_option maxRecDepth 20000 in
theorem ggX8_areIn_X8_secretOf : GoodIn wsX8_areIn wsX8_secretOf := goodIn_r _ [8] (by decide +kernel) (by decide +kernel)
set_option maxRecDepth 20000 in
theorem gX8_areIn_X8_secretOf : GoodIn wsX8_areIn (va_wsS RX8 172 yX8_secretOf wsX8_secretOf) := goodIn_app (goodIn_of _ (by decide +kernel)) ggX8_areIn_X8_secretOf
set_option maxRecDepth 20000 in
theorem ggX8_areIn_X8_isTaken : GoodIn wsX8_areIn wsX8_isTaken := goodIn_r _ [12, 13, 14, 15, 4, 16, 1, 2, 3, 5, 17, 18, 19, 20, 21, 22, 23, 24, 25, 26, 27, 28, 29, 30, 31, 32, 33, 34, 35, 36, 37, 38, 39, 40, 41, 42, 43, 44, 45, 46, 47, 48, 49, 50, 51, 52, 53, 54, 55] (by decide +kernel) (by decide +kernel)
set_option maxRecDepth 20000 in
theorem gX8_areIn_X8_isTaken : GoodIn wsX8_areIn (wsV RX8 176 RX8 yX8_isTaken wsX8_isTaken) := goodIn_app (goodIn_of _ (by decide +kernel)) ggX8_areIn_X8_isTaken
theorem dX8_areIn_0 : decode cX8_areIn 0 = .ok (.aload_n 0, 1) := by decide +kernel
theorem dX8_areIn_1 : decode cX8_areIn 1 = .ok (.getfield 25, 3) := by decide +kernel
theorem dX8_areIn_4 : decode cX8_areIn 4 = .ok (.iconst 5, 1) := by decide +kernel
theorem dX8_areIn_5 : decode cX8_areIn 5 = .ok (.iaload, 1) := by decide +kernel
theorem dX8_areIn_6 : decode cX8_areIn 6 = .ok (.iload_n 3, 1) := by decide +kernel
theorem dX8_areIn_7 : decode cX8_areIn 7 = .ok (.iadd, 1) := by decide +kernel
theorem dX8_areIn_8 : decode cX8_areIn 8 = .ok (.istore 5, 2) := by decide +kernel
theorem dX8_areIn_10 : decode cX8_areIn 10 = .ok (.iconst 1, 1) := by decide +kernel
theorem dX8_areIn_11 : decode cX8_areIn 11 = .ok (.istore 6, 2) := by decide +kernel
theorem dX8_areIn_13 : decode cX8_areIn 13 = .ok (.iconst 0, 1) := by decide +kernel
theorem dX8_areIn_14 : decode cX8_areIn 14 = .ok (.istore 7, 2) := by decide +kernel
theorem dX8_areIn_16 : decode cX8_areIn 16 = .ok (.iload 7, 2) := by decide +kernel
theorem dX8_areIn_18 : decode cX8_areIn 18 = .ok (.aload_n 0, 1) := by decide +kernel
theorem dX8_areIn_19 : decode cX8_areIn 19 = .ok (.getfield 25, 3) := by decide +kernel
theorem dX8_areIn_22 : decode cX8_areIn 22 = .ok (.iconst 3, 1) := by decide +kernel
theorem dX8_areIn_23 : decode cX8_areIn 23 = .ok (.iaload, 1) := by decide +kernel
theorem dX8_areIn_24 : decode cX8_areIn 24 = .ok (.if_icmp .ge 53, 3) := by decide +kernel
theorem dX8_areIn_27 : decode cX8_areIn 27 = .ok (.iload 6, 2) := by decide +kernel
theorem dX8_areIn_29 : decode cX8_areIn 29 = .ok (.ifCond .eq 39, 3) := by decide +kernel
theorem dX8_areIn_32 : decode cX8_areIn 32 = .ok (.iload_n 1, 1) := by decide +kernel
theorem dX8_areIn_33 : decode cX8_areIn 33 = .ok (.iload 7, 2) := by decide +kernel
theorem dX8_areIn_35 : decode cX8_areIn 35 = .ok (.invokestatic 161, 3) := by decide +kernel
theorem dX8_areIn_38 : decode cX8_areIn 38 = .ok (.ifCond .eq 26, 3) := by decide +kernel
theorem dX8_areIn_41 : decode cX8_areIn 41 = .ok (.aload_n 0, 1) := by decide +kernel
theorem dX8_areIn_42 : decode cX8_areIn 42 = .ok (.iload 7, 2) := by decide +kernel
theorem dX8_areIn_44 : decode cX8_areIn 44 = .ok (.iload_n 2, 1) := by decide +kernel
theorem dX8_areIn_45 : decode cX8_areIn 45 = .ok (.iload 5, 2) := by decide +kernel
theorem dX8_areIn_47 : decode cX8_areIn 47 = .ok (.iload 4, 2) := by decide +kernel
theorem dX8_areIn_49 : decode cX8_areIn 49 = .ok (.aload_n 0, 1) := by decide +kernel
theorem dX8_areIn_50 : decode cX8_areIn 50 = .ok (.getfield 25, 3) := by decide +kernel
theorem dX8_areIn_53 : decode cX8_areIn 53 = .ok (.iload 5, 2) := by decide +kernel
theorem dX8_areIn_55 : decode cX8_areIn 55 = .ok (.invokestatic 172, 3) := by decide +kernel
theorem dX8_areIn_58 : decode cX8_areIn 58 = .ok (.invokevirtual 176, 3) := by decide +kernel
theorem dX8_areIn_61 : decode cX8_areIn 61 = .ok (.ifCond .ne 7, 3) := by decide +kernel
theorem dX8_areIn_64 : decode cX8_areIn 64 = .ok (.iconst 1, 1) := by decide +kernel
theorem dX8_areIn_65 : decode cX8_areIn 65 = .ok (.goto 4, 3) := by decide +kernel
theorem dX8_areIn_68 : decode cX8_areIn 68 = .ok (.iconst 0, 1) := by decide +kernel
theorem dX8_areIn_69 : decode cX8_areIn 69 = .ok (.istore 6, 2) := by decide +kernel
theorem dX8_areIn_71 : decode cX8_areIn 71 = .ok (.iinc 7 1, 3) := by decide +kernel
theorem dX8_areIn_74 : decode cX8_areIn 74 = .ok (.goto (-58), 3) := by decide +kernel
theorem dX8_areIn_77 : decode cX8_areIn 77 = .ok (.iload 6, 2) := by decide +kernel
theorem dX8_areIn_79 : decode cX8_areIn 79 = .ok (.ireturn, 1) := by decide +kernel
set_option maxRecDepth 20000 in
theorem ggX8_open_X8_isGate : GoodIn wsX8_open wsX8_isGate := goodIn_r _ [8, 3, 53, 54, 55, 56, 57, 58, 59, 60, 61, 62, 63, 64, 65, 66, 67, 68, 69, 70, 71, 72, 73, 74, 75] (by decide +kernel) (by decide +kernel)
set_option maxRecDepth 20000 in
theorem gX8_open_X8_isGate : GoodIn wsX8_open (wsV RX8 180 RX8 yX8_isGate wsX8_isGate) := goodIn_app (goodIn_of _ (by decide +kernel)) ggX8_open_X8_isGate
set_option maxRecDepth 20000 in
theorem ggX8_open_X8_areWords : GoodIn wsX8_open wsX8_areWords := goodIn_r _ [12, 3, 13, 14, 7, 15, 53, 54, 55, 56, 57, 58, 59, 60, 61, 62, 63, 64, 65, 66, 67, 68, 69, 70, 71, 72, 73, 74, 75] (by decide +kernel) (by decide +kernel)
set_option maxRecDepth 20000 in
theorem gX8_open_X8_areWords : GoodIn wsX8_open (wsV RX8 208 RX8 yX8_areWords wsX8_areWords) := goodIn_app (goodIn_of _ (by decide +kernel)) ggX8_open_X8_areWords
set_option maxRecDepth 20000 in
theorem ggX8_open_X8_isFar : GoodIn wsX8_open wsX8_isFar := goodIn_r _ [18, 13, 14, 7, 15] (by decide +kernel) (by decide +kernel)
set_option maxRecDepth 20000 in
theorem gX8_open_X8_isFar : GoodIn wsX8_open (va_wsS RX8 205 yX8_isFar wsX8_isFar) := goodIn_app (goodIn_of _ (by decide +kernel)) ggX8_open_X8_isFar
set_option maxRecDepth 20000 in
theorem ggX8_open_X8_areIn : GoodIn wsX8_open wsX8_areIn := goodIn_r _ [22, 3, 23, 24, 7, 25, 26, 27, 28, 29, 30, 31, 32, 33, 34, 35, 36, 37, 38, 39, 40, 41, 42, 43, 44, 45, 46, 47, 48, 49, 50, 51, 52, 53, 54, 55, 56, 57, 58, 59, 60, 61, 62, 63, 64, 65, 66, 67, 68, 69, 70, 71, 72, 73, 74, 75] (by decide +kernel) (by decide +kernel)
set_option maxRecDepth 20000 in
theorem gX8_open_X8_areIn : GoodIn wsX8_open (wsV RX8 211 RX8 yX8_areIn wsX8_areIn) := goodIn_app (goodIn_of _ (by decide +kernel)) ggX8_open_X8_areIn
theorem dX8_open_0 : decode cX8_open 0 = .ok (.aload_n 0, 1) := by decide +kernel
theorem dX8_open_1 : decode cX8_open 1 = .ok (.invokevirtual 180, 3) := by decide +kernel
theorem dX8_open_4 : decode cX8_open 4 = .ok (.ifCond .ne 6, 3) := by decide +kernel
theorem dX8_open_7 : decode cX8_open 7 = .ok (.ldc 183, 2) := by decide +kernel
theorem dX8_open_9 : decode cX8_open 9 = .ok (.ireturn, 1) := by decide +kernel
theorem dX8_open_10 : decode cX8_open 10 = .ok (.aload_n 0, 1) := by decide +kernel
theorem dX8_open_11 : decode cX8_open 11 = .ok (.iload_n 1, 1) := by decide +kernel
theorem dX8_open_12 : decode cX8_open 12 = .ok (.invokevirtual 208, 3) := by decide +kernel
theorem dX8_open_15 : decode cX8_open 15 = .ok (.ifCond .eq 10, 3) := by decide +kernel
theorem dX8_open_18 : decode cX8_open 18 = .ok (.iload_n 2, 1) := by decide +kernel
theorem dX8_open_19 : decode cX8_open 19 = .ok (.invokestatic 205, 3) := by decide +kernel
theorem dX8_open_22 : decode cX8_open 22 = .ok (.ifCond .ne 6, 3) := by decide +kernel
theorem dX8_open_25 : decode cX8_open 25 = .ok (.ldc 64, 2) := by decide +kernel
theorem dX8_open_27 : decode cX8_open 27 = .ok (.ireturn, 1) := by decide +kernel
theorem dX8_open_28 : decode cX8_open 28 = .ok (.iconst 0, 1) := by decide +kernel
theorem dX8_open_29 : decode cX8_open 29 = .ok (.istore_n 3, 1) := by decide +kernel
theorem dX8_open_30 : decode cX8_open 30 = .ok (.iconst 0, 1) := by decide +kernel
theorem dX8_open_31 : decode cX8_open 31 = .ok (.istore 4, 2) := by decide +kernel
theorem dX8_open_33 : decode cX8_open 33 = .ok (.iload 4, 2) := by decide +kernel
theorem dX8_open_35 : decode cX8_open 35 = .ok (.bipush 6, 2) := by decide +kernel
theorem dX8_open_37 : decode cX8_open 37 = .ok (.if_icmp .ge 38, 3) := by decide +kernel
theorem dX8_open_40 : decode cX8_open 40 = .ok (.iload_n 3, 1) := by decide +kernel
theorem dX8_open_41 : decode cX8_open 41 = .ok (.aload_n 0, 1) := by decide +kernel
theorem dX8_open_42 : decode cX8_open 42 = .ok (.iload_n 1, 1) := by decide +kernel
theorem dX8_open_43 : decode cX8_open 43 = .ok (.iload 4, 2) := by decide +kernel
theorem dX8_open_45 : decode cX8_open 45 = .ok (.iload_n 2, 1) := by decide +kernel
theorem dX8_open_46 : decode cX8_open 46 = .ok (.aload_n 0, 1) := by decide +kernel
theorem dX8_open_47 : decode cX8_open 47 = .ok (.getfield 25, 3) := by decide +kernel
theorem dX8_open_50 : decode cX8_open 50 = .ok (.bipush 6, 2) := by decide +kernel
theorem dX8_open_52 : decode cX8_open 52 = .ok (.iaload, 1) := by decide +kernel
theorem dX8_open_53 : decode cX8_open 53 = .ok (.invokevirtual 211, 3) := by decide +kernel
theorem dX8_open_56 : decode cX8_open 56 = .ok (.ifCond .eq 10, 3) := by decide +kernel
theorem dX8_open_59 : decode cX8_open 59 = .ok (.iconst 1, 1) := by decide +kernel
theorem dX8_open_60 : decode cX8_open 60 = .ok (.iload 4, 2) := by decide +kernel
theorem dX8_open_62 : decode cX8_open 62 = .ok (.ishl, 1) := by decide +kernel
theorem dX8_open_63 : decode cX8_open 63 = .ok (.goto 4, 3) := by decide +kernel
theorem dX8_open_66 : decode cX8_open 66 = .ok (.iconst 0, 1) := by decide +kernel
theorem dX8_open_67 : decode cX8_open 67 = .ok (.ior, 1) := by decide +kernel
theorem dX8_open_68 : decode cX8_open 68 = .ok (.istore_n 3, 1) := by decide +kernel
theorem dX8_open_69 : decode cX8_open 69 = .ok (.iinc 4 1, 3) := by decide +kernel
theorem dX8_open_72 : decode cX8_open 72 = .ok (.goto (-39), 3) := by decide +kernel
theorem dX8_open_75 : decode cX8_open 75 = .ok (.iload_n 3, 1) := by decide +kernel
theorem dX8_open_76 : decode cX8_open 76 = .ok (.ireturn, 1) := by decide +kernel
set_option maxRecDepth 20000 in
theorem ggX8_next_X8_isWord : GoodIn wsX8_next wsX8_isWord := goodIn_r _ [8, 2, 9, 10, 7, 11, 15, 16, 17, 18, 19, 20, 21, 22, 23, 24, 25, 26, 27, 28, 29, 30, 31, 32, 33, 34, 35, 36, 37] (by decide +kernel) (by decide +kernel)
set_option maxRecDepth 20000 in
theorem gX8_next_X8_isWord : GoodIn wsX8_next (wsV RX8 190 RX8 yX8_isWord wsX8_isWord) := goodIn_app (goodIn_of _ (by decide +kernel)) ggX8_next_X8_isWord
set_option maxRecDepth 20000 in
theorem ggX8_next_X8_secretOf : GoodIn wsX8_next wsX8_secretOf := goodIn_r _ [14] (by decide +kernel) (by decide +kernel)
set_option maxRecDepth 20000 in
theorem gX8_next_X8_secretOf : GoodIn wsX8_next (va_wsS RX8 172 yX8_secretOf wsX8_secretOf) := goodIn_app (goodIn_of _ (by decide +kernel)) ggX8_next_X8_secretOf
theorem dX8_next_0 : decode cX8_next 0 = .ok (.aload_n 0, 1) := by decide +kernel
theorem dX8_next_1 : decode cX8_next 1 = .ok (.iload_n 1, 1) := by decide +kernel
theorem dX8_next_2 : decode cX8_next 2 = .ok (.invokevirtual 190, 3) := by decide +kernel
theorem dX8_next_5 : decode cX8_next 5 = .ok (.ifCond .ne 6, 3) := by decide +kernel
theorem dX8_next_8 : decode cX8_next 8 = .ok (.ldc 64, 2) := by decide +kernel
theorem dX8_next_10 : decode cX8_next 10 = .ok (.ireturn, 1) := by decide +kernel
theorem dX8_next_11 : decode cX8_next 11 = .ok (.iconst 0, 1) := by decide +kernel
theorem dX8_next_12 : decode cX8_next 12 = .ok (.istore_n 2, 1) := by decide +kernel
theorem dX8_next_13 : decode cX8_next 13 = .ok (.iload_n 2, 1) := by decide +kernel
theorem dX8_next_14 : decode cX8_next 14 = .ok (.bipush 61, 2) := by decide +kernel
theorem dX8_next_16 : decode cX8_next 16 = .ok (.if_icmp .ge 30, 3) := by decide +kernel
theorem dX8_next_19 : decode cX8_next 19 = .ok (.aload_n 0, 1) := by decide +kernel
theorem dX8_next_20 : decode cX8_next 20 = .ok (.getfield 25, 3) := by decide +kernel
theorem dX8_next_23 : decode cX8_next 23 = .ok (.aload_n 0, 1) := by decide +kernel
theorem dX8_next_24 : decode cX8_next 24 = .ok (.getfield 25, 3) := by decide +kernel
theorem dX8_next_27 : decode cX8_next 27 = .ok (.iconst 5, 1) := by decide +kernel
theorem dX8_next_28 : decode cX8_next 28 = .ok (.iaload, 1) := by decide +kernel
theorem dX8_next_29 : decode cX8_next 29 = .ok (.iload_n 2, 1) := by decide +kernel
theorem dX8_next_30 : decode cX8_next 30 = .ok (.iadd, 1) := by decide +kernel
theorem dX8_next_31 : decode cX8_next 31 = .ok (.invokestatic 172, 3) := by decide +kernel
theorem dX8_next_34 : decode cX8_next 34 = .ok (.iload_n 1, 1) := by decide +kernel
theorem dX8_next_35 : decode cX8_next 35 = .ok (.if_icmp .ne 5, 3) := by decide +kernel
theorem dX8_next_38 : decode cX8_next 38 = .ok (.iload_n 2, 1) := by decide +kernel
theorem dX8_next_39 : decode cX8_next 39 = .ok (.ireturn, 1) := by decide +kernel
theorem dX8_next_40 : decode cX8_next 40 = .ok (.iinc 2 1, 3) := by decide +kernel
theorem dX8_next_43 : decode cX8_next 43 = .ok (.goto (-30), 3) := by decide +kernel
theorem dX8_next_46 : decode cX8_next 46 = .ok (.ldc 50, 2) := by decide +kernel
theorem dX8_next_48 : decode cX8_next 48 = .ok (.ireturn, 1) := by decide +kernel
set_option maxRecDepth 20000 in
theorem ggX8_agreeing_X8_kindIn : GoodIn wsX8_agreeing wsX8_kindIn := goodIn_r _ [6, 1, 19, 20, 21, 22, 23, 24, 25, 26, 27, 28, 29, 30, 31, 32, 33, 34, 35, 36, 37, 38, 39, 40, 41] (by decide +kernel) (by decide +kernel)
set_option maxRecDepth 20000 in
theorem gX8_agreeing_X8_kindIn : GoodIn wsX8_agreeing (wsV RX8 165 RX8 yX8_kindIn wsX8_kindIn) := goodIn_app (goodIn_of _ (by decide +kernel)) ggX8_agreeing_X8_kindIn
set_option maxRecDepth 20000 in
theorem ggX8_agreeing_X8_takesBy : GoodIn wsX8_agreeing wsX8_takesBy := goodIn_r _ [10, 11, 12, 13, 5, 14, 1, 15, 16, 17, 18, 19, 20, 21, 22, 23, 24, 25, 26, 27, 28, 29, 30, 31, 32, 33, 34, 35, 36, 37, 38, 39, 40, 41] (by decide +kernel) (by decide +kernel)
set_option maxRecDepth 20000 in
theorem gX8_agreeing_X8_takesBy : GoodIn wsX8_agreeing (wsV RX8 168 RX8 yX8_takesBy wsX8_takesBy) := goodIn_app (goodIn_of _ (by decide +kernel)) ggX8_agreeing_X8_takesBy
theorem dX8_agreeing_0 : decode cX8_agreeing 0 = .ok (.iconst 0, 1) := by decide +kernel
theorem dX8_agreeing_1 : decode cX8_agreeing 1 = .ok (.istore_n 1, 1) := by decide +kernel
theorem dX8_agreeing_2 : decode cX8_agreeing 2 = .ok (.iconst 0, 1) := by decide +kernel
theorem dX8_agreeing_3 : decode cX8_agreeing 3 = .ok (.istore_n 2, 1) := by decide +kernel
theorem dX8_agreeing_4 : decode cX8_agreeing 4 = .ok (.iload_n 2, 1) := by decide +kernel
theorem dX8_agreeing_5 : decode cX8_agreeing 5 = .ok (.aload_n 0, 1) := by decide +kernel
theorem dX8_agreeing_6 : decode cX8_agreeing 6 = .ok (.getfield 25, 3) := by decide +kernel
theorem dX8_agreeing_9 : decode cX8_agreeing 9 = .ok (.iconst 3, 1) := by decide +kernel
theorem dX8_agreeing_10 : decode cX8_agreeing 10 = .ok (.iaload, 1) := by decide +kernel
theorem dX8_agreeing_11 : decode cX8_agreeing 11 = .ok (.if_icmp .ge 134, 3) := by decide +kernel
theorem dX8_agreeing_14 : decode cX8_agreeing 14 = .ok (.iconst 1, 1) := by decide +kernel
theorem dX8_agreeing_15 : decode cX8_agreeing 15 = .ok (.istore_n 3, 1) := by decide +kernel
theorem dX8_agreeing_16 : decode cX8_agreeing 16 = .ok (.iconst 0, 1) := by decide +kernel
theorem dX8_agreeing_17 : decode cX8_agreeing 17 = .ok (.istore 4, 2) := by decide +kernel
theorem dX8_agreeing_19 : decode cX8_agreeing 19 = .ok (.iload 4, 2) := by decide +kernel
theorem dX8_agreeing_21 : decode cX8_agreeing 21 = .ok (.aload_n 0, 1) := by decide +kernel
theorem dX8_agreeing_22 : decode cX8_agreeing 22 = .ok (.getfield 25, 3) := by decide +kernel
theorem dX8_agreeing_25 : decode cX8_agreeing 25 = .ok (.bipush 7, 2) := by decide +kernel
theorem dX8_agreeing_27 : decode cX8_agreeing 27 = .ok (.iaload, 1) := by decide +kernel
theorem dX8_agreeing_28 : decode cX8_agreeing 28 = .ok (.if_icmp .ge 97, 3) := by decide +kernel
theorem dX8_agreeing_31 : decode cX8_agreeing 31 = .ok (.aload_n 0, 1) := by decide +kernel
theorem dX8_agreeing_32 : decode cX8_agreeing 32 = .ok (.getfield 25, 3) := by decide +kernel
theorem dX8_agreeing_35 : decode cX8_agreeing 35 = .ok (.bipush 38, 2) := by decide +kernel
theorem dX8_agreeing_37 : decode cX8_agreeing 37 = .ok (.iconst 3, 1) := by decide +kernel
theorem dX8_agreeing_38 : decode cX8_agreeing 38 = .ok (.iload 4, 2) := by decide +kernel
theorem dX8_agreeing_40 : decode cX8_agreeing 40 = .ok (.imul, 1) := by decide +kernel
theorem dX8_agreeing_41 : decode cX8_agreeing 41 = .ok (.iadd, 1) := by decide +kernel
theorem dX8_agreeing_42 : decode cX8_agreeing 42 = .ok (.iconst 1, 1) := by decide +kernel
theorem dX8_agreeing_43 : decode cX8_agreeing 43 = .ok (.iadd, 1) := by decide +kernel
theorem dX8_agreeing_44 : decode cX8_agreeing 44 = .ok (.iaload, 1) := by decide +kernel
theorem dX8_agreeing_45 : decode cX8_agreeing 45 = .ok (.iconst 1, 1) := by decide +kernel
theorem dX8_agreeing_46 : decode cX8_agreeing 46 = .ok (.isub, 1) := by decide +kernel
theorem dX8_agreeing_47 : decode cX8_agreeing 47 = .ok (.istore 5, 2) := by decide +kernel
theorem dX8_agreeing_49 : decode cX8_agreeing 49 = .ok (.iload_n 3, 1) := by decide +kernel
theorem dX8_agreeing_50 : decode cX8_agreeing 50 = .ok (.ifCond .eq 67, 3) := by decide +kernel
theorem dX8_agreeing_53 : decode cX8_agreeing 53 = .ok (.iload 5, 2) := by decide +kernel
theorem dX8_agreeing_55 : decode cX8_agreeing 55 = .ok (.ifCond .lt 58, 3) := by decide +kernel
theorem dX8_agreeing_58 : decode cX8_agreeing 58 = .ok (.aload_n 0, 1) := by decide +kernel
theorem dX8_agreeing_59 : decode cX8_agreeing 59 = .ok (.aload_n 0, 1) := by decide +kernel
theorem dX8_agreeing_60 : decode cX8_agreeing 60 = .ok (.iload 5, 2) := by decide +kernel
theorem dX8_agreeing_62 : decode cX8_agreeing 62 = .ok (.invokevirtual 165, 3) := by decide +kernel
theorem dX8_agreeing_65 : decode cX8_agreeing 65 = .ok (.aload_n 0, 1) := by decide +kernel
theorem dX8_agreeing_66 : decode cX8_agreeing 66 = .ok (.getfield 25, 3) := by decide +kernel
theorem dX8_agreeing_69 : decode cX8_agreeing 69 = .ok (.bipush 38, 2) := by decide +kernel
theorem dX8_agreeing_71 : decode cX8_agreeing 71 = .ok (.iconst 3, 1) := by decide +kernel
theorem dX8_agreeing_72 : decode cX8_agreeing 72 = .ok (.iload 4, 2) := by decide +kernel
theorem dX8_agreeing_74 : decode cX8_agreeing 74 = .ok (.imul, 1) := by decide +kernel
theorem dX8_agreeing_75 : decode cX8_agreeing 75 = .ok (.iadd, 1) := by decide +kernel
theorem dX8_agreeing_76 : decode cX8_agreeing 76 = .ok (.iaload, 1) := by decide +kernel
theorem dX8_agreeing_77 : decode cX8_agreeing 77 = .ok (.iload_n 2, 1) := by decide +kernel
theorem dX8_agreeing_78 : decode cX8_agreeing 78 = .ok (.aload_n 0, 1) := by decide +kernel
theorem dX8_agreeing_79 : decode cX8_agreeing 79 = .ok (.getfield 25, 3) := by decide +kernel
theorem dX8_agreeing_82 : decode cX8_agreeing 82 = .ok (.iconst 5, 1) := by decide +kernel
theorem dX8_agreeing_83 : decode cX8_agreeing 83 = .ok (.iaload, 1) := by decide +kernel
theorem dX8_agreeing_84 : decode cX8_agreeing 84 = .ok (.invokevirtual 168, 3) := by decide +kernel
theorem dX8_agreeing_87 : decode cX8_agreeing 87 = .ok (.aload_n 0, 1) := by decide +kernel
theorem dX8_agreeing_88 : decode cX8_agreeing 88 = .ok (.getfield 25, 3) := by decide +kernel
theorem dX8_agreeing_91 : decode cX8_agreeing 91 = .ok (.bipush 38, 2) := by decide +kernel
theorem dX8_agreeing_93 : decode cX8_agreeing 93 = .ok (.iconst 3, 1) := by decide +kernel
theorem dX8_agreeing_94 : decode cX8_agreeing 94 = .ok (.iload 4, 2) := by decide +kernel
theorem dX8_agreeing_96 : decode cX8_agreeing 96 = .ok (.imul, 1) := by decide +kernel
theorem dX8_agreeing_97 : decode cX8_agreeing 97 = .ok (.iadd, 1) := by decide +kernel
theorem dX8_agreeing_98 : decode cX8_agreeing 98 = .ok (.iconst 2, 1) := by decide +kernel
theorem dX8_agreeing_99 : decode cX8_agreeing 99 = .ok (.iadd, 1) := by decide +kernel
theorem dX8_agreeing_100 : decode cX8_agreeing 100 = .ok (.iaload, 1) := by decide +kernel
theorem dX8_agreeing_101 : decode cX8_agreeing 101 = .ok (.iconst 1, 1) := by decide +kernel
theorem dX8_agreeing_102 : decode cX8_agreeing 102 = .ok (.if_icmp .ne 7, 3) := by decide +kernel
theorem dX8_agreeing_105 : decode cX8_agreeing 105 = .ok (.iconst 1, 1) := by decide +kernel
theorem dX8_agreeing_106 : decode cX8_agreeing 106 = .ok (.goto 4, 3) := by decide +kernel
theorem dX8_agreeing_109 : decode cX8_agreeing 109 = .ok (.iconst 0, 1) := by decide +kernel
theorem dX8_agreeing_110 : decode cX8_agreeing 110 = .ok (.if_icmp .ne 7, 3) := by decide +kernel
theorem dX8_agreeing_113 : decode cX8_agreeing 113 = .ok (.iconst 1, 1) := by decide +kernel
theorem dX8_agreeing_114 : decode cX8_agreeing 114 = .ok (.goto 4, 3) := by decide +kernel
theorem dX8_agreeing_117 : decode cX8_agreeing 117 = .ok (.iconst 0, 1) := by decide +kernel
theorem dX8_agreeing_118 : decode cX8_agreeing 118 = .ok (.istore_n 3, 1) := by decide +kernel
theorem dX8_agreeing_119 : decode cX8_agreeing 119 = .ok (.iinc 4 1, 3) := by decide +kernel
theorem dX8_agreeing_122 : decode cX8_agreeing 122 = .ok (.goto (-103), 3) := by decide +kernel
theorem dX8_agreeing_125 : decode cX8_agreeing 125 = .ok (.iload_n 1, 1) := by decide +kernel
theorem dX8_agreeing_126 : decode cX8_agreeing 126 = .ok (.iload_n 3, 1) := by decide +kernel
theorem dX8_agreeing_127 : decode cX8_agreeing 127 = .ok (.ifCond .eq 9, 3) := by decide +kernel
theorem dX8_agreeing_130 : decode cX8_agreeing 130 = .ok (.iconst 1, 1) := by decide +kernel
theorem dX8_agreeing_131 : decode cX8_agreeing 131 = .ok (.iload_n 2, 1) := by decide +kernel
theorem dX8_agreeing_132 : decode cX8_agreeing 132 = .ok (.ishl, 1) := by decide +kernel
theorem dX8_agreeing_133 : decode cX8_agreeing 133 = .ok (.goto 4, 3) := by decide +kernel
theorem dX8_agreeing_136 : decode cX8_agreeing 136 = .ok (.iconst 0, 1) := by decide +kernel
theorem dX8_agreeing_137 : decode cX8_agreeing 137 = .ok (.ior, 1) := by decide +kernel
theorem dX8_agreeing_138 : decode cX8_agreeing 138 = .ok (.istore_n 1, 1) := by decide +kernel
theorem dX8_agreeing_139 : decode cX8_agreeing 139 = .ok (.iinc 2 1, 3) := by decide +kernel
theorem dX8_agreeing_142 : decode cX8_agreeing 142 = .ok (.goto (-138), 3) := by decide +kernel
theorem dX8_agreeing_145 : decode cX8_agreeing 145 = .ok (.iload_n 1, 1) := by decide +kernel
theorem dX8_agreeing_146 : decode cX8_agreeing 146 = .ok (.ireturn, 1) := by decide +kernel
set_option maxRecDepth 20000 in
theorem ggX8_agree_X8_isGate : GoodIn wsX8_agree wsX8_isGate := goodIn_r _ [6, 7, 28, 29, 30, 31, 32, 33, 34, 35, 36, 37, 38, 39, 40, 41, 42, 43, 44, 45, 46, 47, 48, 49, 50] (by decide +kernel) (by decide +kernel)
set_option maxRecDepth 20000 in
theorem gX8_agree_X8_isGate : GoodIn wsX8_agree (wsV RX8 180 RX8 yX8_isGate wsX8_isGate) := goodIn_app (goodIn_of _ (by decide +kernel)) ggX8_agree_X8_isGate
set_option maxRecDepth 20000 in
theorem ggX8_agree_X8_agreeing : GoodIn wsX8_agree wsX8_agreeing := goodIn_r _ [11, 7, 12, 13, 14, 5, 15, 16, 17, 18, 19, 20, 21, 22, 23, 24, 25, 26, 27, 28, 29, 30, 31, 32, 33, 34, 35, 36, 37, 38, 39, 40, 41, 42, 43, 44, 45, 46, 47, 48, 49, 50] (by decide +kernel) (by decide +kernel)
set_option maxRecDepth 20000 in
theorem gX8_agree_X8_agreeing : GoodIn wsX8_agree (wsV RX8 214 RX8 yX8_agreeing wsX8_agreeing) := goodIn_app (goodIn_of _ (by decide +kernel)) ggX8_agree_X8_agreeing
theorem dX8_agree_0 : decode cX8_agree 0 = .ok (.aload_n 0, 1) := by decide +kernel
theorem dX8_agree_1 : decode cX8_agree 1 = .ok (.invokevirtual 180, 3) := by decide +kernel
theorem dX8_agree_4 : decode cX8_agree 4 = .ok (.ifCond .eq 10, 3) := by decide +kernel
theorem dX8_agree_7 : decode cX8_agree 7 = .ok (.aload_n 0, 1) := by decide +kernel
theorem dX8_agree_8 : decode cX8_agree 8 = .ok (.invokevirtual 214, 3) := by decide +kernel
theorem dX8_agree_11 : decode cX8_agree 11 = .ok (.goto 5, 3) := by decide +kernel
theorem dX8_agree_14 : decode cX8_agree 14 = .ok (.ldc 183, 2) := by decide +kernel
theorem dX8_agree_16 : decode cX8_agree 16 = .ok (.ireturn, 1) := by decide +kernel
set_option maxRecDepth 20000 in
theorem ggX8_takenOf_X8_has : GoodIn wsX8_takenOf wsX8_has := goodIn_r _ [5] (by decide +kernel) (by decide +kernel)
set_option maxRecDepth 20000 in
theorem gX8_takenOf_X8_has : GoodIn wsX8_takenOf (va_wsS RX8 161 yX8_has wsX8_has) := goodIn_app (goodIn_of _ (by decide +kernel)) ggX8_takenOf_X8_has
set_option maxRecDepth 20000 in
theorem ggX8_takenOf_X8_isTaken : GoodIn wsX8_takenOf wsX8_isTaken := goodIn_r _ [9, 10, 11, 12, 4, 13, 1, 2, 3, 5, 14, 15, 16, 17, 18, 19, 20, 21, 22, 23, 24, 25, 26, 27, 28, 29, 30, 31, 32, 33, 34, 35, 36, 37, 38, 39, 40, 41, 42, 43, 44, 45, 46, 47, 48, 49, 50, 51, 52] (by decide +kernel) (by decide +kernel)
set_option maxRecDepth 20000 in
theorem gX8_takenOf_X8_isTaken : GoodIn wsX8_takenOf (wsV RX8 176 RX8 yX8_isTaken wsX8_isTaken) := goodIn_app (goodIn_of _ (by decide +kernel)) ggX8_takenOf_X8_isTaken
theorem dX8_takenOf_0 : decode cX8_takenOf 0 = .ok (.iconst 0, 1) := by decide +kernel
theorem dX8_takenOf_1 : decode cX8_takenOf 1 = .ok (.istore 4, 2) := by decide +kernel
theorem dX8_takenOf_3 : decode cX8_takenOf 3 = .ok (.iconst 0, 1) := by decide +kernel
theorem dX8_takenOf_4 : decode cX8_takenOf 4 = .ok (.istore 5, 2) := by decide +kernel
theorem dX8_takenOf_6 : decode cX8_takenOf 6 = .ok (.iload 5, 2) := by decide +kernel
theorem dX8_takenOf_8 : decode cX8_takenOf 8 = .ok (.aload_n 0, 1) := by decide +kernel
theorem dX8_takenOf_9 : decode cX8_takenOf 9 = .ok (.getfield 25, 3) := by decide +kernel
theorem dX8_takenOf_12 : decode cX8_takenOf 12 = .ok (.iconst 3, 1) := by decide +kernel
theorem dX8_takenOf_13 : decode cX8_takenOf 13 = .ok (.iaload, 1) := by decide +kernel
theorem dX8_takenOf_14 : decode cX8_takenOf 14 = .ok (.if_icmp .ge 55, 3) := by decide +kernel
theorem dX8_takenOf_17 : decode cX8_takenOf 17 = .ok (.iload 4, 2) := by decide +kernel
theorem dX8_takenOf_19 : decode cX8_takenOf 19 = .ok (.iload_n 1, 1) := by decide +kernel
theorem dX8_takenOf_20 : decode cX8_takenOf 20 = .ok (.iload 5, 2) := by decide +kernel
theorem dX8_takenOf_22 : decode cX8_takenOf 22 = .ok (.invokestatic 161, 3) := by decide +kernel
theorem dX8_takenOf_25 : decode cX8_takenOf 25 = .ok (.ifCond .eq 34, 3) := by decide +kernel
theorem dX8_takenOf_28 : decode cX8_takenOf 28 = .ok (.aload_n 0, 1) := by decide +kernel
theorem dX8_takenOf_29 : decode cX8_takenOf 29 = .ok (.iload_n 2, 1) := by decide +kernel
theorem dX8_takenOf_30 : decode cX8_takenOf 30 = .ok (.iload_n 3, 1) := by decide +kernel
theorem dX8_takenOf_31 : decode cX8_takenOf 31 = .ok (.aload_n 0, 1) := by decide +kernel
theorem dX8_takenOf_32 : decode cX8_takenOf 32 = .ok (.getfield 25, 3) := by decide +kernel
theorem dX8_takenOf_35 : decode cX8_takenOf 35 = .ok (.iconst 5, 1) := by decide +kernel
theorem dX8_takenOf_36 : decode cX8_takenOf 36 = .ok (.iaload, 1) := by decide +kernel
theorem dX8_takenOf_37 : decode cX8_takenOf 37 = .ok (.aload_n 0, 1) := by decide +kernel
theorem dX8_takenOf_38 : decode cX8_takenOf 38 = .ok (.getfield 25, 3) := by decide +kernel
theorem dX8_takenOf_41 : decode cX8_takenOf 41 = .ok (.bipush 6, 2) := by decide +kernel
theorem dX8_takenOf_43 : decode cX8_takenOf 43 = .ok (.iaload, 1) := by decide +kernel
theorem dX8_takenOf_44 : decode cX8_takenOf 44 = .ok (.iload 5, 2) := by decide +kernel
theorem dX8_takenOf_46 : decode cX8_takenOf 46 = .ok (.invokevirtual 176, 3) := by decide +kernel
theorem dX8_takenOf_49 : decode cX8_takenOf 49 = .ok (.ifCond .eq 10, 3) := by decide +kernel
theorem dX8_takenOf_52 : decode cX8_takenOf 52 = .ok (.iconst 1, 1) := by decide +kernel
theorem dX8_takenOf_53 : decode cX8_takenOf 53 = .ok (.iload 5, 2) := by decide +kernel
theorem dX8_takenOf_55 : decode cX8_takenOf 55 = .ok (.ishl, 1) := by decide +kernel
theorem dX8_takenOf_56 : decode cX8_takenOf 56 = .ok (.goto 4, 3) := by decide +kernel
theorem dX8_takenOf_59 : decode cX8_takenOf 59 = .ok (.iconst 0, 1) := by decide +kernel
theorem dX8_takenOf_60 : decode cX8_takenOf 60 = .ok (.ior, 1) := by decide +kernel
theorem dX8_takenOf_61 : decode cX8_takenOf 61 = .ok (.istore 4, 2) := by decide +kernel
theorem dX8_takenOf_63 : decode cX8_takenOf 63 = .ok (.iinc 5 1, 3) := by decide +kernel
theorem dX8_takenOf_66 : decode cX8_takenOf 66 = .ok (.goto (-60), 3) := by decide +kernel
theorem dX8_takenOf_69 : decode cX8_takenOf 69 = .ok (.iload 4, 2) := by decide +kernel
theorem dX8_takenOf_71 : decode cX8_takenOf 71 = .ok (.ireturn, 1) := by decide +kernel
set_option maxRecDepth 20000 in
theorem ggX8_man_X8_isGate : GoodIn wsX8_man wsX8_isGate := goodIn_r _ [8, 3, 50, 51, 52, 53, 54, 55, 56, 57, 58, 59, 60, 61, 62, 63, 64, 65, 66, 67, 68, 69, 70, 71, 72] (by decide +kernel) (by decide +kernel)
set_option maxRecDepth 20000 in
theorem gX8_man_X8_isGate : GoodIn wsX8_man (wsV RX8 180 RX8 yX8_isGate wsX8_isGate) := goodIn_app (goodIn_of _ (by decide +kernel)) ggX8_man_X8_isGate
set_option maxRecDepth 20000 in
theorem ggX8_man_X8_in : GoodIn wsX8_man wsX8_in := goodIn_r _ [11] (by decide +kernel) (by decide +kernel)
set_option maxRecDepth 20000 in
theorem gX8_man_X8_in : GoodIn wsX8_man (va_wsS RX8 56 yX8_in wsX8_in) := goodIn_app (goodIn_of _ (by decide +kernel)) ggX8_man_X8_in
set_option maxRecDepth 20000 in
theorem ggX8_man_X8_agreeing : GoodIn wsX8_man wsX8_agreeing := goodIn_r _ [15, 3, 16, 17, 18, 7, 19, 20, 21, 22, 23, 24, 25, 26, 27, 28, 29, 30, 31, 50, 51, 52, 53, 54, 55, 56, 57, 58, 59, 60, 61, 62, 63, 64, 65, 66, 67, 68, 69, 70, 71, 72] (by decide +kernel) (by decide +kernel)
set_option maxRecDepth 20000 in
theorem gX8_man_X8_agreeing : GoodIn wsX8_man (wsV RX8 214 RX8 yX8_agreeing wsX8_agreeing) := goodIn_app (goodIn_of _ (by decide +kernel)) ggX8_man_X8_agreeing
set_option maxRecDepth 20000 in
theorem ggX8_man_X8_ones : GoodIn wsX8_man wsX8_ones := goodIn_r _ [34] (by decide +kernel) (by decide +kernel)
set_option maxRecDepth 20000 in
theorem gX8_man_X8_ones : GoodIn wsX8_man (va_wsS RX8 217 yX8_ones wsX8_ones) := goodIn_app (goodIn_of _ (by decide +kernel)) ggX8_man_X8_ones
set_option maxRecDepth 20000 in
theorem ggX8_man_X8_takenOf : GoodIn wsX8_man wsX8_takenOf := goodIn_r _ [38, 3, 39, 40, 7, 41, 42, 43, 44, 45, 46, 47, 48, 49, 16, 17, 18, 19, 20, 21, 22, 23, 24, 25, 26, 27, 28, 29, 30, 31, 50, 51, 52, 53, 54, 55, 56, 57, 58, 59, 60, 61, 62, 63, 64, 65, 66, 67, 68, 69, 70, 71, 72] (by decide +kernel) (by decide +kernel)
set_option maxRecDepth 20000 in
theorem gX8_man_X8_takenOf : GoodIn wsX8_man (wsV RX8 220 RX8 yX8_takenOf wsX8_takenOf) := goodIn_app (goodIn_of _ (by decide +kernel)) ggX8_man_X8_takenOf
theorem dX8_man_0 : decode cX8_man 0 = .ok (.aload_n 0, 1) := by decide +kernel
theorem dX8_man_1 : decode cX8_man 1 = .ok (.invokevirtual 180, 3) := by decide +kernel
theorem dX8_man_4 : decode cX8_man 4 = .ok (.ifCond .ne 6, 3) := by decide +kernel
theorem dX8_man_7 : decode cX8_man 7 = .ok (.ldc 183, 2) := by decide +kernel
theorem dX8_man_9 : decode cX8_man 9 = .ok (.ireturn, 1) := by decide +kernel
theorem dX8_man_10 : decode cX8_man 10 = .ok (.iload_n 1, 1) := by decide +kernel
theorem dX8_man_11 : decode cX8_man 11 = .ok (.iconst 0, 1) := by decide +kernel
theorem dX8_man_12 : decode cX8_man 12 = .ok (.iconst 2, 1) := by decide +kernel
theorem dX8_man_13 : decode cX8_man 13 = .ok (.invokestatic 56, 3) := by decide +kernel
theorem dX8_man_16 : decode cX8_man 16 = .ok (.ifCond .ne 6, 3) := by decide +kernel
theorem dX8_man_19 : decode cX8_man 19 = .ok (.ldc 64, 2) := by decide +kernel
theorem dX8_man_21 : decode cX8_man 21 = .ok (.ireturn, 1) := by decide +kernel
theorem dX8_man_22 : decode cX8_man 22 = .ok (.aload_n 0, 1) := by decide +kernel
theorem dX8_man_23 : decode cX8_man 23 = .ok (.invokevirtual 214, 3) := by decide +kernel
theorem dX8_man_26 : decode cX8_man 26 = .ok (.istore_n 2, 1) := by decide +kernel
theorem dX8_man_27 : decode cX8_man 27 = .ok (.iload_n 2, 1) := by decide +kernel
theorem dX8_man_28 : decode cX8_man 28 = .ok (.invokestatic 217, 3) := by decide +kernel
theorem dX8_man_31 : decode cX8_man 31 = .ok (.istore_n 3, 1) := by decide +kernel
theorem dX8_man_32 : decode cX8_man 32 = .ok (.iconst 0, 1) := by decide +kernel
theorem dX8_man_33 : decode cX8_man 33 = .ok (.istore 4, 2) := by decide +kernel
theorem dX8_man_35 : decode cX8_man 35 = .ok (.iconst 0, 1) := by decide +kernel
theorem dX8_man_36 : decode cX8_man 36 = .ok (.istore 5, 2) := by decide +kernel
theorem dX8_man_38 : decode cX8_man 38 = .ok (.bipush 9, 2) := by decide +kernel
theorem dX8_man_40 : decode cX8_man 40 = .ok (.istore 6, 2) := by decide +kernel
theorem dX8_man_42 : decode cX8_man 42 = .ok (.iconst 0, 1) := by decide +kernel
theorem dX8_man_43 : decode cX8_man 43 = .ok (.istore 7, 2) := by decide +kernel
theorem dX8_man_45 : decode cX8_man 45 = .ok (.iload 7, 2) := by decide +kernel
theorem dX8_man_47 : decode cX8_man 47 = .ok (.aload_n 0, 1) := by decide +kernel
theorem dX8_man_48 : decode cX8_man 48 = .ok (.getfield 25, 3) := by decide +kernel
theorem dX8_man_51 : decode cX8_man 51 = .ok (.iconst 3, 1) := by decide +kernel
theorem dX8_man_52 : decode cX8_man 52 = .ok (.iaload, 1) := by decide +kernel
theorem dX8_man_53 : decode cX8_man 53 = .ok (.if_icmp .ge 107, 3) := by decide +kernel
theorem dX8_man_56 : decode cX8_man 56 = .ok (.iconst 0, 1) := by decide +kernel
theorem dX8_man_57 : decode cX8_man 57 = .ok (.istore 8, 2) := by decide +kernel
theorem dX8_man_59 : decode cX8_man 59 = .ok (.iload 8, 2) := by decide +kernel
theorem dX8_man_61 : decode cX8_man 61 = .ok (.bipush 6, 2) := by decide +kernel
theorem dX8_man_63 : decode cX8_man 63 = .ok (.if_icmp .ge 91, 3) := by decide +kernel
theorem dX8_man_66 : decode cX8_man 66 = .ok (.aload_n 0, 1) := by decide +kernel
theorem dX8_man_67 : decode cX8_man 67 = .ok (.iload_n 2, 1) := by decide +kernel
theorem dX8_man_68 : decode cX8_man 68 = .ok (.iload 7, 2) := by decide +kernel
theorem dX8_man_70 : decode cX8_man 70 = .ok (.iload 8, 2) := by decide +kernel
theorem dX8_man_72 : decode cX8_man 72 = .ok (.invokevirtual 220, 3) := by decide +kernel
theorem dX8_man_75 : decode cX8_man 75 = .ok (.invokestatic 217, 3) := by decide +kernel
theorem dX8_man_78 : decode cX8_man 78 = .ok (.istore 9, 2) := by decide +kernel
theorem dX8_man_80 : decode cX8_man 80 = .ok (.iload 9, 2) := by decide +kernel
theorem dX8_man_82 : decode cX8_man 82 = .ok (.iload_n 3, 1) := by decide +kernel
theorem dX8_man_83 : decode cX8_man 83 = .ok (.iload 9, 2) := by decide +kernel
theorem dX8_man_85 : decode cX8_man 85 = .ok (.isub, 1) := by decide +kernel
theorem dX8_man_86 : decode cX8_man 86 = .ok (.if_icmp .le 8, 3) := by decide +kernel
theorem dX8_man_89 : decode cX8_man 89 = .ok (.iload 9, 2) := by decide +kernel
theorem dX8_man_91 : decode cX8_man 91 = .ok (.goto 7, 3) := by decide +kernel
theorem dX8_man_94 : decode cX8_man 94 = .ok (.iload_n 3, 1) := by decide +kernel
theorem dX8_man_95 : decode cX8_man 95 = .ok (.iload 9, 2) := by decide +kernel
theorem dX8_man_97 : decode cX8_man 97 = .ok (.isub, 1) := by decide +kernel
theorem dX8_man_98 : decode cX8_man 98 = .ok (.istore 10, 2) := by decide +kernel
theorem dX8_man_100 : decode cX8_man 100 = .ok (.iload 10, 2) := by decide +kernel
theorem dX8_man_102 : decode cX8_man 102 = .ok (.iload 6, 2) := by decide +kernel
theorem dX8_man_104 : decode cX8_man 104 = .ok (.if_icmp .ge 8, 3) := by decide +kernel
theorem dX8_man_107 : decode cX8_man 107 = .ok (.iload 7, 2) := by decide +kernel
theorem dX8_man_109 : decode cX8_man 109 = .ok (.goto 5, 3) := by decide +kernel
theorem dX8_man_112 : decode cX8_man 112 = .ok (.iload 4, 2) := by decide +kernel
theorem dX8_man_114 : decode cX8_man 114 = .ok (.istore 4, 2) := by decide +kernel
theorem dX8_man_116 : decode cX8_man 116 = .ok (.iload 10, 2) := by decide +kernel
theorem dX8_man_118 : decode cX8_man 118 = .ok (.iload 6, 2) := by decide +kernel
theorem dX8_man_120 : decode cX8_man 120 = .ok (.if_icmp .ge 8, 3) := by decide +kernel
theorem dX8_man_123 : decode cX8_man 123 = .ok (.iload 8, 2) := by decide +kernel
theorem dX8_man_125 : decode cX8_man 125 = .ok (.goto 5, 3) := by decide +kernel
theorem dX8_man_128 : decode cX8_man 128 = .ok (.iload 5, 2) := by decide +kernel
theorem dX8_man_130 : decode cX8_man 130 = .ok (.istore 5, 2) := by decide +kernel
theorem dX8_man_132 : decode cX8_man 132 = .ok (.iload 10, 2) := by decide +kernel
theorem dX8_man_134 : decode cX8_man 134 = .ok (.iload 6, 2) := by decide +kernel
theorem dX8_man_136 : decode cX8_man 136 = .ok (.if_icmp .ge 8, 3) := by decide +kernel
theorem dX8_man_139 : decode cX8_man 139 = .ok (.iload 10, 2) := by decide +kernel
theorem dX8_man_141 : decode cX8_man 141 = .ok (.goto 5, 3) := by decide +kernel
theorem dX8_man_144 : decode cX8_man 144 = .ok (.iload 6, 2) := by decide +kernel
theorem dX8_man_146 : decode cX8_man 146 = .ok (.istore 6, 2) := by decide +kernel
theorem dX8_man_148 : decode cX8_man 148 = .ok (.iinc 8 1, 3) := by decide +kernel
theorem dX8_man_151 : decode cX8_man 151 = .ok (.goto (-92), 3) := by decide +kernel
theorem dX8_man_154 : decode cX8_man 154 = .ok (.iinc 7 1, 3) := by decide +kernel
theorem dX8_man_157 : decode cX8_man 157 = .ok (.goto (-112), 3) := by decide +kernel
theorem dX8_man_160 : decode cX8_man 160 = .ok (.iload_n 1, 1) := by decide +kernel
theorem dX8_man_161 : decode cX8_man 161 = .ok (.ifCond .ne 8, 3) := by decide +kernel
theorem dX8_man_164 : decode cX8_man 164 = .ok (.iload 4, 2) := by decide +kernel
theorem dX8_man_166 : decode cX8_man 166 = .ok (.goto 15, 3) := by decide +kernel
theorem dX8_man_169 : decode cX8_man 169 = .ok (.iload_n 1, 1) := by decide +kernel
theorem dX8_man_170 : decode cX8_man 170 = .ok (.iconst 1, 1) := by decide +kernel
theorem dX8_man_171 : decode cX8_man 171 = .ok (.if_icmp .ne 8, 3) := by decide +kernel
theorem dX8_man_174 : decode cX8_man 174 = .ok (.iload 5, 2) := by decide +kernel
theorem dX8_man_176 : decode cX8_man 176 = .ok (.goto 5, 3) := by decide +kernel
theorem dX8_man_179 : decode cX8_man 179 = .ok (.iload 6, 2) := by decide +kernel
theorem dX8_man_181 : decode cX8_man 181 = .ok (.ireturn, 1) := by decide +kernel
set_option maxRecDepth 20000 in
theorem ggX8_menFor_X8_ones : GoodIn wsX8_menFor wsX8_ones := goodIn_r _ [7] (by decide +kernel) (by decide +kernel)
set_option maxRecDepth 20000 in
theorem gX8_menFor_X8_ones : GoodIn wsX8_menFor (va_wsS RX8 217 yX8_ones wsX8_ones) := goodIn_app (goodIn_of _ (by decide +kernel)) ggX8_menFor_X8_ones
set_option maxRecDepth 20000 in
theorem ggX8_menFor_X8_takenOf : GoodIn wsX8_menFor wsX8_takenOf := goodIn_r _ [11, 2, 12, 13, 6, 14, 15, 16, 17, 18, 19, 20, 21, 22, 23, 24, 25, 26, 27, 28, 29, 30, 31, 32, 33, 34, 35, 36, 37, 38, 39, 40, 41, 42, 43, 44, 45, 46, 47, 48, 49, 50, 51, 52, 53, 54, 55, 56, 57, 58, 59, 60, 61] (by decide +kernel) (by decide +kernel)
set_option maxRecDepth 20000 in
theorem gX8_menFor_X8_takenOf : GoodIn wsX8_menFor (wsV RX8 220 RX8 yX8_takenOf wsX8_takenOf) := goodIn_app (goodIn_of _ (by decide +kernel)) ggX8_menFor_X8_takenOf
theorem dX8_menFor_0 : decode cX8_menFor 0 = .ok (.iload_n 1, 1) := by decide +kernel
theorem dX8_menFor_1 : decode cX8_menFor 1 = .ok (.invokestatic 217, 3) := by decide +kernel
theorem dX8_menFor_4 : decode cX8_menFor 4 = .ok (.iconst 2, 1) := by decide +kernel
theorem dX8_menFor_5 : decode cX8_menFor 5 = .ok (.if_icmp .ge 5, 3) := by decide +kernel
theorem dX8_menFor_8 : decode cX8_menFor 8 = .ok (.iconst 0, 1) := by decide +kernel
theorem dX8_menFor_9 : decode cX8_menFor 9 = .ok (.ireturn, 1) := by decide +kernel
theorem dX8_menFor_10 : decode cX8_menFor 10 = .ok (.ldc 50, 2) := by decide +kernel
theorem dX8_menFor_12 : decode cX8_menFor 12 = .ok (.istore_n 2, 1) := by decide +kernel
theorem dX8_menFor_13 : decode cX8_menFor 13 = .ok (.iconst 0, 1) := by decide +kernel
theorem dX8_menFor_14 : decode cX8_menFor 14 = .ok (.istore_n 3, 1) := by decide +kernel
theorem dX8_menFor_15 : decode cX8_menFor 15 = .ok (.iload_n 3, 1) := by decide +kernel
theorem dX8_menFor_16 : decode cX8_menFor 16 = .ok (.aload_n 0, 1) := by decide +kernel
theorem dX8_menFor_17 : decode cX8_menFor 17 = .ok (.getfield 25, 3) := by decide +kernel
theorem dX8_menFor_20 : decode cX8_menFor 20 = .ok (.iconst 3, 1) := by decide +kernel
theorem dX8_menFor_21 : decode cX8_menFor 21 = .ok (.iaload, 1) := by decide +kernel
theorem dX8_menFor_22 : decode cX8_menFor 22 = .ok (.if_icmp .ge 134, 3) := by decide +kernel
theorem dX8_menFor_25 : decode cX8_menFor 25 = .ok (.iconst 0, 1) := by decide +kernel
theorem dX8_menFor_26 : decode cX8_menFor 26 = .ok (.istore 4, 2) := by decide +kernel
theorem dX8_menFor_28 : decode cX8_menFor 28 = .ok (.iload 4, 2) := by decide +kernel
theorem dX8_menFor_30 : decode cX8_menFor 30 = .ok (.bipush 6, 2) := by decide +kernel
theorem dX8_menFor_32 : decode cX8_menFor 32 = .ok (.if_icmp .ge 118, 3) := by decide +kernel
theorem dX8_menFor_35 : decode cX8_menFor 35 = .ok (.aload_n 0, 1) := by decide +kernel
theorem dX8_menFor_36 : decode cX8_menFor 36 = .ok (.iload_n 1, 1) := by decide +kernel
theorem dX8_menFor_37 : decode cX8_menFor 37 = .ok (.iload_n 3, 1) := by decide +kernel
theorem dX8_menFor_38 : decode cX8_menFor 38 = .ok (.iload 4, 2) := by decide +kernel
theorem dX8_menFor_40 : decode cX8_menFor 40 = .ok (.invokevirtual 220, 3) := by decide +kernel
theorem dX8_menFor_43 : decode cX8_menFor 43 = .ok (.istore 5, 2) := by decide +kernel
theorem dX8_menFor_45 : decode cX8_menFor 45 = .ok (.iload_n 1, 1) := by decide +kernel
theorem dX8_menFor_46 : decode cX8_menFor 46 = .ok (.iload 5, 2) := by decide +kernel
theorem dX8_menFor_48 : decode cX8_menFor 48 = .ok (.iconst (-1), 1) := by decide +kernel
theorem dX8_menFor_49 : decode cX8_menFor 49 = .ok (.ixor, 1) := by decide +kernel
theorem dX8_menFor_50 : decode cX8_menFor 50 = .ok (.iand, 1) := by decide +kernel
theorem dX8_menFor_51 : decode cX8_menFor 51 = .ok (.istore 6, 2) := by decide +kernel
theorem dX8_menFor_53 : decode cX8_menFor 53 = .ok (.iload 5, 2) := by decide +kernel
theorem dX8_menFor_55 : decode cX8_menFor 55 = .ok (.ifCond .eq 89, 3) := by decide +kernel
theorem dX8_menFor_58 : decode cX8_menFor 58 = .ok (.iload 6, 2) := by decide +kernel
theorem dX8_menFor_60 : decode cX8_menFor 60 = .ok (.ifCond .eq 84, 3) := by decide +kernel
theorem dX8_menFor_63 : decode cX8_menFor 63 = .ok (.aload_n 0, 1) := by decide +kernel
theorem dX8_menFor_64 : decode cX8_menFor 64 = .ok (.getfield 44, 3) := by decide +kernel
theorem dX8_menFor_67 : decode cX8_menFor 67 = .ok (.iload 5, 2) := by decide +kernel
theorem dX8_menFor_69 : decode cX8_menFor 69 = .ok (.iaload, 1) := by decide +kernel
theorem dX8_menFor_70 : decode cX8_menFor 70 = .ok (.ldc 50, 2) := by decide +kernel
theorem dX8_menFor_72 : decode cX8_menFor 72 = .ok (.if_icmp .eq 72, 3) := by decide +kernel
theorem dX8_menFor_75 : decode cX8_menFor 75 = .ok (.aload_n 0, 1) := by decide +kernel
theorem dX8_menFor_76 : decode cX8_menFor 76 = .ok (.getfield 44, 3) := by decide +kernel
theorem dX8_menFor_79 : decode cX8_menFor 79 = .ok (.iload 6, 2) := by decide +kernel
theorem dX8_menFor_81 : decode cX8_menFor 81 = .ok (.iaload, 1) := by decide +kernel
theorem dX8_menFor_82 : decode cX8_menFor 82 = .ok (.ldc 50, 2) := by decide +kernel
theorem dX8_menFor_84 : decode cX8_menFor 84 = .ok (.if_icmp .eq 60, 3) := by decide +kernel
theorem dX8_menFor_87 : decode cX8_menFor 87 = .ok (.iconst 1, 1) := by decide +kernel
theorem dX8_menFor_88 : decode cX8_menFor 88 = .ok (.aload_n 0, 1) := by decide +kernel
theorem dX8_menFor_89 : decode cX8_menFor 89 = .ok (.getfield 44, 3) := by decide +kernel
theorem dX8_menFor_92 : decode cX8_menFor 92 = .ok (.iload 5, 2) := by decide +kernel
theorem dX8_menFor_94 : decode cX8_menFor 94 = .ok (.iaload, 1) := by decide +kernel
theorem dX8_menFor_95 : decode cX8_menFor 95 = .ok (.aload_n 0, 1) := by decide +kernel
theorem dX8_menFor_96 : decode cX8_menFor 96 = .ok (.getfield 44, 3) := by decide +kernel
theorem dX8_menFor_99 : decode cX8_menFor 99 = .ok (.iload 6, 2) := by decide +kernel
theorem dX8_menFor_101 : decode cX8_menFor 101 = .ok (.iaload, 1) := by decide +kernel
theorem dX8_menFor_102 : decode cX8_menFor 102 = .ok (.if_icmp .le 13, 3) := by decide +kernel
theorem dX8_menFor_105 : decode cX8_menFor 105 = .ok (.aload_n 0, 1) := by decide +kernel
theorem dX8_menFor_106 : decode cX8_menFor 106 = .ok (.getfield 44, 3) := by decide +kernel
theorem dX8_menFor_109 : decode cX8_menFor 109 = .ok (.iload 5, 2) := by decide +kernel
theorem dX8_menFor_111 : decode cX8_menFor 111 = .ok (.iaload, 1) := by decide +kernel
theorem dX8_menFor_112 : decode cX8_menFor 112 = .ok (.goto 10, 3) := by decide +kernel
theorem dX8_menFor_115 : decode cX8_menFor 115 = .ok (.aload_n 0, 1) := by decide +kernel
theorem dX8_menFor_116 : decode cX8_menFor 116 = .ok (.getfield 44, 3) := by decide +kernel
theorem dX8_menFor_119 : decode cX8_menFor 119 = .ok (.iload 6, 2) := by decide +kernel
theorem dX8_menFor_121 : decode cX8_menFor 121 = .ok (.iaload, 1) := by decide +kernel
theorem dX8_menFor_122 : decode cX8_menFor 122 = .ok (.iadd, 1) := by decide +kernel
theorem dX8_menFor_123 : decode cX8_menFor 123 = .ok (.istore 7, 2) := by decide +kernel
theorem dX8_menFor_125 : decode cX8_menFor 125 = .ok (.iload_n 2, 1) := by decide +kernel
theorem dX8_menFor_126 : decode cX8_menFor 126 = .ok (.ldc 50, 2) := by decide +kernel
theorem dX8_menFor_128 : decode cX8_menFor 128 = .ok (.if_icmp .eq 9, 3) := by decide +kernel
theorem dX8_menFor_131 : decode cX8_menFor 131 = .ok (.iload 7, 2) := by decide +kernel
theorem dX8_menFor_133 : decode cX8_menFor 133 = .ok (.iload_n 2, 1) := by decide +kernel
theorem dX8_menFor_134 : decode cX8_menFor 134 = .ok (.if_icmp .ge 8, 3) := by decide +kernel
theorem dX8_menFor_137 : decode cX8_menFor 137 = .ok (.iload 7, 2) := by decide +kernel
theorem dX8_menFor_139 : decode cX8_menFor 139 = .ok (.goto 4, 3) := by decide +kernel
theorem dX8_menFor_142 : decode cX8_menFor 142 = .ok (.iload_n 2, 1) := by decide +kernel
theorem dX8_menFor_143 : decode cX8_menFor 143 = .ok (.istore_n 2, 1) := by decide +kernel
theorem dX8_menFor_144 : decode cX8_menFor 144 = .ok (.iinc 4 1, 3) := by decide +kernel
theorem dX8_menFor_147 : decode cX8_menFor 147 = .ok (.goto (-119), 3) := by decide +kernel
theorem dX8_menFor_150 : decode cX8_menFor 150 = .ok (.iinc 3 1, 3) := by decide +kernel
theorem dX8_menFor_153 : decode cX8_menFor 153 = .ok (.goto (-138), 3) := by decide +kernel
theorem dX8_menFor_156 : decode cX8_menFor 156 = .ok (.iload_n 2, 1) := by decide +kernel
theorem dX8_menFor_157 : decode cX8_menFor 157 = .ok (.ireturn, 1) := by decide +kernel
set_option maxRecDepth 20000 in
theorem ggX8_fewest_X8_isGate : GoodIn wsX8_fewest wsX8_isGate := goodIn_r _ [7, 8, 52, 53, 54, 55, 56, 57, 58, 59, 60, 61, 62, 63, 64, 65, 66, 67, 68, 69, 70, 71, 72, 73, 74] (by decide +kernel) (by decide +kernel)
set_option maxRecDepth 20000 in
theorem gX8_fewest_X8_isGate : GoodIn wsX8_fewest (wsV RX8 180 RX8 yX8_isGate wsX8_isGate) := goodIn_app (goodIn_of _ (by decide +kernel)) ggX8_fewest_X8_isGate
set_option maxRecDepth 20000 in
theorem ggX8_fewest_X8_agreeing : GoodIn wsX8_fewest wsX8_agreeing := goodIn_r _ [12, 8, 13, 14, 15, 6, 16, 17, 18, 19, 20, 21, 22, 23, 24, 25, 26, 27, 28, 52, 53, 54, 55, 56, 57, 58, 59, 60, 61, 62, 63, 64, 65, 66, 67, 68, 69, 70, 71, 72, 73, 74] (by decide +kernel) (by decide +kernel)
set_option maxRecDepth 20000 in
theorem gX8_fewest_X8_agreeing : GoodIn wsX8_fewest (wsV RX8 214 RX8 yX8_agreeing wsX8_agreeing) := goodIn_app (goodIn_of _ (by decide +kernel)) ggX8_fewest_X8_agreeing
set_option maxRecDepth 20000 in
theorem ggX8_fewest_X8_menFor : GoodIn wsX8_fewest wsX8_menFor := goodIn_r _ [32, 33, 8, 2, 34, 35, 6, 36, 37, 38, 39, 40, 41, 42, 43, 44, 45, 46, 47, 48, 49, 50, 51, 13, 14, 15, 16, 17, 18, 19, 20, 21, 22, 23, 24, 25, 26, 27, 28, 52, 53, 54, 55, 56, 57, 58, 59, 60, 61, 62, 63, 64, 65, 66, 67, 68, 69, 70, 71, 72, 73, 74] (by decide +kernel) (by decide +kernel)
set_option maxRecDepth 20000 in
theorem gX8_fewest_X8_menFor : GoodIn wsX8_fewest (wsV RX8 224 RX8 yX8_menFor wsX8_menFor) := goodIn_app (goodIn_of _ (by decide +kernel)) ggX8_fewest_X8_menFor
theorem dX8_fewest_0 : decode cX8_fewest 0 = .ok (.aload_n 0, 1) := by decide +kernel
theorem dX8_fewest_1 : decode cX8_fewest 1 = .ok (.invokevirtual 180, 3) := by decide +kernel
theorem dX8_fewest_4 : decode cX8_fewest 4 = .ok (.ifCond .ne 6, 3) := by decide +kernel
theorem dX8_fewest_7 : decode cX8_fewest 7 = .ok (.ldc 183, 2) := by decide +kernel
theorem dX8_fewest_9 : decode cX8_fewest 9 = .ok (.ireturn, 1) := by decide +kernel
theorem dX8_fewest_10 : decode cX8_fewest 10 = .ok (.aload_n 0, 1) := by decide +kernel
theorem dX8_fewest_11 : decode cX8_fewest 11 = .ok (.invokevirtual 214, 3) := by decide +kernel
theorem dX8_fewest_14 : decode cX8_fewest 14 = .ok (.istore_n 1, 1) := by decide +kernel
theorem dX8_fewest_15 : decode cX8_fewest 15 = .ok (.iconst 0, 1) := by decide +kernel
theorem dX8_fewest_16 : decode cX8_fewest 16 = .ok (.istore_n 2, 1) := by decide +kernel
theorem dX8_fewest_17 : decode cX8_fewest 17 = .ok (.iload_n 2, 1) := by decide +kernel
theorem dX8_fewest_18 : decode cX8_fewest 18 = .ok (.iload_n 1, 1) := by decide +kernel
theorem dX8_fewest_19 : decode cX8_fewest 19 = .ok (.if_icmp .gt 20, 3) := by decide +kernel
theorem dX8_fewest_22 : decode cX8_fewest 22 = .ok (.aload_n 0, 1) := by decide +kernel
theorem dX8_fewest_23 : decode cX8_fewest 23 = .ok (.getfield 44, 3) := by decide +kernel
theorem dX8_fewest_26 : decode cX8_fewest 26 = .ok (.iload_n 2, 1) := by decide +kernel
theorem dX8_fewest_27 : decode cX8_fewest 27 = .ok (.aload_n 0, 1) := by decide +kernel
theorem dX8_fewest_28 : decode cX8_fewest 28 = .ok (.iload_n 2, 1) := by decide +kernel
theorem dX8_fewest_29 : decode cX8_fewest 29 = .ok (.invokevirtual 224, 3) := by decide +kernel
theorem dX8_fewest_32 : decode cX8_fewest 32 = .ok (.iastore, 1) := by decide +kernel
theorem dX8_fewest_33 : decode cX8_fewest 33 = .ok (.iinc 2 1, 3) := by decide +kernel
theorem dX8_fewest_36 : decode cX8_fewest 36 = .ok (.goto (-19), 3) := by decide +kernel
theorem dX8_fewest_39 : decode cX8_fewest 39 = .ok (.aload_n 0, 1) := by decide +kernel
theorem dX8_fewest_40 : decode cX8_fewest 40 = .ok (.getfield 44, 3) := by decide +kernel
theorem dX8_fewest_43 : decode cX8_fewest 43 = .ok (.iload_n 1, 1) := by decide +kernel
theorem dX8_fewest_44 : decode cX8_fewest 44 = .ok (.iaload, 1) := by decide +kernel
theorem dX8_fewest_45 : decode cX8_fewest 45 = .ok (.ireturn, 1) := by decide +kernel
set_option maxRecDepth 20000 in
theorem ggX8_march_X8_isGate : GoodIn wsX8_march wsX8_isGate := goodIn_r _ [9, 10, 75, 76, 77, 78, 79, 80, 81, 82, 83, 84, 85, 86, 87, 88, 89, 90, 91, 92, 93, 94, 95, 96, 97] (by decide +kernel) (by decide +kernel)
set_option maxRecDepth 20000 in
theorem gX8_march_X8_isGate : GoodIn wsX8_march (wsV RX8 180 RX8 yX8_isGate wsX8_isGate) := goodIn_app (goodIn_of _ (by decide +kernel)) ggX8_march_X8_isGate
set_option maxRecDepth 20000 in
theorem ggX8_march_X8_isRow : GoodIn wsX8_march wsX8_isRow := goodIn_r _ [13, 14, 15, 8, 16] (by decide +kernel) (by decide +kernel)
set_option maxRecDepth 20000 in
theorem gX8_march_X8_isRow : GoodIn wsX8_march (va_wsS RX8 60 yX8_isRow wsX8_isRow) := goodIn_app (goodIn_of _ (by decide +kernel)) ggX8_march_X8_isRow
set_option maxRecDepth 20000 in
theorem ggX8_march_X8_in : GoodIn wsX8_march wsX8_in := goodIn_r _ [16] (by decide +kernel) (by decide +kernel)
set_option maxRecDepth 20000 in
theorem gX8_march_X8_in : GoodIn wsX8_march (va_wsS RX8 56 yX8_in wsX8_in) := goodIn_app (goodIn_of _ (by decide +kernel)) ggX8_march_X8_in
set_option maxRecDepth 20000 in
theorem ggX8_march_X8_isMissing : GoodIn wsX8_march wsX8_isMissing := goodIn_r _ [20, 21, 3, 75, 76, 77, 78, 79, 80, 81, 82, 83, 84, 85, 86, 87, 88, 89, 90, 91, 92, 93, 94, 95, 96, 97] (by decide +kernel) (by decide +kernel)
set_option maxRecDepth 20000 in
theorem gX8_march_X8_isMissing : GoodIn wsX8_march (wsV RX8 72 RX8 yX8_isMissing wsX8_isMissing) := goodIn_app (goodIn_of _ (by decide +kernel)) ggX8_march_X8_isMissing
set_option maxRecDepth 20000 in
theorem ggX8_march_X8_found : GoodIn wsX8_march wsX8_found := goodIn_r _ [25, 26, 27, 75, 76, 77, 78, 79, 80, 81, 82, 83, 84, 85, 86, 87, 88, 89, 90, 91, 92, 93, 94, 95, 96, 97] (by decide +kernel) (by decide +kernel)
set_option maxRecDepth 20000 in
theorem gX8_march_X8_found : GoodIn wsX8_march (wsV RX8 65 RX8 yX8_found wsX8_found) := goodIn_app (goodIn_of _ (by decide +kernel)) ggX8_march_X8_found
set_option maxRecDepth 20000 in
theorem ggX8_march_X8_isPart : GoodIn wsX8_march wsX8_isPart := goodIn_r _ [31, 32, 75, 76, 77, 78, 79, 80, 81, 82, 83, 84, 85, 86, 87, 88, 89, 90, 91, 92, 93, 94, 95, 96, 97] (by decide +kernel) (by decide +kernel)
set_option maxRecDepth 20000 in
theorem gX8_march_X8_isPart : GoodIn wsX8_march (wsV RX8 79 RX8 yX8_isPart wsX8_isPart) := goodIn_app (goodIn_of _ (by decide +kernel)) ggX8_march_X8_isPart
set_option maxRecDepth 20000 in
theorem ggX8_march_X8_isWord : GoodIn wsX8_march wsX8_isWord := goodIn_r _ [36, 10, 14, 15, 8, 16, 75, 76, 77, 78, 79, 80, 81, 82, 83, 84, 85, 86, 87, 88, 89, 90, 91, 92, 93, 94, 95, 96, 97] (by decide +kernel) (by decide +kernel)
set_option maxRecDepth 20000 in
theorem gX8_march_X8_isWord : GoodIn wsX8_march (wsV RX8 190 RX8 yX8_isWord wsX8_isWord) := goodIn_app (goodIn_of _ (by decide +kernel)) ggX8_march_X8_isWord
set_option maxRecDepth 20000 in
theorem ggX8_march_X8_isTakenNow : GoodIn wsX8_march wsX8_isTakenNow := goodIn_r _ [40, 10, 41, 42, 8, 43, 44, 45, 46, 47, 48, 49, 50, 51, 52, 53, 54, 55, 56, 57, 58, 59, 60, 61, 62, 63, 64, 65, 66, 67, 68, 69, 70, 75, 76, 77, 78, 79, 80, 81, 82, 83, 84, 85, 86, 87, 88, 89, 90, 91, 92, 93, 94, 95, 96, 97] (by decide +kernel) (by decide +kernel)
set_option maxRecDepth 20000 in
theorem gX8_march_X8_isTakenNow : GoodIn wsX8_march (wsV RX8 196 RX8 yX8_isTakenNow wsX8_isTakenNow) := goodIn_app (goodIn_of _ (by decide +kernel)) ggX8_march_X8_isTakenNow
set_option maxRecDepth 20000 in
theorem ggX8_march_X8_well : GoodIn wsX8_march wsX8_well := goodIn_r _ [74, 26, 75, 76, 77, 78, 79, 80, 81, 82, 83, 84, 85, 86, 87, 88, 89, 90, 91, 92, 93, 94, 95, 96, 97] (by decide +kernel) (by decide +kernel)
set_option maxRecDepth 20000 in
theorem gX8_march_X8_well : GoodIn wsX8_march (wsV RX8 69 RX8 yX8_well wsX8_well) := goodIn_app (goodIn_of _ (by decide +kernel)) ggX8_march_X8_well
theorem dX8_march_0 : decode cX8_march 0 = .ok (.aload_n 0, 1) := by decide +kernel
theorem dX8_march_1 : decode cX8_march 1 = .ok (.invokevirtual 180, 3) := by decide +kernel
theorem dX8_march_4 : decode cX8_march 4 = .ok (.ifCond .ne 6, 3) := by decide +kernel
theorem dX8_march_7 : decode cX8_march 7 = .ok (.ldc 183, 2) := by decide +kernel
theorem dX8_march_9 : decode cX8_march 9 = .ok (.ireturn, 1) := by decide +kernel
theorem dX8_march_10 : decode cX8_march 10 = .ok (.iload_n 1, 1) := by decide +kernel
theorem dX8_march_11 : decode cX8_march 11 = .ok (.invokestatic 60, 3) := by decide +kernel
theorem dX8_march_14 : decode cX8_march 14 = .ok (.ifCond .eq 25, 3) := by decide +kernel
theorem dX8_march_17 : decode cX8_march 17 = .ok (.iload_n 3, 1) := by decide +kernel
theorem dX8_march_18 : decode cX8_march 18 = .ok (.iconst 1, 1) := by decide +kernel
theorem dX8_march_19 : decode cX8_march 19 = .ok (.bipush 6, 2) := by decide +kernel
theorem dX8_march_21 : decode cX8_march 21 = .ok (.invokestatic 56, 3) := by decide +kernel
theorem dX8_march_24 : decode cX8_march 24 = .ok (.ifCond .eq 15, 3) := by decide +kernel
theorem dX8_march_27 : decode cX8_march 27 = .ok (.iload 4, 2) := by decide +kernel
theorem dX8_march_29 : decode cX8_march 29 = .ok (.iconst (-1), 1) := by decide +kernel
theorem dX8_march_30 : decode cX8_march 30 = .ok (.iload_n 3, 1) := by decide +kernel
theorem dX8_march_31 : decode cX8_march 31 = .ok (.iconst 1, 1) := by decide +kernel
theorem dX8_march_32 : decode cX8_march 32 = .ok (.isub, 1) := by decide +kernel
theorem dX8_march_33 : decode cX8_march 33 = .ok (.invokestatic 56, 3) := by decide +kernel
theorem dX8_march_36 : decode cX8_march 36 = .ok (.ifCond .ne 6, 3) := by decide +kernel
theorem dX8_march_39 : decode cX8_march 39 = .ok (.ldc 64, 2) := by decide +kernel
theorem dX8_march_41 : decode cX8_march 41 = .ok (.ireturn, 1) := by decide +kernel
theorem dX8_march_42 : decode cX8_march 42 = .ok (.aload_n 0, 1) := by decide +kernel
theorem dX8_march_43 : decode cX8_march 43 = .ok (.iload_n 1, 1) := by decide +kernel
theorem dX8_march_44 : decode cX8_march 44 = .ok (.invokevirtual 72, 3) := by decide +kernel
theorem dX8_march_47 : decode cX8_march 47 = .ok (.ifCond .eq 9, 3) := by decide +kernel
theorem dX8_march_50 : decode cX8_march 50 = .ok (.aload_n 0, 1) := by decide +kernel
theorem dX8_march_51 : decode cX8_march 51 = .ok (.iconst 1, 1) := by decide +kernel
theorem dX8_march_52 : decode cX8_march 52 = .ok (.invokevirtual 65, 3) := by decide +kernel
theorem dX8_march_55 : decode cX8_march 55 = .ok (.ireturn, 1) := by decide +kernel
theorem dX8_march_56 : decode cX8_march 56 = .ok (.aload_n 0, 1) := by decide +kernel
theorem dX8_march_57 : decode cX8_march 57 = .ok (.iload_n 1, 1) := by decide +kernel
theorem dX8_march_58 : decode cX8_march 58 = .ok (.iload_n 2, 1) := by decide +kernel
theorem dX8_march_59 : decode cX8_march 59 = .ok (.iload_n 3, 1) := by decide +kernel
theorem dX8_march_60 : decode cX8_march 60 = .ok (.invokevirtual 79, 3) := by decide +kernel
theorem dX8_march_63 : decode cX8_march 63 = .ok (.ifCond .ne 9, 3) := by decide +kernel
theorem dX8_march_66 : decode cX8_march 66 = .ok (.aload_n 0, 1) := by decide +kernel
theorem dX8_march_67 : decode cX8_march 67 = .ok (.iconst 2, 1) := by decide +kernel
theorem dX8_march_68 : decode cX8_march 68 = .ok (.invokevirtual 65, 3) := by decide +kernel
theorem dX8_march_71 : decode cX8_march 71 = .ok (.ireturn, 1) := by decide +kernel
theorem dX8_march_72 : decode cX8_march 72 = .ok (.iconst (-1), 1) := by decide +kernel
theorem dX8_march_73 : decode cX8_march 73 = .ok (.istore 5, 2) := by decide +kernel
theorem dX8_march_75 : decode cX8_march 75 = .ok (.ldc 50, 2) := by decide +kernel
theorem dX8_march_77 : decode cX8_march 77 = .ok (.istore 6, 2) := by decide +kernel
theorem dX8_march_79 : decode cX8_march 79 = .ok (.iconst 0, 1) := by decide +kernel
theorem dX8_march_80 : decode cX8_march 80 = .ok (.istore 7, 2) := by decide +kernel
theorem dX8_march_82 : decode cX8_march 82 = .ok (.iload 7, 2) := by decide +kernel
theorem dX8_march_84 : decode cX8_march 84 = .ok (.iload_n 3, 1) := by decide +kernel
theorem dX8_march_85 : decode cX8_march 85 = .ok (.if_icmp .ge 91, 3) := by decide +kernel
theorem dX8_march_88 : decode cX8_march 88 = .ok (.iload 5, 2) := by decide +kernel
theorem dX8_march_90 : decode cX8_march 90 = .ok (.bipush 6, 2) := by decide +kernel
theorem dX8_march_92 : decode cX8_march 92 = .ok (.if_icmp .ge 84, 3) := by decide +kernel
theorem dX8_march_95 : decode cX8_march 95 = .ok (.aload_n 0, 1) := by decide +kernel
theorem dX8_march_96 : decode cX8_march 96 = .ok (.getfield 16, 3) := by decide +kernel
theorem dX8_march_99 : decode cX8_march 99 = .ok (.bipush 40, 2) := by decide +kernel
theorem dX8_march_101 : decode cX8_march 101 = .ok (.iload_n 1, 1) := by decide +kernel
theorem dX8_march_102 : decode cX8_march 102 = .ok (.imul, 1) := by decide +kernel
theorem dX8_march_103 : decode cX8_march 103 = .ok (.iload_n 2, 1) := by decide +kernel
theorem dX8_march_104 : decode cX8_march 104 = .ok (.iadd, 1) := by decide +kernel
theorem dX8_march_105 : decode cX8_march 105 = .ok (.iload 7, 2) := by decide +kernel
theorem dX8_march_107 : decode cX8_march 107 = .ok (.iadd, 1) := by decide +kernel
theorem dX8_march_108 : decode cX8_march 108 = .ok (.iaload, 1) := by decide +kernel
theorem dX8_march_109 : decode cX8_march 109 = .ok (.istore 8, 2) := by decide +kernel
theorem dX8_march_111 : decode cX8_march 111 = .ok (.iinc 5 1, 3) := by decide +kernel
theorem dX8_march_114 : decode cX8_march 114 = .ok (.iload 5, 2) := by decide +kernel
theorem dX8_march_116 : decode cX8_march 116 = .ok (.bipush 6, 2) := by decide +kernel
theorem dX8_march_118 : decode cX8_march 118 = .ok (.if_icmp .ge 30, 3) := by decide +kernel
theorem dX8_march_121 : decode cX8_march 121 = .ok (.aload_n 0, 1) := by decide +kernel
theorem dX8_march_122 : decode cX8_march 122 = .ok (.iload 8, 2) := by decide +kernel
theorem dX8_march_124 : decode cX8_march 124 = .ok (.invokevirtual 190, 3) := by decide +kernel
theorem dX8_march_127 : decode cX8_march 127 = .ok (.ifCond .eq 15, 3) := by decide +kernel
theorem dX8_march_130 : decode cX8_march 130 = .ok (.aload_n 0, 1) := by decide +kernel
theorem dX8_march_131 : decode cX8_march 131 = .ok (.iload 8, 2) := by decide +kernel
theorem dX8_march_133 : decode cX8_march 133 = .ok (.iload 5, 2) := by decide +kernel
theorem dX8_march_135 : decode cX8_march 135 = .ok (.iconst 0, 1) := by decide +kernel
theorem dX8_march_136 : decode cX8_march 136 = .ok (.invokevirtual 196, 3) := by decide +kernel
theorem dX8_march_139 : decode cX8_march 139 = .ok (.ifCond .eq 9, 3) := by decide +kernel
theorem dX8_march_142 : decode cX8_march 142 = .ok (.iinc 5 1, 3) := by decide +kernel
theorem dX8_march_145 : decode cX8_march 145 = .ok (.goto (-31), 3) := by decide +kernel
theorem dX8_march_148 : decode cX8_march 148 = .ok (.iload 7, 2) := by decide +kernel
theorem dX8_march_150 : decode cX8_march 150 = .ok (.iload 4, 2) := by decide +kernel
theorem dX8_march_152 : decode cX8_march 152 = .ok (.if_icmp .eq 9, 3) := by decide +kernel
theorem dX8_march_155 : decode cX8_march 155 = .ok (.iload 4, 2) := by decide +kernel
theorem dX8_march_157 : decode cX8_march 157 = .ok (.iconst (-1), 1) := by decide +kernel
theorem dX8_march_158 : decode cX8_march 158 = .ok (.if_icmp .ne 8, 3) := by decide +kernel
theorem dX8_march_161 : decode cX8_march 161 = .ok (.iload 5, 2) := by decide +kernel
theorem dX8_march_163 : decode cX8_march 163 = .ok (.goto 5, 3) := by decide +kernel
theorem dX8_march_166 : decode cX8_march 166 = .ok (.iload 6, 2) := by decide +kernel
theorem dX8_march_168 : decode cX8_march 168 = .ok (.istore 6, 2) := by decide +kernel
theorem dX8_march_170 : decode cX8_march 170 = .ok (.iinc 7 1, 3) := by decide +kernel
theorem dX8_march_173 : decode cX8_march 173 = .ok (.goto (-91), 3) := by decide +kernel
theorem dX8_march_176 : decode cX8_march 176 = .ok (.aload_n 0, 1) := by decide +kernel
theorem dX8_march_177 : decode cX8_march 177 = .ok (.iload 5, 2) := by decide +kernel
theorem dX8_march_179 : decode cX8_march 179 = .ok (.bipush 6, 2) := by decide +kernel
theorem dX8_march_181 : decode cX8_march 181 = .ok (.if_icmp .ge 8, 3) := by decide +kernel
theorem dX8_march_184 : decode cX8_march 184 = .ok (.iload 6, 2) := by decide +kernel
theorem dX8_march_186 : decode cX8_march 186 = .ok (.goto 5, 3) := by decide +kernel
theorem dX8_march_189 : decode cX8_march 189 = .ok (.ldc 50, 2) := by decide +kernel
theorem dX8_march_191 : decode cX8_march 191 = .ok (.invokevirtual 69, 3) := by decide +kernel
theorem dX8_march_194 : decode cX8_march 194 = .ok (.ireturn, 1) := by decide +kernel
set_option maxRecDepth 20000 in
theorem ggX8_cheap_X8_isGate : GoodIn wsX8_cheap wsX8_isGate := goodIn_r _ [9, 4, 57, 58, 59, 60, 61, 62, 63, 64, 65, 66, 67, 68, 69, 70, 71, 72, 73, 74, 75, 76, 77, 78, 79] (by decide +kernel) (by decide +kernel)
set_option maxRecDepth 20000 in
theorem gX8_cheap_X8_isGate : GoodIn wsX8_cheap (wsV RX8 180 RX8 yX8_isGate wsX8_isGate) := goodIn_app (goodIn_of _ (by decide +kernel)) ggX8_cheap_X8_isGate
set_option maxRecDepth 20000 in
theorem ggX8_cheap_X8_areWords : GoodIn wsX8_cheap wsX8_areWords := goodIn_r _ [13, 4, 14, 15, 8, 16, 57, 58, 59, 60, 61, 62, 63, 64, 65, 66, 67, 68, 69, 70, 71, 72, 73, 74, 75, 76, 77, 78, 79] (by decide +kernel) (by decide +kernel)
set_option maxRecDepth 20000 in
theorem gX8_cheap_X8_areWords : GoodIn wsX8_cheap (wsV RX8 208 RX8 yX8_areWords wsX8_areWords) := goodIn_app (goodIn_of _ (by decide +kernel)) ggX8_cheap_X8_areWords
set_option maxRecDepth 20000 in
theorem ggX8_cheap_X8_isFar : GoodIn wsX8_cheap wsX8_isFar := goodIn_r _ [19, 14, 15, 8, 16] (by decide +kernel) (by decide +kernel)
set_option maxRecDepth 20000 in
theorem gX8_cheap_X8_isFar : GoodIn wsX8_cheap (va_wsS RX8 205 yX8_isFar wsX8_isFar) := goodIn_app (goodIn_of _ (by decide +kernel)) ggX8_cheap_X8_isFar
set_option maxRecDepth 20000 in
theorem ggX8_cheap_X8_in : GoodIn wsX8_cheap wsX8_in := goodIn_r _ [16] (by decide +kernel) (by decide +kernel)
set_option maxRecDepth 20000 in
theorem gX8_cheap_X8_in : GoodIn wsX8_cheap (va_wsS RX8 56 yX8_in wsX8_in) := goodIn_app (goodIn_of _ (by decide +kernel)) ggX8_cheap_X8_in
set_option maxRecDepth 20000 in
theorem ggX8_cheap_X8_has : GoodIn wsX8_cheap wsX8_has := goodIn_r _ [22] (by decide +kernel) (by decide +kernel)
set_option maxRecDepth 20000 in
theorem gX8_cheap_X8_has : GoodIn wsX8_cheap (va_wsS RX8 161 yX8_has wsX8_has) := goodIn_app (goodIn_of _ (by decide +kernel)) ggX8_cheap_X8_has
set_option maxRecDepth 20000 in
theorem ggX8_cheap_X8_areIn : GoodIn wsX8_cheap wsX8_areIn := goodIn_r _ [26, 4, 20, 21, 8, 22, 27, 28, 29, 30, 31, 32, 33, 34, 35, 36, 37, 38, 39, 40, 41, 42, 43, 44, 45, 46, 47, 48, 49, 50, 51, 52, 53, 57, 58, 59, 60, 61, 62, 63, 64, 65, 66, 67, 68, 69, 70, 71, 72, 73, 74, 75, 76, 77, 78, 79] (by decide +kernel) (by decide +kernel)
set_option maxRecDepth 20000 in
theorem gX8_cheap_X8_areIn : GoodIn wsX8_cheap (wsV RX8 211 RX8 yX8_areIn wsX8_areIn) := goodIn_app (goodIn_of _ (by decide +kernel)) ggX8_cheap_X8_areIn
set_option maxRecDepth 20000 in
theorem ggX8_cheap_X8_ones : GoodIn wsX8_cheap wsX8_ones := goodIn_r _ [56] (by decide +kernel) (by decide +kernel)
set_option maxRecDepth 20000 in
theorem gX8_cheap_X8_ones : GoodIn wsX8_cheap (va_wsS RX8 217 yX8_ones wsX8_ones) := goodIn_app (goodIn_of _ (by decide +kernel)) ggX8_cheap_X8_ones
theorem dX8_cheap_0 : decode cX8_cheap 0 = .ok (.aload_n 0, 1) := by decide +kernel
theorem dX8_cheap_1 : decode cX8_cheap 1 = .ok (.invokevirtual 180, 3) := by decide +kernel
theorem dX8_cheap_4 : decode cX8_cheap 4 = .ok (.ifCond .ne 6, 3) := by decide +kernel
theorem dX8_cheap_7 : decode cX8_cheap 7 = .ok (.ldc 183, 2) := by decide +kernel
theorem dX8_cheap_9 : decode cX8_cheap 9 = .ok (.ireturn, 1) := by decide +kernel
theorem dX8_cheap_10 : decode cX8_cheap 10 = .ok (.aload_n 0, 1) := by decide +kernel
theorem dX8_cheap_11 : decode cX8_cheap 11 = .ok (.iload_n 1, 1) := by decide +kernel
theorem dX8_cheap_12 : decode cX8_cheap 12 = .ok (.invokevirtual 208, 3) := by decide +kernel
theorem dX8_cheap_15 : decode cX8_cheap 15 = .ok (.ifCond .eq 19, 3) := by decide +kernel
theorem dX8_cheap_18 : decode cX8_cheap 18 = .ok (.iload_n 2, 1) := by decide +kernel
theorem dX8_cheap_19 : decode cX8_cheap 19 = .ok (.invokestatic 205, 3) := by decide +kernel
theorem dX8_cheap_22 : decode cX8_cheap 22 = .ok (.ifCond .eq 12, 3) := by decide +kernel
theorem dX8_cheap_25 : decode cX8_cheap 25 = .ok (.iload_n 3, 1) := by decide +kernel
theorem dX8_cheap_26 : decode cX8_cheap 26 = .ok (.iconst 0, 1) := by decide +kernel
theorem dX8_cheap_27 : decode cX8_cheap 27 = .ok (.iconst 1, 1) := by decide +kernel
theorem dX8_cheap_28 : decode cX8_cheap 28 = .ok (.invokestatic 56, 3) := by decide +kernel
theorem dX8_cheap_31 : decode cX8_cheap 31 = .ok (.ifCond .ne 6, 3) := by decide +kernel
theorem dX8_cheap_34 : decode cX8_cheap 34 = .ok (.ldc 64, 2) := by decide +kernel
theorem dX8_cheap_36 : decode cX8_cheap 36 = .ok (.ireturn, 1) := by decide +kernel
theorem dX8_cheap_37 : decode cX8_cheap 37 = .ok (.ldc 50, 2) := by decide +kernel
theorem dX8_cheap_39 : decode cX8_cheap 39 = .ok (.istore 4, 2) := by decide +kernel
theorem dX8_cheap_41 : decode cX8_cheap 41 = .ok (.ldc 50, 2) := by decide +kernel
theorem dX8_cheap_43 : decode cX8_cheap 43 = .ok (.istore 5, 2) := by decide +kernel
theorem dX8_cheap_45 : decode cX8_cheap 45 = .ok (.iconst 0, 1) := by decide +kernel
theorem dX8_cheap_46 : decode cX8_cheap 46 = .ok (.istore 6, 2) := by decide +kernel
theorem dX8_cheap_48 : decode cX8_cheap 48 = .ok (.iload 6, 2) := by decide +kernel
theorem dX8_cheap_50 : decode cX8_cheap 50 = .ok (.aload_n 0, 1) := by decide +kernel
theorem dX8_cheap_51 : decode cX8_cheap 51 = .ok (.getfield 25, 3) := by decide +kernel
theorem dX8_cheap_54 : decode cX8_cheap 54 = .ok (.bipush 6, 2) := by decide +kernel
theorem dX8_cheap_56 : decode cX8_cheap 56 = .ok (.iaload, 1) := by decide +kernel
theorem dX8_cheap_57 : decode cX8_cheap 57 = .ok (.if_icmp .gt 212, 3) := by decide +kernel
theorem dX8_cheap_60 : decode cX8_cheap 60 = .ok (.iconst 0, 1) := by decide +kernel
theorem dX8_cheap_61 : decode cX8_cheap 61 = .ok (.istore 7, 2) := by decide +kernel
theorem dX8_cheap_63 : decode cX8_cheap 63 = .ok (.iload 6, 2) := by decide +kernel
theorem dX8_cheap_65 : decode cX8_cheap 65 = .ok (.aload_n 0, 1) := by decide +kernel
theorem dX8_cheap_66 : decode cX8_cheap 66 = .ok (.getfield 25, 3) := by decide +kernel
theorem dX8_cheap_69 : decode cX8_cheap 69 = .ok (.bipush 6, 2) := by decide +kernel
theorem dX8_cheap_71 : decode cX8_cheap 71 = .ok (.iaload, 1) := by decide +kernel
theorem dX8_cheap_72 : decode cX8_cheap 72 = .ok (.iconst (-1), 1) := by decide +kernel
theorem dX8_cheap_73 : decode cX8_cheap 73 = .ok (.ixor, 1) := by decide +kernel
theorem dX8_cheap_74 : decode cX8_cheap 74 = .ok (.iand, 1) := by decide +kernel
theorem dX8_cheap_75 : decode cX8_cheap 75 = .ok (.ifCond .ne 7, 3) := by decide +kernel
theorem dX8_cheap_78 : decode cX8_cheap 78 = .ok (.iconst 1, 1) := by decide +kernel
theorem dX8_cheap_79 : decode cX8_cheap 79 = .ok (.goto 4, 3) := by decide +kernel
theorem dX8_cheap_82 : decode cX8_cheap 82 = .ok (.iconst 0, 1) := by decide +kernel
theorem dX8_cheap_83 : decode cX8_cheap 83 = .ok (.istore 8, 2) := by decide +kernel
theorem dX8_cheap_85 : decode cX8_cheap 85 = .ok (.iconst 0, 1) := by decide +kernel
theorem dX8_cheap_86 : decode cX8_cheap 86 = .ok (.istore 9, 2) := by decide +kernel
theorem dX8_cheap_88 : decode cX8_cheap 88 = .ok (.iload 9, 2) := by decide +kernel
theorem dX8_cheap_90 : decode cX8_cheap 90 = .ok (.aload_n 0, 1) := by decide +kernel
theorem dX8_cheap_91 : decode cX8_cheap 91 = .ok (.getfield 25, 3) := by decide +kernel
theorem dX8_cheap_94 : decode cX8_cheap 94 = .ok (.iconst 4, 1) := by decide +kernel
theorem dX8_cheap_95 : decode cX8_cheap 95 = .ok (.iaload, 1) := by decide +kernel
theorem dX8_cheap_96 : decode cX8_cheap 96 = .ok (.if_icmp .ge 42, 3) := by decide +kernel
theorem dX8_cheap_99 : decode cX8_cheap 99 = .ok (.iload 7, 2) := by decide +kernel
theorem dX8_cheap_101 : decode cX8_cheap 101 = .ok (.iload 6, 2) := by decide +kernel
theorem dX8_cheap_103 : decode cX8_cheap 103 = .ok (.iload 9, 2) := by decide +kernel
theorem dX8_cheap_105 : decode cX8_cheap 105 = .ok (.invokestatic 161, 3) := by decide +kernel
theorem dX8_cheap_108 : decode cX8_cheap 108 = .ok (.ifCond .eq 20, 3) := by decide +kernel
theorem dX8_cheap_111 : decode cX8_cheap 111 = .ok (.aload_n 0, 1) := by decide +kernel
theorem dX8_cheap_112 : decode cX8_cheap 112 = .ok (.getfield 25, 3) := by decide +kernel
theorem dX8_cheap_115 : decode cX8_cheap 115 = .ok (.bipush 26, 2) := by decide +kernel
theorem dX8_cheap_117 : decode cX8_cheap 117 = .ok (.iconst 3, 1) := by decide +kernel
theorem dX8_cheap_118 : decode cX8_cheap 118 = .ok (.iload 9, 2) := by decide +kernel
theorem dX8_cheap_120 : decode cX8_cheap 120 = .ok (.imul, 1) := by decide +kernel
theorem dX8_cheap_121 : decode cX8_cheap 121 = .ok (.iadd, 1) := by decide +kernel
theorem dX8_cheap_122 : decode cX8_cheap 122 = .ok (.iconst 1, 1) := by decide +kernel
theorem dX8_cheap_123 : decode cX8_cheap 123 = .ok (.iadd, 1) := by decide +kernel
theorem dX8_cheap_124 : decode cX8_cheap 124 = .ok (.iaload, 1) := by decide +kernel
theorem dX8_cheap_125 : decode cX8_cheap 125 = .ok (.goto 4, 3) := by decide +kernel
theorem dX8_cheap_128 : decode cX8_cheap 128 = .ok (.iconst 0, 1) := by decide +kernel
theorem dX8_cheap_129 : decode cX8_cheap 129 = .ok (.iadd, 1) := by decide +kernel
theorem dX8_cheap_130 : decode cX8_cheap 130 = .ok (.istore 7, 2) := by decide +kernel
theorem dX8_cheap_132 : decode cX8_cheap 132 = .ok (.iinc 9 1, 3) := by decide +kernel
theorem dX8_cheap_135 : decode cX8_cheap 135 = .ok (.goto (-47), 3) := by decide +kernel
theorem dX8_cheap_138 : decode cX8_cheap 138 = .ok (.iconst 0, 1) := by decide +kernel
theorem dX8_cheap_139 : decode cX8_cheap 139 = .ok (.istore 9, 2) := by decide +kernel
theorem dX8_cheap_141 : decode cX8_cheap 141 = .ok (.iload 9, 2) := by decide +kernel
theorem dX8_cheap_143 : decode cX8_cheap 143 = .ok (.bipush 6, 2) := by decide +kernel
theorem dX8_cheap_145 : decode cX8_cheap 145 = .ok (.if_icmp .ge 44, 3) := by decide +kernel
theorem dX8_cheap_148 : decode cX8_cheap 148 = .ok (.iload 8, 2) := by decide +kernel
theorem dX8_cheap_150 : decode cX8_cheap 150 = .ok (.ifCond .eq 30, 3) := by decide +kernel
theorem dX8_cheap_153 : decode cX8_cheap 153 = .ok (.aload_n 0, 1) := by decide +kernel
theorem dX8_cheap_154 : decode cX8_cheap 154 = .ok (.iload_n 1, 1) := by decide +kernel
theorem dX8_cheap_155 : decode cX8_cheap 155 = .ok (.iload 9, 2) := by decide +kernel
theorem dX8_cheap_157 : decode cX8_cheap 157 = .ok (.iload_n 2, 1) := by decide +kernel
theorem dX8_cheap_158 : decode cX8_cheap 158 = .ok (.aload_n 0, 1) := by decide +kernel
theorem dX8_cheap_159 : decode cX8_cheap 159 = .ok (.getfield 25, 3) := by decide +kernel
theorem dX8_cheap_162 : decode cX8_cheap 162 = .ok (.bipush 6, 2) := by decide +kernel
theorem dX8_cheap_164 : decode cX8_cheap 164 = .ok (.iaload, 1) := by decide +kernel
theorem dX8_cheap_165 : decode cX8_cheap 165 = .ok (.iload 6, 2) := by decide +kernel
theorem dX8_cheap_167 : decode cX8_cheap 167 = .ok (.iconst (-1), 1) := by decide +kernel
theorem dX8_cheap_168 : decode cX8_cheap 168 = .ok (.ixor, 1) := by decide +kernel
theorem dX8_cheap_169 : decode cX8_cheap 169 = .ok (.iand, 1) := by decide +kernel
theorem dX8_cheap_170 : decode cX8_cheap 170 = .ok (.invokevirtual 211, 3) := by decide +kernel
theorem dX8_cheap_173 : decode cX8_cheap 173 = .ok (.ifCond .eq 7, 3) := by decide +kernel
theorem dX8_cheap_176 : decode cX8_cheap 176 = .ok (.iconst 1, 1) := by decide +kernel
theorem dX8_cheap_177 : decode cX8_cheap 177 = .ok (.goto 4, 3) := by decide +kernel
theorem dX8_cheap_180 : decode cX8_cheap 180 = .ok (.iconst 0, 1) := by decide +kernel
theorem dX8_cheap_181 : decode cX8_cheap 181 = .ok (.istore 8, 2) := by decide +kernel
theorem dX8_cheap_183 : decode cX8_cheap 183 = .ok (.iinc 9 1, 3) := by decide +kernel
theorem dX8_cheap_186 : decode cX8_cheap 186 = .ok (.goto (-45), 3) := by decide +kernel
theorem dX8_cheap_189 : decode cX8_cheap 189 = .ok (.iload 8, 2) := by decide +kernel
theorem dX8_cheap_191 : decode cX8_cheap 191 = .ok (.ifCond .eq 41, 3) := by decide +kernel
theorem dX8_cheap_194 : decode cX8_cheap 194 = .ok (.iload 4, 2) := by decide +kernel
theorem dX8_cheap_196 : decode cX8_cheap 196 = .ok (.ldc 50, 2) := by decide +kernel
theorem dX8_cheap_198 : decode cX8_cheap 198 = .ok (.if_icmp .eq 30, 3) := by decide +kernel
theorem dX8_cheap_201 : decode cX8_cheap 201 = .ok (.iload 7, 2) := by decide +kernel
theorem dX8_cheap_203 : decode cX8_cheap 203 = .ok (.iload 5, 2) := by decide +kernel
theorem dX8_cheap_205 : decode cX8_cheap 205 = .ok (.if_icmp .lt 23, 3) := by decide +kernel
theorem dX8_cheap_208 : decode cX8_cheap 208 = .ok (.iload 7, 2) := by decide +kernel
theorem dX8_cheap_210 : decode cX8_cheap 210 = .ok (.iload 5, 2) := by decide +kernel
theorem dX8_cheap_212 : decode cX8_cheap 212 = .ok (.if_icmp .ne 20, 3) := by decide +kernel
theorem dX8_cheap_215 : decode cX8_cheap 215 = .ok (.iload 6, 2) := by decide +kernel
theorem dX8_cheap_217 : decode cX8_cheap 217 = .ok (.invokestatic 217, 3) := by decide +kernel
theorem dX8_cheap_220 : decode cX8_cheap 220 = .ok (.iload 4, 2) := by decide +kernel
theorem dX8_cheap_222 : decode cX8_cheap 222 = .ok (.invokestatic 217, 3) := by decide +kernel
theorem dX8_cheap_225 : decode cX8_cheap 225 = .ok (.if_icmp .ge 7, 3) := by decide +kernel
theorem dX8_cheap_228 : decode cX8_cheap 228 = .ok (.iconst 1, 1) := by decide +kernel
theorem dX8_cheap_229 : decode cX8_cheap 229 = .ok (.goto 4, 3) := by decide +kernel
theorem dX8_cheap_232 : decode cX8_cheap 232 = .ok (.iconst 0, 1) := by decide +kernel
theorem dX8_cheap_233 : decode cX8_cheap 233 = .ok (.istore 9, 2) := by decide +kernel
theorem dX8_cheap_235 : decode cX8_cheap 235 = .ok (.iload 9, 2) := by decide +kernel
theorem dX8_cheap_237 : decode cX8_cheap 237 = .ok (.ifCond .eq 8, 3) := by decide +kernel
theorem dX8_cheap_240 : decode cX8_cheap 240 = .ok (.iload 6, 2) := by decide +kernel
theorem dX8_cheap_242 : decode cX8_cheap 242 = .ok (.goto 5, 3) := by decide +kernel
theorem dX8_cheap_245 : decode cX8_cheap 245 = .ok (.iload 4, 2) := by decide +kernel
theorem dX8_cheap_247 : decode cX8_cheap 247 = .ok (.istore 4, 2) := by decide +kernel
theorem dX8_cheap_249 : decode cX8_cheap 249 = .ok (.iload 9, 2) := by decide +kernel
theorem dX8_cheap_251 : decode cX8_cheap 251 = .ok (.ifCond .eq 8, 3) := by decide +kernel
theorem dX8_cheap_254 : decode cX8_cheap 254 = .ok (.iload 7, 2) := by decide +kernel
theorem dX8_cheap_256 : decode cX8_cheap 256 = .ok (.goto 5, 3) := by decide +kernel
theorem dX8_cheap_259 : decode cX8_cheap 259 = .ok (.iload 5, 2) := by decide +kernel
theorem dX8_cheap_261 : decode cX8_cheap 261 = .ok (.istore 5, 2) := by decide +kernel
theorem dX8_cheap_263 : decode cX8_cheap 263 = .ok (.iinc 6 1, 3) := by decide +kernel
theorem dX8_cheap_266 : decode cX8_cheap 266 = .ok (.goto (-218), 3) := by decide +kernel
theorem dX8_cheap_269 : decode cX8_cheap 269 = .ok (.iload_n 3, 1) := by decide +kernel
theorem dX8_cheap_270 : decode cX8_cheap 270 = .ok (.ifCond .ne 8, 3) := by decide +kernel
theorem dX8_cheap_273 : decode cX8_cheap 273 = .ok (.iload 5, 2) := by decide +kernel
theorem dX8_cheap_275 : decode cX8_cheap 275 = .ok (.goto 5, 3) := by decide +kernel
theorem dX8_cheap_278 : decode cX8_cheap 278 = .ok (.iload 4, 2) := by decide +kernel
theorem dX8_cheap_280 : decode cX8_cheap 280 = .ok (.ireturn, 1) := by decide +kernel
set_option maxRecDepth 20000 in
theorem ggX8_near_X8_isWord : GoodIn wsX8_near wsX8_isWord := goodIn_r _ [8, 3, 9, 10, 7, 11, 16, 17, 18, 19, 20, 21, 22, 23, 24, 25, 26, 27, 28, 29, 30, 31, 32, 33, 34, 35, 36, 37, 38] (by decide +kernel) (by decide +kernel)
set_option maxRecDepth 20000 in
theorem gX8_near_X8_isWord : GoodIn wsX8_near (wsV RX8 190 RX8 yX8_isWord wsX8_isWord) := goodIn_app (goodIn_of _ (by decide +kernel)) ggX8_near_X8_isWord
set_option maxRecDepth 20000 in
theorem ggX8_near_X8_in : GoodIn wsX8_near wsX8_in := goodIn_r _ [11] (by decide +kernel) (by decide +kernel)
set_option maxRecDepth 20000 in
theorem gX8_near_X8_in : GoodIn wsX8_near (va_wsS RX8 56 yX8_in wsX8_in) := goodIn_app (goodIn_of _ (by decide +kernel)) ggX8_near_X8_in
set_option maxRecDepth 20000 in
theorem ggX8_near_X8_distance : GoodIn wsX8_near wsX8_distance := goodIn_r _ [15, 3, 16, 17, 18, 19, 20, 21, 22, 23, 24, 25, 26, 27, 28, 29, 30, 31, 32, 33, 34, 35, 36, 37, 38] (by decide +kernel) (by decide +kernel)
set_option maxRecDepth 20000 in
theorem gX8_near_X8_distance : GoodIn wsX8_near (wsV RX8 152 RX8 yX8_distance wsX8_distance) := goodIn_app (goodIn_of _ (by decide +kernel)) ggX8_near_X8_distance
theorem dX8_near_0 : decode cX8_near 0 = .ok (.aload_n 0, 1) := by decide +kernel
theorem dX8_near_1 : decode cX8_near 1 = .ok (.iload_n 1, 1) := by decide +kernel
theorem dX8_near_2 : decode cX8_near 2 = .ok (.invokevirtual 190, 3) := by decide +kernel
theorem dX8_near_5 : decode cX8_near 5 = .ok (.ifCond .eq 12, 3) := by decide +kernel
theorem dX8_near_8 : decode cX8_near 8 = .ok (.iload_n 2, 1) := by decide +kernel
theorem dX8_near_9 : decode cX8_near 9 = .ok (.iconst 0, 1) := by decide +kernel
theorem dX8_near_10 : decode cX8_near 10 = .ok (.iconst 1, 1) := by decide +kernel
theorem dX8_near_11 : decode cX8_near 11 = .ok (.invokestatic 56, 3) := by decide +kernel
theorem dX8_near_14 : decode cX8_near 14 = .ok (.ifCond .ne 6, 3) := by decide +kernel
theorem dX8_near_17 : decode cX8_near 17 = .ok (.ldc 64, 2) := by decide +kernel
theorem dX8_near_19 : decode cX8_near 19 = .ok (.ireturn, 1) := by decide +kernel
theorem dX8_near_20 : decode cX8_near 20 = .ok (.ldc 50, 2) := by decide +kernel
theorem dX8_near_22 : decode cX8_near 22 = .ok (.istore_n 3, 1) := by decide +kernel
theorem dX8_near_23 : decode cX8_near 23 = .ok (.iconst 0, 1) := by decide +kernel
theorem dX8_near_24 : decode cX8_near 24 = .ok (.istore 4, 2) := by decide +kernel
theorem dX8_near_26 : decode cX8_near 26 = .ok (.iload 4, 2) := by decide +kernel
theorem dX8_near_28 : decode cX8_near 28 = .ok (.aload_n 0, 1) := by decide +kernel
theorem dX8_near_29 : decode cX8_near 29 = .ok (.getfield 25, 3) := by decide +kernel
theorem dX8_near_32 : decode cX8_near 32 = .ok (.iconst 3, 1) := by decide +kernel
theorem dX8_near_33 : decode cX8_near 33 = .ok (.iaload, 1) := by decide +kernel
theorem dX8_near_34 : decode cX8_near 34 = .ok (.if_icmp .ge 44, 3) := by decide +kernel
theorem dX8_near_37 : decode cX8_near 37 = .ok (.iload 4, 2) := by decide +kernel
theorem dX8_near_39 : decode cX8_near 39 = .ok (.iload_n 1, 1) := by decide +kernel
theorem dX8_near_40 : decode cX8_near 40 = .ok (.if_icmp .eq 30, 3) := by decide +kernel
theorem dX8_near_43 : decode cX8_near 43 = .ok (.iload_n 3, 1) := by decide +kernel
theorem dX8_near_44 : decode cX8_near 44 = .ok (.ldc 50, 2) := by decide +kernel
theorem dX8_near_46 : decode cX8_near 46 = .ok (.if_icmp .eq 19, 3) := by decide +kernel
theorem dX8_near_49 : decode cX8_near 49 = .ok (.aload_n 0, 1) := by decide +kernel
theorem dX8_near_50 : decode cX8_near 50 = .ok (.iload 4, 2) := by decide +kernel
theorem dX8_near_52 : decode cX8_near 52 = .ok (.iload_n 1, 1) := by decide +kernel
theorem dX8_near_53 : decode cX8_near 53 = .ok (.invokevirtual 152, 3) := by decide +kernel
theorem dX8_near_56 : decode cX8_near 56 = .ok (.aload_n 0, 1) := by decide +kernel
theorem dX8_near_57 : decode cX8_near 57 = .ok (.iload_n 3, 1) := by decide +kernel
theorem dX8_near_58 : decode cX8_near 58 = .ok (.iload_n 1, 1) := by decide +kernel
theorem dX8_near_59 : decode cX8_near 59 = .ok (.invokevirtual 152, 3) := by decide +kernel
theorem dX8_near_62 : decode cX8_near 62 = .ok (.if_icmp .ge 8, 3) := by decide +kernel
theorem dX8_near_65 : decode cX8_near 65 = .ok (.iload 4, 2) := by decide +kernel
theorem dX8_near_67 : decode cX8_near 67 = .ok (.goto 4, 3) := by decide +kernel
theorem dX8_near_70 : decode cX8_near 70 = .ok (.iload_n 3, 1) := by decide +kernel
theorem dX8_near_71 : decode cX8_near 71 = .ok (.istore_n 3, 1) := by decide +kernel
theorem dX8_near_72 : decode cX8_near 72 = .ok (.iinc 4 1, 3) := by decide +kernel
theorem dX8_near_75 : decode cX8_near 75 = .ok (.goto (-49), 3) := by decide +kernel
theorem dX8_near_78 : decode cX8_near 78 = .ok (.iload_n 3, 1) := by decide +kernel
theorem dX8_near_79 : decode cX8_near 79 = .ok (.ldc 50, 2) := by decide +kernel
theorem dX8_near_81 : decode cX8_near 81 = .ok (.if_icmp .eq 7, 3) := by decide +kernel
theorem dX8_near_84 : decode cX8_near 84 = .ok (.iload_n 2, 1) := by decide +kernel
theorem dX8_near_85 : decode cX8_near 85 = .ok (.ifCond .ne 7, 3) := by decide +kernel
theorem dX8_near_88 : decode cX8_near 88 = .ok (.iload_n 3, 1) := by decide +kernel
theorem dX8_near_89 : decode cX8_near 89 = .ok (.goto 9, 3) := by decide +kernel
theorem dX8_near_92 : decode cX8_near 92 = .ok (.aload_n 0, 1) := by decide +kernel
theorem dX8_near_93 : decode cX8_near 93 = .ok (.iload_n 3, 1) := by decide +kernel
theorem dX8_near_94 : decode cX8_near 94 = .ok (.iload_n 1, 1) := by decide +kernel
theorem dX8_near_95 : decode cX8_near 95 = .ok (.invokevirtual 152, 3) := by decide +kernel
theorem dX8_near_98 : decode cX8_near 98 = .ok (.ireturn, 1) := by decide +kernel
set_option maxRecDepth 20000 in
theorem ggX8_rules_X8_isGate : GoodIn wsX8_rules wsX8_isGate := goodIn_r _ [10, 3, 44, 45, 46, 47, 48, 49, 50, 51, 52, 53, 54, 55, 56, 57, 58, 59, 60, 61, 62, 63, 64, 65, 66] (by decide +kernel) (by decide +kernel)
set_option maxRecDepth 20000 in
theorem gX8_rules_X8_isGate : GoodIn wsX8_rules (wsV RX8 180 RX8 yX8_isGate wsX8_isGate) := goodIn_app (goodIn_of _ (by decide +kernel)) ggX8_rules_X8_isGate
set_option maxRecDepth 20000 in
theorem ggX8_rules_X8_isRow : GoodIn wsX8_rules wsX8_isRow := goodIn_r _ [13, 14, 15, 9, 16] (by decide +kernel) (by decide +kernel)
set_option maxRecDepth 20000 in
theorem gX8_rules_X8_isRow : GoodIn wsX8_rules (va_wsS RX8 60 yX8_isRow wsX8_isRow) := goodIn_app (goodIn_of _ (by decide +kernel)) ggX8_rules_X8_isRow
set_option maxRecDepth 20000 in
theorem ggX8_rules_X8_in : GoodIn wsX8_rules wsX8_in := goodIn_r _ [16] (by decide +kernel) (by decide +kernel)
set_option maxRecDepth 20000 in
theorem gX8_rules_X8_in : GoodIn wsX8_rules (va_wsS RX8 56 yX8_in wsX8_in) := goodIn_app (goodIn_of _ (by decide +kernel)) ggX8_rules_X8_in
set_option maxRecDepth 20000 in
theorem ggX8_rules_X8_isMissing : GoodIn wsX8_rules wsX8_isMissing := goodIn_r _ [20, 21, 22, 44, 45, 46, 47, 48, 49, 50, 51, 52, 53, 54, 55, 56, 57, 58, 59, 60, 61, 62, 63, 64, 65, 66] (by decide +kernel) (by decide +kernel)
set_option maxRecDepth 20000 in
theorem gX8_rules_X8_isMissing : GoodIn wsX8_rules (wsV RX8 72 RX8 yX8_isMissing wsX8_isMissing) := goodIn_app (goodIn_of _ (by decide +kernel)) ggX8_rules_X8_isMissing
set_option maxRecDepth 20000 in
theorem ggX8_rules_X8_found : GoodIn wsX8_rules wsX8_found := goodIn_r _ [26, 27, 28, 44, 45, 46, 47, 48, 49, 50, 51, 52, 53, 54, 55, 56, 57, 58, 59, 60, 61, 62, 63, 64, 65, 66] (by decide +kernel) (by decide +kernel)
set_option maxRecDepth 20000 in
theorem gX8_rules_X8_found : GoodIn wsX8_rules (wsV RX8 65 RX8 yX8_found wsX8_found) := goodIn_app (goodIn_of _ (by decide +kernel)) ggX8_rules_X8_found
set_option maxRecDepth 20000 in
theorem ggX8_rules_X8_isPart : GoodIn wsX8_rules wsX8_isPart := goodIn_r _ [32, 33, 44, 45, 46, 47, 48, 49, 50, 51, 52, 53, 54, 55, 56, 57, 58, 59, 60, 61, 62, 63, 64, 65, 66] (by decide +kernel) (by decide +kernel)
set_option maxRecDepth 20000 in
theorem gX8_rules_X8_isPart : GoodIn wsX8_rules (wsV RX8 79 RX8 yX8_isPart wsX8_isPart) := goodIn_app (goodIn_of _ (by decide +kernel)) ggX8_rules_X8_isPart
set_option maxRecDepth 20000 in
theorem ggX8_rules_X8_copies : GoodIn wsX8_rules wsX8_copies := goodIn_r _ [36] (by decide +kernel) (by decide +kernel)
set_option maxRecDepth 20000 in
theorem gX8_rules_X8_copies : GoodIn wsX8_rules (va_wsS RX8 145 yX8_copies wsX8_copies) := goodIn_app (goodIn_of _ (by decide +kernel)) ggX8_rules_X8_copies
set_option maxRecDepth 20000 in
theorem ggX8_rules_X8_secretOf : GoodIn wsX8_rules wsX8_secretOf := goodIn_r _ [39] (by decide +kernel) (by decide +kernel)
set_option maxRecDepth 20000 in
theorem gX8_rules_X8_secretOf : GoodIn wsX8_rules (va_wsS RX8 172 yX8_secretOf wsX8_secretOf) := goodIn_app (goodIn_of _ (by decide +kernel)) ggX8_rules_X8_secretOf
set_option maxRecDepth 20000 in
theorem ggX8_rules_X8_well : GoodIn wsX8_rules wsX8_well := goodIn_r _ [43, 27, 44, 45, 46, 47, 48, 49, 50, 51, 52, 53, 54, 55, 56, 57, 58, 59, 60, 61, 62, 63, 64, 65, 66] (by decide +kernel) (by decide +kernel)
set_option maxRecDepth 20000 in
theorem gX8_rules_X8_well : GoodIn wsX8_rules (wsV RX8 69 RX8 yX8_well wsX8_well) := goodIn_app (goodIn_of _ (by decide +kernel)) ggX8_rules_X8_well
theorem dX8_rules_0 : decode cX8_rules 0 = .ok (.aload_n 0, 1) := by decide +kernel
theorem dX8_rules_1 : decode cX8_rules 1 = .ok (.invokevirtual 180, 3) := by decide +kernel
theorem dX8_rules_4 : decode cX8_rules 4 = .ok (.ifCond .ne 6, 3) := by decide +kernel
theorem dX8_rules_7 : decode cX8_rules 7 = .ok (.ldc 183, 2) := by decide +kernel
theorem dX8_rules_9 : decode cX8_rules 9 = .ok (.ireturn, 1) := by decide +kernel
theorem dX8_rules_10 : decode cX8_rules 10 = .ok (.iload_n 1, 1) := by decide +kernel
theorem dX8_rules_11 : decode cX8_rules 11 = .ok (.invokestatic 60, 3) := by decide +kernel
theorem dX8_rules_14 : decode cX8_rules 14 = .ok (.ifCond .eq 23, 3) := by decide +kernel
theorem dX8_rules_17 : decode cX8_rules 17 = .ok (.iload_n 3, 1) := by decide +kernel
theorem dX8_rules_18 : decode cX8_rules 18 = .ok (.iconst 1, 1) := by decide +kernel
theorem dX8_rules_19 : decode cX8_rules 19 = .ok (.bipush 16, 2) := by decide +kernel
theorem dX8_rules_21 : decode cX8_rules 21 = .ok (.invokestatic 56, 3) := by decide +kernel
theorem dX8_rules_24 : decode cX8_rules 24 = .ok (.ifCond .eq 13, 3) := by decide +kernel
theorem dX8_rules_27 : decode cX8_rules 27 = .ok (.iload 4, 2) := by decide +kernel
theorem dX8_rules_29 : decode cX8_rules 29 = .ok (.iconst 0, 1) := by decide +kernel
theorem dX8_rules_30 : decode cX8_rules 30 = .ok (.iconst 2, 1) := by decide +kernel
theorem dX8_rules_31 : decode cX8_rules 31 = .ok (.invokestatic 56, 3) := by decide +kernel
theorem dX8_rules_34 : decode cX8_rules 34 = .ok (.ifCond .ne 6, 3) := by decide +kernel
theorem dX8_rules_37 : decode cX8_rules 37 = .ok (.ldc 64, 2) := by decide +kernel
theorem dX8_rules_39 : decode cX8_rules 39 = .ok (.ireturn, 1) := by decide +kernel
theorem dX8_rules_40 : decode cX8_rules 40 = .ok (.aload_n 0, 1) := by decide +kernel
theorem dX8_rules_41 : decode cX8_rules 41 = .ok (.iload_n 1, 1) := by decide +kernel
theorem dX8_rules_42 : decode cX8_rules 42 = .ok (.invokevirtual 72, 3) := by decide +kernel
theorem dX8_rules_45 : decode cX8_rules 45 = .ok (.ifCond .eq 9, 3) := by decide +kernel
theorem dX8_rules_48 : decode cX8_rules 48 = .ok (.aload_n 0, 1) := by decide +kernel
theorem dX8_rules_49 : decode cX8_rules 49 = .ok (.iconst 1, 1) := by decide +kernel
theorem dX8_rules_50 : decode cX8_rules 50 = .ok (.invokevirtual 65, 3) := by decide +kernel
theorem dX8_rules_53 : decode cX8_rules 53 = .ok (.ireturn, 1) := by decide +kernel
theorem dX8_rules_54 : decode cX8_rules 54 = .ok (.aload_n 0, 1) := by decide +kernel
theorem dX8_rules_55 : decode cX8_rules 55 = .ok (.iload_n 1, 1) := by decide +kernel
theorem dX8_rules_56 : decode cX8_rules 56 = .ok (.iload_n 2, 1) := by decide +kernel
theorem dX8_rules_57 : decode cX8_rules 57 = .ok (.iload_n 3, 1) := by decide +kernel
theorem dX8_rules_58 : decode cX8_rules 58 = .ok (.invokevirtual 79, 3) := by decide +kernel
theorem dX8_rules_61 : decode cX8_rules 61 = .ok (.ifCond .ne 9, 3) := by decide +kernel
theorem dX8_rules_64 : decode cX8_rules 64 = .ok (.aload_n 0, 1) := by decide +kernel
theorem dX8_rules_65 : decode cX8_rules 65 = .ok (.iconst 2, 1) := by decide +kernel
theorem dX8_rules_66 : decode cX8_rules 66 = .ok (.invokevirtual 65, 3) := by decide +kernel
theorem dX8_rules_69 : decode cX8_rules 69 = .ok (.ireturn, 1) := by decide +kernel
theorem dX8_rules_70 : decode cX8_rules 70 = .ok (.iconst 0, 1) := by decide +kernel
theorem dX8_rules_71 : decode cX8_rules 71 = .ok (.istore 5, 2) := by decide +kernel
theorem dX8_rules_73 : decode cX8_rules 73 = .ok (.iconst 0, 1) := by decide +kernel
theorem dX8_rules_74 : decode cX8_rules 74 = .ok (.istore 6, 2) := by decide +kernel
theorem dX8_rules_76 : decode cX8_rules 76 = .ok (.iload 6, 2) := by decide +kernel
theorem dX8_rules_78 : decode cX8_rules 78 = .ok (.iload 4, 2) := by decide +kernel
theorem dX8_rules_80 : decode cX8_rules 80 = .ok (.iconst 2, 1) := by decide +kernel
theorem dX8_rules_81 : decode cX8_rules 81 = .ok (.if_icmp .ne 8, 3) := by decide +kernel
theorem dX8_rules_84 : decode cX8_rules 84 = .ok (.bipush 6, 2) := by decide +kernel
theorem dX8_rules_86 : decode cX8_rules 86 = .ok (.goto 5, 3) := by decide +kernel
theorem dX8_rules_89 : decode cX8_rules 89 = .ok (.bipush 9, 2) := by decide +kernel
theorem dX8_rules_91 : decode cX8_rules 91 = .ok (.if_icmp .gt 112, 3) := by decide +kernel
theorem dX8_rules_94 : decode cX8_rules 94 = .ok (.aload_n 0, 1) := by decide +kernel
theorem dX8_rules_95 : decode cX8_rules 95 = .ok (.getfield 25, 3) := by decide +kernel
theorem dX8_rules_98 : decode cX8_rules 98 = .ok (.iconst 0, 1) := by decide +kernel
theorem dX8_rules_99 : decode cX8_rules 99 = .ok (.aload_n 0, 1) := by decide +kernel
theorem dX8_rules_100 : decode cX8_rules 100 = .ok (.getfield 31, 3) := by decide +kernel
theorem dX8_rules_103 : decode cX8_rules 103 = .ok (.iconst 0, 1) := by decide +kernel
theorem dX8_rules_104 : decode cX8_rules 104 = .ok (.invokestatic 145, 3) := by decide +kernel
theorem dX8_rules_107 : decode cX8_rules 107 = .ok (.aload_n 0, 1) := by decide +kernel
theorem dX8_rules_108 : decode cX8_rules 108 = .ok (.getfield 31, 3) := by decide +kernel
theorem dX8_rules_111 : decode cX8_rules 111 = .ok (.iload 4, 2) := by decide +kernel
theorem dX8_rules_113 : decode cX8_rules 113 = .ok (.iload 6, 2) := by decide +kernel
theorem dX8_rules_115 : decode cX8_rules 115 = .ok (.iastore, 1) := by decide +kernel
theorem dX8_rules_116 : decode cX8_rules 116 = .ok (.iconst 1, 1) := by decide +kernel
theorem dX8_rules_117 : decode cX8_rules 117 = .ok (.istore 7, 2) := by decide +kernel
theorem dX8_rules_119 : decode cX8_rules 119 = .ok (.iconst 0, 1) := by decide +kernel
theorem dX8_rules_120 : decode cX8_rules 120 = .ok (.istore 8, 2) := by decide +kernel
theorem dX8_rules_122 : decode cX8_rules 122 = .ok (.iload 8, 2) := by decide +kernel
theorem dX8_rules_124 : decode cX8_rules 124 = .ok (.iload_n 3, 1) := by decide +kernel
theorem dX8_rules_125 : decode cX8_rules 125 = .ok (.if_icmp .ge 54, 3) := by decide +kernel
theorem dX8_rules_128 : decode cX8_rules 128 = .ok (.iload 7, 2) := by decide +kernel
theorem dX8_rules_130 : decode cX8_rules 130 = .ok (.ifCond .eq 40, 3) := by decide +kernel
theorem dX8_rules_133 : decode cX8_rules 133 = .ok (.aload_n 0, 1) := by decide +kernel
theorem dX8_rules_134 : decode cX8_rules 134 = .ok (.getfield 31, 3) := by decide +kernel
theorem dX8_rules_137 : decode cX8_rules 137 = .ok (.aload_n 0, 1) := by decide +kernel
theorem dX8_rules_138 : decode cX8_rules 138 = .ok (.getfield 25, 3) := by decide +kernel
theorem dX8_rules_141 : decode cX8_rules 141 = .ok (.iconst 5, 1) := by decide +kernel
theorem dX8_rules_142 : decode cX8_rules 142 = .ok (.iaload, 1) := by decide +kernel
theorem dX8_rules_143 : decode cX8_rules 143 = .ok (.iload 8, 2) := by decide +kernel
theorem dX8_rules_145 : decode cX8_rules 145 = .ok (.iadd, 1) := by decide +kernel
theorem dX8_rules_146 : decode cX8_rules 146 = .ok (.invokestatic 172, 3) := by decide +kernel
theorem dX8_rules_149 : decode cX8_rules 149 = .ok (.aload_n 0, 1) := by decide +kernel
theorem dX8_rules_150 : decode cX8_rules 150 = .ok (.getfield 16, 3) := by decide +kernel
theorem dX8_rules_153 : decode cX8_rules 153 = .ok (.bipush 40, 2) := by decide +kernel
theorem dX8_rules_155 : decode cX8_rules 155 = .ok (.iload_n 1, 1) := by decide +kernel
theorem dX8_rules_156 : decode cX8_rules 156 = .ok (.imul, 1) := by decide +kernel
theorem dX8_rules_157 : decode cX8_rules 157 = .ok (.iload_n 2, 1) := by decide +kernel
theorem dX8_rules_158 : decode cX8_rules 158 = .ok (.iadd, 1) := by decide +kernel
theorem dX8_rules_159 : decode cX8_rules 159 = .ok (.iload 8, 2) := by decide +kernel
theorem dX8_rules_161 : decode cX8_rules 161 = .ok (.iadd, 1) := by decide +kernel
theorem dX8_rules_162 : decode cX8_rules 162 = .ok (.iaload, 1) := by decide +kernel
theorem dX8_rules_163 : decode cX8_rules 163 = .ok (.if_icmp .ne 7, 3) := by decide +kernel
theorem dX8_rules_166 : decode cX8_rules 166 = .ok (.iconst 1, 1) := by decide +kernel
theorem dX8_rules_167 : decode cX8_rules 167 = .ok (.goto 4, 3) := by decide +kernel
theorem dX8_rules_170 : decode cX8_rules 170 = .ok (.iconst 0, 1) := by decide +kernel
theorem dX8_rules_171 : decode cX8_rules 171 = .ok (.istore 7, 2) := by decide +kernel
theorem dX8_rules_173 : decode cX8_rules 173 = .ok (.iinc 8 1, 3) := by decide +kernel
theorem dX8_rules_176 : decode cX8_rules 176 = .ok (.goto (-54), 3) := by decide +kernel
theorem dX8_rules_179 : decode cX8_rules 179 = .ok (.iload 5, 2) := by decide +kernel
theorem dX8_rules_181 : decode cX8_rules 181 = .ok (.iload 7, 2) := by decide +kernel
theorem dX8_rules_183 : decode cX8_rules 183 = .ok (.ifCond .eq 10, 3) := by decide +kernel
theorem dX8_rules_186 : decode cX8_rules 186 = .ok (.iconst 1, 1) := by decide +kernel
theorem dX8_rules_187 : decode cX8_rules 187 = .ok (.iload 6, 2) := by decide +kernel
theorem dX8_rules_189 : decode cX8_rules 189 = .ok (.ishl, 1) := by decide +kernel
theorem dX8_rules_190 : decode cX8_rules 190 = .ok (.goto 4, 3) := by decide +kernel
theorem dX8_rules_193 : decode cX8_rules 193 = .ok (.iconst 0, 1) := by decide +kernel
theorem dX8_rules_194 : decode cX8_rules 194 = .ok (.ior, 1) := by decide +kernel
theorem dX8_rules_195 : decode cX8_rules 195 = .ok (.istore 5, 2) := by decide +kernel
theorem dX8_rules_197 : decode cX8_rules 197 = .ok (.iinc 6 1, 3) := by decide +kernel
theorem dX8_rules_200 : decode cX8_rules 200 = .ok (.goto (-124), 3) := by decide +kernel
theorem dX8_rules_203 : decode cX8_rules 203 = .ok (.aload_n 0, 1) := by decide +kernel
theorem dX8_rules_204 : decode cX8_rules 204 = .ok (.iload 5, 2) := by decide +kernel
theorem dX8_rules_206 : decode cX8_rules 206 = .ok (.invokevirtual 69, 3) := by decide +kernel
theorem dX8_rules_209 : decode cX8_rules 209 = .ok (.ireturn, 1) := by decide +kernel
set_option maxRecDepth 20000 in
theorem ggX8_takesSo_X8_takesBy : GoodIn wsX8_takesSo wsX8_takesBy := goodIn_r _ [7, 8, 9, 10, 6, 11, 1, 12, 13, 14, 15, 16, 17, 18, 19, 20, 21, 22, 23, 24, 25, 26, 27, 28, 29, 30, 31, 32, 33, 34, 35, 36, 37, 38] (by decide +kernel) (by decide +kernel)
set_option maxRecDepth 20000 in
theorem gX8_takesSo_X8_takesBy : GoodIn wsX8_takesSo (wsV RX8 168 RX8 yX8_takesBy wsX8_takesBy) := goodIn_app (goodIn_of _ (by decide +kernel)) ggX8_takesSo_X8_takesBy
theorem dX8_takesSo_0 : decode cX8_takesSo 0 = .ok (.iconst 1, 1) := by decide +kernel
theorem dX8_takesSo_1 : decode cX8_takesSo 1 = .ok (.istore 4, 2) := by decide +kernel
theorem dX8_takesSo_3 : decode cX8_takesSo 3 = .ok (.iconst 0, 1) := by decide +kernel
theorem dX8_takesSo_4 : decode cX8_takesSo 4 = .ok (.istore 5, 2) := by decide +kernel
theorem dX8_takesSo_6 : decode cX8_takesSo 6 = .ok (.iload 5, 2) := by decide +kernel
theorem dX8_takesSo_8 : decode cX8_takesSo 8 = .ok (.aload_n 0, 1) := by decide +kernel
theorem dX8_takesSo_9 : decode cX8_takesSo 9 = .ok (.getfield 25, 3) := by decide +kernel
theorem dX8_takesSo_12 : decode cX8_takesSo 12 = .ok (.iconst 3, 1) := by decide +kernel
theorem dX8_takesSo_13 : decode cX8_takesSo 13 = .ok (.iaload, 1) := by decide +kernel
theorem dX8_takesSo_14 : decode cX8_takesSo 14 = .ok (.if_icmp .ge 55, 3) := by decide +kernel
theorem dX8_takesSo_17 : decode cX8_takesSo 17 = .ok (.iload 4, 2) := by decide +kernel
theorem dX8_takesSo_19 : decode cX8_takesSo 19 = .ok (.ifCond .eq 41, 3) := by decide +kernel
theorem dX8_takesSo_22 : decode cX8_takesSo 22 = .ok (.aload_n 0, 1) := by decide +kernel
theorem dX8_takesSo_23 : decode cX8_takesSo 23 = .ok (.iload_n 1, 1) := by decide +kernel
theorem dX8_takesSo_24 : decode cX8_takesSo 24 = .ok (.iload 5, 2) := by decide +kernel
theorem dX8_takesSo_26 : decode cX8_takesSo 26 = .ok (.iload_n 2, 1) := by decide +kernel
theorem dX8_takesSo_27 : decode cX8_takesSo 27 = .ok (.aload_n 0, 1) := by decide +kernel
theorem dX8_takesSo_28 : decode cX8_takesSo 28 = .ok (.getfield 25, 3) := by decide +kernel
theorem dX8_takesSo_31 : decode cX8_takesSo 31 = .ok (.iconst 5, 1) := by decide +kernel
theorem dX8_takesSo_32 : decode cX8_takesSo 32 = .ok (.iaload, 1) := by decide +kernel
theorem dX8_takesSo_33 : decode cX8_takesSo 33 = .ok (.invokevirtual 168, 3) := by decide +kernel
theorem dX8_takesSo_36 : decode cX8_takesSo 36 = .ok (.ifCond .eq 7, 3) := by decide +kernel
theorem dX8_takesSo_39 : decode cX8_takesSo 39 = .ok (.iconst 1, 1) := by decide +kernel
theorem dX8_takesSo_40 : decode cX8_takesSo 40 = .ok (.goto 4, 3) := by decide +kernel
theorem dX8_takesSo_43 : decode cX8_takesSo 43 = .ok (.iconst 0, 1) := by decide +kernel
theorem dX8_takesSo_44 : decode cX8_takesSo 44 = .ok (.aload_n 0, 1) := by decide +kernel
theorem dX8_takesSo_45 : decode cX8_takesSo 45 = .ok (.getfield 16, 3) := by decide +kernel
theorem dX8_takesSo_48 : decode cX8_takesSo 48 = .ok (.iload_n 3, 1) := by decide +kernel
theorem dX8_takesSo_49 : decode cX8_takesSo 49 = .ok (.iload 5, 2) := by decide +kernel
theorem dX8_takesSo_51 : decode cX8_takesSo 51 = .ok (.iadd, 1) := by decide +kernel
theorem dX8_takesSo_52 : decode cX8_takesSo 52 = .ok (.iaload, 1) := by decide +kernel
theorem dX8_takesSo_53 : decode cX8_takesSo 53 = .ok (.if_icmp .ne 7, 3) := by decide +kernel
theorem dX8_takesSo_56 : decode cX8_takesSo 56 = .ok (.iconst 1, 1) := by decide +kernel
theorem dX8_takesSo_57 : decode cX8_takesSo 57 = .ok (.goto 4, 3) := by decide +kernel
theorem dX8_takesSo_60 : decode cX8_takesSo 60 = .ok (.iconst 0, 1) := by decide +kernel
theorem dX8_takesSo_61 : decode cX8_takesSo 61 = .ok (.istore 4, 2) := by decide +kernel
theorem dX8_takesSo_63 : decode cX8_takesSo 63 = .ok (.iinc 5 1, 3) := by decide +kernel
theorem dX8_takesSo_66 : decode cX8_takesSo 66 = .ok (.goto (-60), 3) := by decide +kernel
theorem dX8_takesSo_69 : decode cX8_takesSo 69 = .ok (.iload 4, 2) := by decide +kernel
theorem dX8_takesSo_71 : decode cX8_takesSo 71 = .ok (.ireturn, 1) := by decide +kernel
set_option maxRecDepth 20000 in
theorem ggX8_fits_X8_isGuard : GoodIn wsX8_fits wsX8_isGuard := goodIn_r _ [7, 2, 8, 9, 6, 10, 59, 60, 61, 62, 63, 64, 65, 66, 67, 68, 69, 70, 71, 72, 73, 74, 75, 76, 77, 78, 79, 80, 81] (by decide +kernel) (by decide +kernel)
set_option maxRecDepth 20000 in
theorem gX8_fits_X8_isGuard : GoodIn wsX8_fits (wsV RX8 199 RX8 yX8_isGuard wsX8_isGuard) := goodIn_app (goodIn_of _ (by decide +kernel)) ggX8_fits_X8_isGuard
set_option maxRecDepth 20000 in
theorem ggX8_fits_X8_isRow : GoodIn wsX8_fits wsX8_isRow := goodIn_r _ [13, 8, 9, 6, 10] (by decide +kernel) (by decide +kernel)
set_option maxRecDepth 20000 in
theorem gX8_fits_X8_isRow : GoodIn wsX8_fits (va_wsS RX8 60 yX8_isRow wsX8_isRow) := goodIn_app (goodIn_of _ (by decide +kernel)) ggX8_fits_X8_isRow
set_option maxRecDepth 20000 in
theorem ggX8_fits_X8_in : GoodIn wsX8_fits wsX8_in := goodIn_r _ [10] (by decide +kernel) (by decide +kernel)
set_option maxRecDepth 20000 in
theorem gX8_fits_X8_in : GoodIn wsX8_fits (va_wsS RX8 56 yX8_in wsX8_in) := goodIn_app (goodIn_of _ (by decide +kernel)) ggX8_fits_X8_in
set_option maxRecDepth 20000 in
theorem ggX8_fits_X8_isMissing : GoodIn wsX8_fits wsX8_isMissing := goodIn_r _ [17, 18, 19, 59, 60, 61, 62, 63, 64, 65, 66, 67, 68, 69, 70, 71, 72, 73, 74, 75, 76, 77, 78, 79, 80, 81] (by decide +kernel) (by decide +kernel)
set_option maxRecDepth 20000 in
theorem gX8_fits_X8_isMissing : GoodIn wsX8_fits (wsV RX8 72 RX8 yX8_isMissing wsX8_isMissing) := goodIn_app (goodIn_of _ (by decide +kernel)) ggX8_fits_X8_isMissing
set_option maxRecDepth 20000 in
theorem ggX8_fits_X8_found : GoodIn wsX8_fits wsX8_found := goodIn_r _ [23, 24, 25, 59, 60, 61, 62, 63, 64, 65, 66, 67, 68, 69, 70, 71, 72, 73, 74, 75, 76, 77, 78, 79, 80, 81] (by decide +kernel) (by decide +kernel)
set_option maxRecDepth 20000 in
theorem gX8_fits_X8_found : GoodIn wsX8_fits (wsV RX8 65 RX8 yX8_found wsX8_found) := goodIn_app (goodIn_of _ (by decide +kernel)) ggX8_fits_X8_found
set_option maxRecDepth 20000 in
theorem ggX8_fits_X8_isPart : GoodIn wsX8_fits wsX8_isPart := goodIn_r _ [29, 30, 59, 60, 61, 62, 63, 64, 65, 66, 67, 68, 69, 70, 71, 72, 73, 74, 75, 76, 77, 78, 79, 80, 81] (by decide +kernel) (by decide +kernel)
set_option maxRecDepth 20000 in
theorem gX8_fits_X8_isPart : GoodIn wsX8_fits (wsV RX8 79 RX8 yX8_isPart wsX8_isPart) := goodIn_app (goodIn_of _ (by decide +kernel)) ggX8_fits_X8_isPart
set_option maxRecDepth 20000 in
theorem ggX8_fits_X8_secretOf : GoodIn wsX8_fits wsX8_secretOf := goodIn_r _ [33] (by decide +kernel) (by decide +kernel)
set_option maxRecDepth 20000 in
theorem gX8_fits_X8_secretOf : GoodIn wsX8_fits (va_wsS RX8 172 yX8_secretOf wsX8_secretOf) := goodIn_app (goodIn_of _ (by decide +kernel)) ggX8_fits_X8_secretOf
set_option maxRecDepth 20000 in
theorem ggX8_fits_X8_takesSo : GoodIn wsX8_fits wsX8_takesSo := goodIn_r _ [37, 2, 38, 39, 40, 41, 6, 42, 43, 44, 45, 46, 47, 48, 49, 50, 59, 60, 61, 62, 63, 64, 65, 66, 67, 68, 69, 70, 71, 72, 73, 74, 75, 76, 77, 78, 79, 80, 81] (by decide +kernel) (by decide +kernel)
set_option maxRecDepth 20000 in
theorem gX8_fits_X8_takesSo : GoodIn wsX8_fits (wsV RX8 227 RX8 yX8_takesSo wsX8_takesSo) := goodIn_app (goodIn_of _ (by decide +kernel)) ggX8_fits_X8_takesSo
set_option maxRecDepth 20000 in
theorem ggX8_fits_X8_kindIn : GoodIn wsX8_fits wsX8_kindIn := goodIn_r _ [54, 2, 59, 60, 61, 62, 63, 64, 65, 66, 67, 68, 69, 70, 71, 72, 73, 74, 75, 76, 77, 78, 79, 80, 81] (by decide +kernel) (by decide +kernel)
set_option maxRecDepth 20000 in
theorem gX8_fits_X8_kindIn : GoodIn wsX8_fits (wsV RX8 165 RX8 yX8_kindIn wsX8_kindIn) := goodIn_app (goodIn_of _ (by decide +kernel)) ggX8_fits_X8_kindIn
set_option maxRecDepth 20000 in
theorem ggX8_fits_X8_well : GoodIn wsX8_fits wsX8_well := goodIn_r _ [58, 24, 59, 60, 61, 62, 63, 64, 65, 66, 67, 68, 69, 70, 71, 72, 73, 74, 75, 76, 77, 78, 79, 80, 81] (by decide +kernel) (by decide +kernel)
set_option maxRecDepth 20000 in
theorem gX8_fits_X8_well : GoodIn wsX8_fits (wsV RX8 69 RX8 yX8_well wsX8_well) := goodIn_app (goodIn_of _ (by decide +kernel)) ggX8_fits_X8_well
theorem dX8_fits_0 : decode cX8_fits 0 = .ok (.aload_n 0, 1) := by decide +kernel
theorem dX8_fits_1 : decode cX8_fits 1 = .ok (.iload_n 1, 1) := by decide +kernel
theorem dX8_fits_2 : decode cX8_fits 2 = .ok (.invokevirtual 199, 3) := by decide +kernel
theorem dX8_fits_5 : decode cX8_fits 5 = .ok (.ifCond .eq 20, 3) := by decide +kernel
theorem dX8_fits_8 : decode cX8_fits 8 = .ok (.iload_n 2, 1) := by decide +kernel
theorem dX8_fits_9 : decode cX8_fits 9 = .ok (.invokestatic 60, 3) := by decide +kernel
theorem dX8_fits_12 : decode cX8_fits 12 = .ok (.ifCond .eq 13, 3) := by decide +kernel
theorem dX8_fits_15 : decode cX8_fits 15 = .ok (.iload 4, 2) := by decide +kernel
theorem dX8_fits_17 : decode cX8_fits 17 = .ok (.iconst 0, 1) := by decide +kernel
theorem dX8_fits_18 : decode cX8_fits 18 = .ok (.iconst 1, 1) := by decide +kernel
theorem dX8_fits_19 : decode cX8_fits 19 = .ok (.invokestatic 56, 3) := by decide +kernel
theorem dX8_fits_22 : decode cX8_fits 22 = .ok (.ifCond .ne 6, 3) := by decide +kernel
theorem dX8_fits_25 : decode cX8_fits 25 = .ok (.ldc 64, 2) := by decide +kernel
theorem dX8_fits_27 : decode cX8_fits 27 = .ok (.ireturn, 1) := by decide +kernel
theorem dX8_fits_28 : decode cX8_fits 28 = .ok (.aload_n 0, 1) := by decide +kernel
theorem dX8_fits_29 : decode cX8_fits 29 = .ok (.iload_n 2, 1) := by decide +kernel
theorem dX8_fits_30 : decode cX8_fits 30 = .ok (.invokevirtual 72, 3) := by decide +kernel
theorem dX8_fits_33 : decode cX8_fits 33 = .ok (.ifCond .eq 9, 3) := by decide +kernel
theorem dX8_fits_36 : decode cX8_fits 36 = .ok (.aload_n 0, 1) := by decide +kernel
theorem dX8_fits_37 : decode cX8_fits 37 = .ok (.iconst 1, 1) := by decide +kernel
theorem dX8_fits_38 : decode cX8_fits 38 = .ok (.invokevirtual 65, 3) := by decide +kernel
theorem dX8_fits_41 : decode cX8_fits 41 = .ok (.ireturn, 1) := by decide +kernel
theorem dX8_fits_42 : decode cX8_fits 42 = .ok (.aload_n 0, 1) := by decide +kernel
theorem dX8_fits_43 : decode cX8_fits 43 = .ok (.iload_n 2, 1) := by decide +kernel
theorem dX8_fits_44 : decode cX8_fits 44 = .ok (.iload_n 3, 1) := by decide +kernel
theorem dX8_fits_45 : decode cX8_fits 45 = .ok (.aload_n 0, 1) := by decide +kernel
theorem dX8_fits_46 : decode cX8_fits 46 = .ok (.getfield 25, 3) := by decide +kernel
theorem dX8_fits_49 : decode cX8_fits 49 = .ok (.iconst 3, 1) := by decide +kernel
theorem dX8_fits_50 : decode cX8_fits 50 = .ok (.iaload, 1) := by decide +kernel
theorem dX8_fits_51 : decode cX8_fits 51 = .ok (.invokevirtual 79, 3) := by decide +kernel
theorem dX8_fits_54 : decode cX8_fits 54 = .ok (.ifCond .ne 9, 3) := by decide +kernel
theorem dX8_fits_57 : decode cX8_fits 57 = .ok (.aload_n 0, 1) := by decide +kernel
theorem dX8_fits_58 : decode cX8_fits 58 = .ok (.iconst 2, 1) := by decide +kernel
theorem dX8_fits_59 : decode cX8_fits 59 = .ok (.invokevirtual 65, 3) := by decide +kernel
theorem dX8_fits_62 : decode cX8_fits 62 = .ok (.ireturn, 1) := by decide +kernel
theorem dX8_fits_63 : decode cX8_fits 63 = .ok (.bipush 40, 2) := by decide +kernel
theorem dX8_fits_65 : decode cX8_fits 65 = .ok (.iload_n 2, 1) := by decide +kernel
theorem dX8_fits_66 : decode cX8_fits 66 = .ok (.imul, 1) := by decide +kernel
theorem dX8_fits_67 : decode cX8_fits 67 = .ok (.iload_n 3, 1) := by decide +kernel
theorem dX8_fits_68 : decode cX8_fits 68 = .ok (.iadd, 1) := by decide +kernel
theorem dX8_fits_69 : decode cX8_fits 69 = .ok (.istore 5, 2) := by decide +kernel
theorem dX8_fits_71 : decode cX8_fits 71 = .ok (.iconst 0, 1) := by decide +kernel
theorem dX8_fits_72 : decode cX8_fits 72 = .ok (.istore 6, 2) := by decide +kernel
theorem dX8_fits_74 : decode cX8_fits 74 = .ok (.iconst 1, 1) := by decide +kernel
theorem dX8_fits_75 : decode cX8_fits 75 = .ok (.istore 7, 2) := by decide +kernel
theorem dX8_fits_77 : decode cX8_fits 77 = .ok (.iload 7, 2) := by decide +kernel
theorem dX8_fits_79 : decode cX8_fits 79 = .ok (.bipush 6, 2) := by decide +kernel
theorem dX8_fits_81 : decode cX8_fits 81 = .ok (.if_icmp .ge 51, 3) := by decide +kernel
theorem dX8_fits_84 : decode cX8_fits 84 = .ok (.iload 4, 2) := by decide +kernel
theorem dX8_fits_86 : decode cX8_fits 86 = .ok (.ifCond .ne 46, 3) := by decide +kernel
theorem dX8_fits_89 : decode cX8_fits 89 = .ok (.iload 6, 2) := by decide +kernel
theorem dX8_fits_91 : decode cX8_fits 91 = .ok (.aload_n 0, 1) := by decide +kernel
theorem dX8_fits_92 : decode cX8_fits 92 = .ok (.iload 7, 2) := by decide +kernel
theorem dX8_fits_94 : decode cX8_fits 94 = .ok (.aload_n 0, 1) := by decide +kernel
theorem dX8_fits_95 : decode cX8_fits 95 = .ok (.getfield 25, 3) := by decide +kernel
theorem dX8_fits_98 : decode cX8_fits 98 = .ok (.aload_n 0, 1) := by decide +kernel
theorem dX8_fits_99 : decode cX8_fits 99 = .ok (.getfield 25, 3) := by decide +kernel
theorem dX8_fits_102 : decode cX8_fits 102 = .ok (.iconst 5, 1) := by decide +kernel
theorem dX8_fits_103 : decode cX8_fits 103 = .ok (.iaload, 1) := by decide +kernel
theorem dX8_fits_104 : decode cX8_fits 104 = .ok (.invokestatic 172, 3) := by decide +kernel
theorem dX8_fits_107 : decode cX8_fits 107 = .ok (.iload 5, 2) := by decide +kernel
theorem dX8_fits_109 : decode cX8_fits 109 = .ok (.invokevirtual 227, 3) := by decide +kernel
theorem dX8_fits_112 : decode cX8_fits 112 = .ok (.ifCond .eq 10, 3) := by decide +kernel
theorem dX8_fits_115 : decode cX8_fits 115 = .ok (.iconst 1, 1) := by decide +kernel
theorem dX8_fits_116 : decode cX8_fits 116 = .ok (.iload 7, 2) := by decide +kernel
theorem dX8_fits_118 : decode cX8_fits 118 = .ok (.ishl, 1) := by decide +kernel
theorem dX8_fits_119 : decode cX8_fits 119 = .ok (.goto 4, 3) := by decide +kernel
theorem dX8_fits_122 : decode cX8_fits 122 = .ok (.iconst 0, 1) := by decide +kernel
theorem dX8_fits_123 : decode cX8_fits 123 = .ok (.ior, 1) := by decide +kernel
theorem dX8_fits_124 : decode cX8_fits 124 = .ok (.istore 6, 2) := by decide +kernel
theorem dX8_fits_126 : decode cX8_fits 126 = .ok (.iinc 7 1, 3) := by decide +kernel
theorem dX8_fits_129 : decode cX8_fits 129 = .ok (.goto (-52), 3) := by decide +kernel
theorem dX8_fits_132 : decode cX8_fits 132 = .ok (.iconst 0, 1) := by decide +kernel
theorem dX8_fits_133 : decode cX8_fits 133 = .ok (.istore 7, 2) := by decide +kernel
theorem dX8_fits_135 : decode cX8_fits 135 = .ok (.iload 7, 2) := by decide +kernel
theorem dX8_fits_137 : decode cX8_fits 137 = .ok (.aload_n 0, 1) := by decide +kernel
theorem dX8_fits_138 : decode cX8_fits 138 = .ok (.getfield 25, 3) := by decide +kernel
theorem dX8_fits_141 : decode cX8_fits 141 = .ok (.iconst 3, 1) := by decide +kernel
theorem dX8_fits_142 : decode cX8_fits 142 = .ok (.iaload, 1) := by decide +kernel
theorem dX8_fits_143 : decode cX8_fits 143 = .ok (.if_icmp .ge 44, 3) := by decide +kernel
theorem dX8_fits_146 : decode cX8_fits 146 = .ok (.iload 4, 2) := by decide +kernel
theorem dX8_fits_148 : decode cX8_fits 148 = .ok (.iconst 1, 1) := by decide +kernel
theorem dX8_fits_149 : decode cX8_fits 149 = .ok (.if_icmp .ne 38, 3) := by decide +kernel
theorem dX8_fits_152 : decode cX8_fits 152 = .ok (.iload 6, 2) := by decide +kernel
theorem dX8_fits_154 : decode cX8_fits 154 = .ok (.aload_n 0, 1) := by decide +kernel
theorem dX8_fits_155 : decode cX8_fits 155 = .ok (.aload_n 0, 1) := by decide +kernel
theorem dX8_fits_156 : decode cX8_fits 156 = .ok (.iload_n 1, 1) := by decide +kernel
theorem dX8_fits_157 : decode cX8_fits 157 = .ok (.invokevirtual 165, 3) := by decide +kernel
theorem dX8_fits_160 : decode cX8_fits 160 = .ok (.iload 7, 2) := by decide +kernel
theorem dX8_fits_162 : decode cX8_fits 162 = .ok (.iload 5, 2) := by decide +kernel
theorem dX8_fits_164 : decode cX8_fits 164 = .ok (.invokevirtual 227, 3) := by decide +kernel
theorem dX8_fits_167 : decode cX8_fits 167 = .ok (.ifCond .eq 10, 3) := by decide +kernel
theorem dX8_fits_170 : decode cX8_fits 170 = .ok (.iconst 1, 1) := by decide +kernel
theorem dX8_fits_171 : decode cX8_fits 171 = .ok (.iload 7, 2) := by decide +kernel
theorem dX8_fits_173 : decode cX8_fits 173 = .ok (.ishl, 1) := by decide +kernel
theorem dX8_fits_174 : decode cX8_fits 174 = .ok (.goto 4, 3) := by decide +kernel
theorem dX8_fits_177 : decode cX8_fits 177 = .ok (.iconst 0, 1) := by decide +kernel
theorem dX8_fits_178 : decode cX8_fits 178 = .ok (.ior, 1) := by decide +kernel
theorem dX8_fits_179 : decode cX8_fits 179 = .ok (.istore 6, 2) := by decide +kernel
theorem dX8_fits_181 : decode cX8_fits 181 = .ok (.iinc 7 1, 3) := by decide +kernel
theorem dX8_fits_184 : decode cX8_fits 184 = .ok (.goto (-49), 3) := by decide +kernel
theorem dX8_fits_187 : decode cX8_fits 187 = .ok (.aload_n 0, 1) := by decide +kernel
theorem dX8_fits_188 : decode cX8_fits 188 = .ok (.iload 6, 2) := by decide +kernel
theorem dX8_fits_190 : decode cX8_fits 190 = .ok (.invokevirtual 69, 3) := by decide +kernel
theorem dX8_fits_193 : decode cX8_fits 193 = .ok (.ireturn, 1) := by decide +kernel
set_option maxRecDepth 20000 in
theorem ggX8_sure_X8_isWord : GoodIn wsX8_sure wsX8_isWord := goodIn_r _ [6, 7, 8, 9, 5, 10, 52, 53, 54, 55, 56, 57, 58, 59, 60, 61, 62, 63, 64, 65, 66, 67, 68, 69, 70, 71, 72, 73, 74] (by decide +kernel) (by decide +kernel)
set_option maxRecDepth 20000 in
theorem gX8_sure_X8_isWord : GoodIn wsX8_sure (wsV RX8 190 RX8 yX8_isWord wsX8_isWord) := goodIn_app (goodIn_of _ (by decide +kernel)) ggX8_sure_X8_isWord
set_option maxRecDepth 20000 in
theorem ggX8_sure_X8_isHour : GoodIn wsX8_sure wsX8_isHour := goodIn_r _ [13, 8, 9, 5, 10] (by decide +kernel) (by decide +kernel)
set_option maxRecDepth 20000 in
theorem gX8_sure_X8_isHour : GoodIn wsX8_sure (va_wsS RX8 193 yX8_isHour wsX8_isHour) := goodIn_app (goodIn_of _ (by decide +kernel)) ggX8_sure_X8_isHour
set_option maxRecDepth 20000 in
theorem ggX8_sure_X8_in : GoodIn wsX8_sure wsX8_in := goodIn_r _ [10] (by decide +kernel) (by decide +kernel)
set_option maxRecDepth 20000 in
theorem gX8_sure_X8_in : GoodIn wsX8_sure (va_wsS RX8 56 yX8_in wsX8_in) := goodIn_app (goodIn_of _ (by decide +kernel)) ggX8_sure_X8_in
set_option maxRecDepth 20000 in
theorem ggX8_sure_X8_agreeing : GoodIn wsX8_sure wsX8_agreeing := goodIn_r _ [17, 7, 18, 19, 20, 5, 21, 22, 23, 24, 25, 26, 27, 28, 29, 30, 31, 32, 33, 52, 53, 54, 55, 56, 57, 58, 59, 60, 61, 62, 63, 64, 65, 66, 67, 68, 69, 70, 71, 72, 73, 74] (by decide +kernel) (by decide +kernel)
set_option maxRecDepth 20000 in
theorem gX8_sure_X8_agreeing : GoodIn wsX8_sure (wsV RX8 214 RX8 yX8_agreeing wsX8_agreeing) := goodIn_app (goodIn_of _ (by decide +kernel)) ggX8_sure_X8_agreeing
set_option maxRecDepth 20000 in
theorem ggX8_sure_X8_takenOf : GoodIn wsX8_sure wsX8_takenOf := goodIn_r _ [37, 7, 38, 39, 5, 40, 41, 42, 43, 44, 45, 46, 47, 48, 18, 19, 20, 21, 22, 23, 24, 25, 26, 27, 28, 29, 30, 31, 32, 33, 52, 53, 54, 55, 56, 57, 58, 59, 60, 61, 62, 63, 64, 65, 66, 67, 68, 69, 70, 71, 72, 73, 74] (by decide +kernel) (by decide +kernel)
set_option maxRecDepth 20000 in
theorem gX8_sure_X8_takenOf : GoodIn wsX8_sure (wsV RX8 220 RX8 yX8_takenOf wsX8_takenOf) := goodIn_app (goodIn_of _ (by decide +kernel)) ggX8_sure_X8_takenOf
set_option maxRecDepth 20000 in
theorem ggX8_sure_X8_ones : GoodIn wsX8_sure wsX8_ones := goodIn_r _ [51] (by decide +kernel) (by decide +kernel)
set_option maxRecDepth 20000 in
theorem gX8_sure_X8_ones : GoodIn wsX8_sure (va_wsS RX8 217 yX8_ones wsX8_ones) := goodIn_app (goodIn_of _ (by decide +kernel)) ggX8_sure_X8_ones
theorem dX8_sure_0 : decode cX8_sure 0 = .ok (.aload_n 0, 1) := by decide +kernel
theorem dX8_sure_1 : decode cX8_sure 1 = .ok (.iload_n 1, 1) := by decide +kernel
theorem dX8_sure_2 : decode cX8_sure 2 = .ok (.invokevirtual 190, 3) := by decide +kernel
theorem dX8_sure_5 : decode cX8_sure 5 = .ok (.ifCond .eq 30, 3) := by decide +kernel
theorem dX8_sure_8 : decode cX8_sure 8 = .ok (.iload_n 2, 1) := by decide +kernel
theorem dX8_sure_9 : decode cX8_sure 9 = .ok (.invokestatic 193, 3) := by decide +kernel
theorem dX8_sure_12 : decode cX8_sure 12 = .ok (.ifCond .eq 23, 3) := by decide +kernel
theorem dX8_sure_15 : decode cX8_sure 15 = .ok (.iload_n 3, 1) := by decide +kernel
theorem dX8_sure_16 : decode cX8_sure 16 = .ok (.iconst 0, 1) := by decide +kernel
theorem dX8_sure_17 : decode cX8_sure 17 = .ok (.bipush 10, 2) := by decide +kernel
theorem dX8_sure_19 : decode cX8_sure 19 = .ok (.invokestatic 56, 3) := by decide +kernel
theorem dX8_sure_22 : decode cX8_sure 22 = .ok (.ifCond .eq 13, 3) := by decide +kernel
theorem dX8_sure_25 : decode cX8_sure 25 = .ok (.iload 4, 2) := by decide +kernel
theorem dX8_sure_27 : decode cX8_sure 27 = .ok (.iconst 0, 1) := by decide +kernel
theorem dX8_sure_28 : decode cX8_sure 28 = .ok (.iconst 1, 1) := by decide +kernel
theorem dX8_sure_29 : decode cX8_sure 29 = .ok (.invokestatic 56, 3) := by decide +kernel
theorem dX8_sure_32 : decode cX8_sure 32 = .ok (.ifCond .ne 6, 3) := by decide +kernel
theorem dX8_sure_35 : decode cX8_sure 35 = .ok (.ldc 64, 2) := by decide +kernel
theorem dX8_sure_37 : decode cX8_sure 37 = .ok (.ireturn, 1) := by decide +kernel
theorem dX8_sure_38 : decode cX8_sure 38 = .ok (.aload_n 0, 1) := by decide +kernel
theorem dX8_sure_39 : decode cX8_sure 39 = .ok (.invokevirtual 214, 3) := by decide +kernel
theorem dX8_sure_42 : decode cX8_sure 42 = .ok (.istore 5, 2) := by decide +kernel
theorem dX8_sure_44 : decode cX8_sure 44 = .ok (.aload_n 0, 1) := by decide +kernel
theorem dX8_sure_45 : decode cX8_sure 45 = .ok (.iload 5, 2) := by decide +kernel
theorem dX8_sure_47 : decode cX8_sure 47 = .ok (.iload_n 1, 1) := by decide +kernel
theorem dX8_sure_48 : decode cX8_sure 48 = .ok (.iload_n 2, 1) := by decide +kernel
theorem dX8_sure_49 : decode cX8_sure 49 = .ok (.invokevirtual 220, 3) := by decide +kernel
theorem dX8_sure_52 : decode cX8_sure 52 = .ok (.invokestatic 217, 3) := by decide +kernel
theorem dX8_sure_55 : decode cX8_sure 55 = .ok (.istore 6, 2) := by decide +kernel
theorem dX8_sure_57 : decode cX8_sure 57 = .ok (.iload 6, 2) := by decide +kernel
theorem dX8_sure_59 : decode cX8_sure 59 = .ok (.iload_n 3, 1) := by decide +kernel
theorem dX8_sure_60 : decode cX8_sure 60 = .ok (.imul, 1) := by decide +kernel
theorem dX8_sure_61 : decode cX8_sure 61 = .ok (.iload 5, 2) := by decide +kernel
theorem dX8_sure_63 : decode cX8_sure 63 = .ok (.invokestatic 217, 3) := by decide +kernel
theorem dX8_sure_66 : decode cX8_sure 66 = .ok (.iload 6, 2) := by decide +kernel
theorem dX8_sure_68 : decode cX8_sure 68 = .ok (.isub, 1) := by decide +kernel
theorem dX8_sure_69 : decode cX8_sure 69 = .ok (.bipush 10, 2) := by decide +kernel
theorem dX8_sure_71 : decode cX8_sure 71 = .ok (.imul, 1) := by decide +kernel
theorem dX8_sure_72 : decode cX8_sure 72 = .ok (.iadd, 1) := by decide +kernel
theorem dX8_sure_73 : decode cX8_sure 73 = .ok (.istore 7, 2) := by decide +kernel
theorem dX8_sure_75 : decode cX8_sure 75 = .ok (.iload 5, 2) := by decide +kernel
theorem dX8_sure_77 : decode cX8_sure 77 = .ok (.ifCond .ne 7, 3) := by decide +kernel
theorem dX8_sure_80 : decode cX8_sure 80 = .ok (.iconst 1, 1) := by decide +kernel
theorem dX8_sure_81 : decode cX8_sure 81 = .ok (.goto 11, 3) := by decide +kernel
theorem dX8_sure_84 : decode cX8_sure 84 = .ok (.bipush 10, 2) := by decide +kernel
theorem dX8_sure_86 : decode cX8_sure 86 = .ok (.iload 5, 2) := by decide +kernel
theorem dX8_sure_88 : decode cX8_sure 88 = .ok (.invokestatic 217, 3) := by decide +kernel
theorem dX8_sure_91 : decode cX8_sure 91 = .ok (.imul, 1) := by decide +kernel
theorem dX8_sure_92 : decode cX8_sure 92 = .ok (.istore 8, 2) := by decide +kernel
theorem dX8_sure_94 : decode cX8_sure 94 = .ok (.iload 7, 2) := by decide +kernel
theorem dX8_sure_96 : decode cX8_sure 96 = .ok (.istore 9, 2) := by decide +kernel
theorem dX8_sure_98 : decode cX8_sure 98 = .ok (.iload 8, 2) := by decide +kernel
theorem dX8_sure_100 : decode cX8_sure 100 = .ok (.istore 10, 2) := by decide +kernel
theorem dX8_sure_102 : decode cX8_sure 102 = .ok (.iload 10, 2) := by decide +kernel
theorem dX8_sure_104 : decode cX8_sure 104 = .ok (.ifCond .eq 21, 3) := by decide +kernel
theorem dX8_sure_107 : decode cX8_sure 107 = .ok (.iload 9, 2) := by decide +kernel
theorem dX8_sure_109 : decode cX8_sure 109 = .ok (.iload 10, 2) := by decide +kernel
theorem dX8_sure_111 : decode cX8_sure 111 = .ok (.irem, 1) := by decide +kernel
theorem dX8_sure_112 : decode cX8_sure 112 = .ok (.istore 11, 2) := by decide +kernel
theorem dX8_sure_114 : decode cX8_sure 114 = .ok (.iload 10, 2) := by decide +kernel
theorem dX8_sure_116 : decode cX8_sure 116 = .ok (.istore 9, 2) := by decide +kernel
theorem dX8_sure_118 : decode cX8_sure 118 = .ok (.iload 11, 2) := by decide +kernel
theorem dX8_sure_120 : decode cX8_sure 120 = .ok (.istore 10, 2) := by decide +kernel
theorem dX8_sure_122 : decode cX8_sure 122 = .ok (.goto (-20), 3) := by decide +kernel
theorem dX8_sure_125 : decode cX8_sure 125 = .ok (.iload 4, 2) := by decide +kernel
theorem dX8_sure_127 : decode cX8_sure 127 = .ok (.ifCond .ne 8, 3) := by decide +kernel
theorem dX8_sure_130 : decode cX8_sure 130 = .ok (.iload 7, 2) := by decide +kernel
theorem dX8_sure_132 : decode cX8_sure 132 = .ok (.goto 5, 3) := by decide +kernel
theorem dX8_sure_135 : decode cX8_sure 135 = .ok (.iload 8, 2) := by decide +kernel
theorem dX8_sure_137 : decode cX8_sure 137 = .ok (.iload 9, 2) := by decide +kernel
theorem dX8_sure_139 : decode cX8_sure 139 = .ok (.idiv, 1) := by decide +kernel
theorem dX8_sure_140 : decode cX8_sure 140 = .ok (.ireturn, 1) := by decide +kernel
set_option maxRecDepth 20000 in
theorem ggX8_drawn_X8_isGate : GoodIn wsX8_drawn wsX8_isGate := goodIn_r _ [12, 6, 53, 54, 55, 56, 57, 58, 59, 60, 61, 62, 63, 64, 65, 66, 67, 68, 69, 70, 71, 72, 73, 74, 75] (by decide +kernel) (by decide +kernel)
set_option maxRecDepth 20000 in
theorem gX8_drawn_X8_isGate : GoodIn wsX8_drawn (wsV RX8 180 RX8 yX8_isGate wsX8_isGate) := goodIn_app (goodIn_of _ (by decide +kernel)) ggX8_drawn_X8_isGate
set_option maxRecDepth 20000 in
theorem ggX8_drawn_X8_isFar : GoodIn wsX8_drawn wsX8_isFar := goodIn_r _ [15, 16, 17, 11, 18] (by decide +kernel) (by decide +kernel)
set_option maxRecDepth 20000 in
theorem gX8_drawn_X8_isFar : GoodIn wsX8_drawn (va_wsS RX8 205 yX8_isFar wsX8_isFar) := goodIn_app (goodIn_of _ (by decide +kernel)) ggX8_drawn_X8_isFar
set_option maxRecDepth 20000 in
theorem ggX8_drawn_X8_in : GoodIn wsX8_drawn wsX8_in := goodIn_r _ [18] (by decide +kernel) (by decide +kernel)
set_option maxRecDepth 20000 in
theorem gX8_drawn_X8_in : GoodIn wsX8_drawn (va_wsS RX8 56 yX8_in wsX8_in) := goodIn_app (goodIn_of _ (by decide +kernel)) ggX8_drawn_X8_in
set_option maxRecDepth 20000 in
theorem ggX8_drawn_X8_isTakenNow : GoodIn wsX8_drawn wsX8_isTakenNow := goodIn_r _ [22, 6, 23, 24, 11, 25, 26, 27, 28, 29, 30, 31, 32, 33, 34, 35, 36, 37, 38, 39, 40, 41, 42, 43, 44, 45, 46, 47, 48, 49, 50, 51, 52, 53, 54, 55, 56, 57, 58, 59, 60, 61, 62, 63, 64, 65, 66, 67, 68, 69, 70, 71, 72, 73, 74, 75] (by decide +kernel) (by decide +kernel)
set_option maxRecDepth 20000 in
theorem gX8_drawn_X8_isTakenNow : GoodIn wsX8_drawn (wsV RX8 196 RX8 yX8_isTakenNow wsX8_isTakenNow) := goodIn_app (goodIn_of _ (by decide +kernel)) ggX8_drawn_X8_isTakenNow
theorem dX8_drawn_0 : decode cX8_drawn 0 = .ok (.aload_n 0, 1) := by decide +kernel
theorem dX8_drawn_1 : decode cX8_drawn 1 = .ok (.invokevirtual 180, 3) := by decide +kernel
theorem dX8_drawn_4 : decode cX8_drawn 4 = .ok (.ifCond .ne 6, 3) := by decide +kernel
theorem dX8_drawn_7 : decode cX8_drawn 7 = .ok (.ldc 183, 2) := by decide +kernel
theorem dX8_drawn_9 : decode cX8_drawn 9 = .ok (.ireturn, 1) := by decide +kernel
theorem dX8_drawn_10 : decode cX8_drawn 10 = .ok (.iload_n 1, 1) := by decide +kernel
theorem dX8_drawn_11 : decode cX8_drawn 11 = .ok (.invokestatic 205, 3) := by decide +kernel
theorem dX8_drawn_14 : decode cX8_drawn 14 = .ok (.ifCond .eq 22, 3) := by decide +kernel
theorem dX8_drawn_17 : decode cX8_drawn 17 = .ok (.iload_n 2, 1) := by decide +kernel
theorem dX8_drawn_18 : decode cX8_drawn 18 = .ok (.iconst 1, 1) := by decide +kernel
theorem dX8_drawn_19 : decode cX8_drawn 19 = .ok (.ldc 230, 2) := by decide +kernel
theorem dX8_drawn_21 : decode cX8_drawn 21 = .ok (.invokestatic 56, 3) := by decide +kernel
theorem dX8_drawn_24 : decode cX8_drawn 24 = .ok (.ifCond .eq 12, 3) := by decide +kernel
theorem dX8_drawn_27 : decode cX8_drawn 27 = .ok (.iload_n 3, 1) := by decide +kernel
theorem dX8_drawn_28 : decode cX8_drawn 28 = .ok (.iconst 0, 1) := by decide +kernel
theorem dX8_drawn_29 : decode cX8_drawn 29 = .ok (.iconst 1, 1) := by decide +kernel
theorem dX8_drawn_30 : decode cX8_drawn 30 = .ok (.invokestatic 56, 3) := by decide +kernel
theorem dX8_drawn_33 : decode cX8_drawn 33 = .ok (.ifCond .ne 6, 3) := by decide +kernel
theorem dX8_drawn_36 : decode cX8_drawn 36 = .ok (.ldc 64, 2) := by decide +kernel
theorem dX8_drawn_38 : decode cX8_drawn 38 = .ok (.ireturn, 1) := by decide +kernel
theorem dX8_drawn_39 : decode cX8_drawn 39 = .ok (.iload_n 2, 1) := by decide +kernel
theorem dX8_drawn_40 : decode cX8_drawn 40 = .ok (.i2l, 1) := by decide +kernel
theorem dX8_drawn_41 : decode cX8_drawn 41 = .ok (.lstore 4, 2) := by decide +kernel
theorem dX8_drawn_43 : decode cX8_drawn 43 = .ok (.iconst 0, 1) := by decide +kernel
theorem dX8_drawn_44 : decode cX8_drawn 44 = .ok (.istore 6, 2) := by decide +kernel
theorem dX8_drawn_46 : decode cX8_drawn 46 = .ok (.iconst 0, 1) := by decide +kernel
theorem dX8_drawn_47 : decode cX8_drawn 47 = .ok (.istore 7, 2) := by decide +kernel
theorem dX8_drawn_49 : decode cX8_drawn 49 = .ok (.iconst 0, 1) := by decide +kernel
theorem dX8_drawn_50 : decode cX8_drawn 50 = .ok (.istore 8, 2) := by decide +kernel
theorem dX8_drawn_52 : decode cX8_drawn 52 = .ok (.iload 8, 2) := by decide +kernel
theorem dX8_drawn_54 : decode cX8_drawn 54 = .ok (.iload_n 1, 1) := by decide +kernel
theorem dX8_drawn_55 : decode cX8_drawn 55 = .ok (.if_icmp .ge 84, 3) := by decide +kernel
theorem dX8_drawn_58 : decode cX8_drawn 58 = .ok (.lload 4, 2) := by decide +kernel
theorem dX8_drawn_60 : decode cX8_drawn 60 = .ok (.ldc2_w 231, 3) := by decide +kernel
theorem dX8_drawn_63 : decode cX8_drawn 63 = .ok (.lmul, 1) := by decide +kernel
theorem dX8_drawn_64 : decode cX8_drawn 64 = .ok (.ldc2_w 233, 3) := by decide +kernel
theorem dX8_drawn_67 : decode cX8_drawn 67 = .ok (.lrem, 1) := by decide +kernel
theorem dX8_drawn_68 : decode cX8_drawn 68 = .ok (.lstore 4, 2) := by decide +kernel
theorem dX8_drawn_70 : decode cX8_drawn 70 = .ok (.lload 4, 2) := by decide +kernel
theorem dX8_drawn_72 : decode cX8_drawn 72 = .ok (.aload_n 0, 1) := by decide +kernel
theorem dX8_drawn_73 : decode cX8_drawn 73 = .ok (.getfield 25, 3) := by decide +kernel
theorem dX8_drawn_76 : decode cX8_drawn 76 = .ok (.iconst 3, 1) := by decide +kernel
theorem dX8_drawn_77 : decode cX8_drawn 77 = .ok (.iaload, 1) := by decide +kernel
theorem dX8_drawn_78 : decode cX8_drawn 78 = .ok (.i2l, 1) := by decide +kernel
theorem dX8_drawn_79 : decode cX8_drawn 79 = .ok (.lrem, 1) := by decide +kernel
theorem dX8_drawn_80 : decode cX8_drawn 80 = .ok (.l2i, 1) := by decide +kernel
theorem dX8_drawn_81 : decode cX8_drawn 81 = .ok (.istore 9, 2) := by decide +kernel
theorem dX8_drawn_83 : decode cX8_drawn 83 = .ok (.aload_n 0, 1) := by decide +kernel
