set_option maxRecDepth 20000 in
theorem gX8_as_X8_in : GoodIn wsX8_as (va_wsS RX8 56 yX8_in wsX8_in) := goodIn_app (goodIn_of _ (by decide +kernel)) ggX8_as_X8_in
set_option maxRecDepth 20000 in
theorem ggX8_as_X8_kindIn : GoodIn wsX8_as wsX8_kindIn := goodIn_r _ [14, 7, 25, 26, 27, 28, 29, 30, 31, 32, 33, 34, 35, 36, 37, 38, 39, 40, 41, 42, 43, 44, 45, 46, 47] (by decide +kernel) (by decide +kernel)
set_option maxRecDepth 20000 in
theorem gX8_as_X8_kindIn : GoodIn wsX8_as (wsV RX8 165 RX8 yX8_kindIn wsX8_kindIn) := goodIn_app (goodIn_of _ (by decide +kernel)) ggX8_as_X8_kindIn
set_option maxRecDepth 20000 in
theorem ggX8_as_X8_well : GoodIn wsX8_as wsX8_well := goodIn_r _ [18, 19, 25, 26, 27, 28, 29, 30, 31, 32, 33, 34, 35, 36, 37, 38, 39, 40, 41, 42, 43, 44, 45, 46, 47] (by decide +kernel) (by decide +kernel)
set_option maxRecDepth 20000 in
theorem gX8_as_X8_well : GoodIn wsX8_as (wsV RX8 69 RX8 yX8_well wsX8_well) := goodIn_app (goodIn_of _ (by decide +kernel)) ggX8_as_X8_well
set_option maxRecDepth 20000 in
theorem ggX8_as_X8_found : GoodIn wsX8_as wsX8_found := goodIn_r _ [23, 19, 24, 25, 26, 27, 28, 29, 30, 31, 32, 33, 34, 35, 36, 37, 38, 39, 40, 41, 42, 43, 44, 45, 46, 47] (by decide +kernel) (by decide +kernel)
set_option maxRecDepth 20000 in
theorem gX8_as_X8_found : GoodIn wsX8_as (wsV RX8 65 RX8 yX8_found wsX8_found) := goodIn_app (goodIn_of _ (by decide +kernel)) ggX8_as_X8_found
theorem dX8_as_0 : decode cX8_as 0 = .ok (.aload_n 0, 1) := by decide +kernel
theorem dX8_as_1 : decode cX8_as 1 = .ok (.iload_n 1, 1) := by decide +kernel
theorem dX8_as_2 : decode cX8_as 2 = .ok (.invokevirtual 199, 3) := by decide +kernel
theorem dX8_as_5 : decode cX8_as 5 = .ok (.ifCond .eq 12, 3) := by decide +kernel
theorem dX8_as_8 : decode cX8_as 8 = .ok (.iload_n 2, 1) := by decide +kernel
theorem dX8_as_9 : decode cX8_as 9 = .ok (.iconst 0, 1) := by decide +kernel
theorem dX8_as_10 : decode cX8_as 10 = .ok (.iconst 5, 1) := by decide +kernel
theorem dX8_as_11 : decode cX8_as 11 = .ok (.invokestatic 56, 3) := by decide +kernel
theorem dX8_as_14 : decode cX8_as 14 = .ok (.ifCond .ne 6, 3) := by decide +kernel
theorem dX8_as_17 : decode cX8_as 17 = .ok (.ldc 64, 2) := by decide +kernel
theorem dX8_as_19 : decode cX8_as 19 = .ok (.ireturn, 1) := by decide +kernel
theorem dX8_as_20 : decode cX8_as 20 = .ok (.aload_n 0, 1) := by decide +kernel
theorem dX8_as_21 : decode cX8_as 21 = .ok (.iload_n 1, 1) := by decide +kernel
theorem dX8_as_22 : decode cX8_as 22 = .ok (.invokevirtual 165, 3) := by decide +kernel
theorem dX8_as_25 : decode cX8_as 25 = .ok (.istore_n 3, 1) := by decide +kernel
theorem dX8_as_26 : decode cX8_as 26 = .ok (.iload_n 2, 1) := by decide +kernel
theorem dX8_as_27 : decode cX8_as 27 = .ok (.ifCond .eq 28, 3) := by decide +kernel
theorem dX8_as_30 : decode cX8_as 30 = .ok (.iload_n 2, 1) := by decide +kernel
theorem dX8_as_31 : decode cX8_as 31 = .ok (.iload_n 3, 1) := by decide +kernel
theorem dX8_as_32 : decode cX8_as 32 = .ok (.if_icmp .eq 23, 3) := by decide +kernel
theorem dX8_as_35 : decode cX8_as 35 = .ok (.iload_n 2, 1) := by decide +kernel
theorem dX8_as_36 : decode cX8_as 36 = .ok (.iconst 1, 1) := by decide +kernel
theorem dX8_as_37 : decode cX8_as 37 = .ok (.if_icmp .ne 8, 3) := by decide +kernel
theorem dX8_as_40 : decode cX8_as 40 = .ok (.iload_n 3, 1) := by decide +kernel
theorem dX8_as_41 : decode cX8_as 41 = .ok (.iconst 4, 1) := by decide +kernel
theorem dX8_as_42 : decode cX8_as 42 = .ok (.if_icmp .lt 13, 3) := by decide +kernel
theorem dX8_as_45 : decode cX8_as 45 = .ok (.iload_n 2, 1) := by decide +kernel
theorem dX8_as_46 : decode cX8_as 46 = .ok (.iconst 4, 1) := by decide +kernel
theorem dX8_as_47 : decode cX8_as 47 = .ok (.if_icmp .ne 12, 3) := by decide +kernel
theorem dX8_as_50 : decode cX8_as 50 = .ok (.iload_n 3, 1) := by decide +kernel
theorem dX8_as_51 : decode cX8_as 51 = .ok (.iconst 5, 1) := by decide +kernel
theorem dX8_as_52 : decode cX8_as 52 = .ok (.if_icmp .ne 7, 3) := by decide +kernel
theorem dX8_as_55 : decode cX8_as 55 = .ok (.iconst 1, 1) := by decide +kernel
theorem dX8_as_56 : decode cX8_as 56 = .ok (.goto 4, 3) := by decide +kernel
theorem dX8_as_59 : decode cX8_as 59 = .ok (.iconst 0, 1) := by decide +kernel
theorem dX8_as_60 : decode cX8_as 60 = .ok (.istore 4, 2) := by decide +kernel
theorem dX8_as_62 : decode cX8_as 62 = .ok (.iload 4, 2) := by decide +kernel
theorem dX8_as_64 : decode cX8_as 64 = .ok (.ifCond .eq 11, 3) := by decide +kernel
theorem dX8_as_67 : decode cX8_as 67 = .ok (.aload_n 0, 1) := by decide +kernel
theorem dX8_as_68 : decode cX8_as 68 = .ok (.iload_n 1, 1) := by decide +kernel
theorem dX8_as_69 : decode cX8_as 69 = .ok (.invokevirtual 69, 3) := by decide +kernel
theorem dX8_as_72 : decode cX8_as 72 = .ok (.goto 8, 3) := by decide +kernel
theorem dX8_as_75 : decode cX8_as 75 = .ok (.aload_n 0, 1) := by decide +kernel
theorem dX8_as_76 : decode cX8_as 76 = .ok (.iconst 3, 1) := by decide +kernel
theorem dX8_as_77 : decode cX8_as 77 = .ok (.invokevirtual 65, 3) := by decide +kernel
theorem dX8_as_80 : decode cX8_as 80 = .ok (.ireturn, 1) := by decide +kernel
theorem dX8_begins_0 : decode cX8_begins 0 = .ok (.aload_n 0, 1) := by decide +kernel
theorem dX8_begins_1 : decode cX8_begins 1 = .ok (.getfield 237, 3) := by decide +kernel
theorem dX8_begins_4 : decode cX8_begins 4 = .ok (.bipush 16, 2) := by decide +kernel
theorem dX8_begins_6 : decode cX8_begins 6 = .ok (.if_icmp .ge 23, 3) := by decide +kernel
theorem dX8_begins_9 : decode cX8_begins 9 = .ok (.aload_n 0, 1) := by decide +kernel
theorem dX8_begins_10 : decode cX8_begins 10 = .ok (.getfield 47, 3) := by decide +kernel
theorem dX8_begins_13 : decode cX8_begins 13 = .ok (.aload_n 0, 1) := by decide +kernel
theorem dX8_begins_14 : decode cX8_begins 14 = .ok (.getfield 237, 3) := by decide +kernel
theorem dX8_begins_17 : decode cX8_begins 17 = .ok (.iload_n 1, 1) := by decide +kernel
theorem dX8_begins_18 : decode cX8_begins 18 = .ok (.iastore, 1) := by decide +kernel
theorem dX8_begins_19 : decode cX8_begins 19 = .ok (.aload_n 0, 1) := by decide +kernel
theorem dX8_begins_20 : decode cX8_begins 20 = .ok (.dup, 1) := by decide +kernel
theorem dX8_begins_21 : decode cX8_begins 21 = .ok (.getfield 237, 3) := by decide +kernel
theorem dX8_begins_24 : decode cX8_begins 24 = .ok (.iconst 1, 1) := by decide +kernel
theorem dX8_begins_25 : decode cX8_begins 25 = .ok (.iadd, 1) := by decide +kernel
theorem dX8_begins_26 : decode cX8_begins 26 = .ok (.putfield 237, 3) := by decide +kernel
theorem dX8_begins_29 : decode cX8_begins 29 = .ok (.return_, 1) := by decide +kernel
set_option maxRecDepth 20000 in
theorem ggX8_keenMark_X8_kindIn : GoodIn wsX8_keenMark wsX8_kindIn := goodIn_r _ [6, 1, 13, 14, 15, 16, 17, 18, 19, 20, 21, 22, 23, 24, 25, 26, 27, 28, 29, 30, 31, 32, 33, 34, 35] (by decide +kernel) (by decide +kernel)
set_option maxRecDepth 20000 in
theorem gX8_keenMark_X8_kindIn : GoodIn wsX8_keenMark (wsV RX8 165 RX8 yX8_kindIn wsX8_kindIn) := goodIn_app (goodIn_of _ (by decide +kernel)) ggX8_keenMark_X8_kindIn
set_option maxRecDepth 20000 in
theorem ggX8_keenMark_X8_begins : GoodIn wsX8_keenMark wsX8_begins := goodIn_r _ [10, 11, 12, 13, 14, 15, 16, 17, 18, 19, 20, 21, 22, 23, 24, 25, 26, 27, 28, 29, 30, 31, 32, 33, 34, 35] (by decide +kernel) (by decide +kernel)
set_option maxRecDepth 20000 in
theorem gX8_keenMark_X8_begins : GoodIn wsX8_keenMark (wsV RX8 240 RX8 yX8_begins wsX8_begins) := goodIn_app (goodIn_of _ (by decide +kernel)) ggX8_keenMark_X8_begins
theorem dX8_keenMark_0 : decode cX8_keenMark 0 = .ok (.aload_n 0, 1) := by decide +kernel
theorem dX8_keenMark_1 : decode cX8_keenMark 1 = .ok (.iload_n 1, 1) := by decide +kernel
theorem dX8_keenMark_2 : decode cX8_keenMark 2 = .ok (.invokevirtual 165, 3) := by decide +kernel
theorem dX8_keenMark_5 : decode cX8_keenMark 5 = .ok (.istore_n 2, 1) := by decide +kernel
theorem dX8_keenMark_6 : decode cX8_keenMark 6 = .ok (.iload_n 2, 1) := by decide +kernel
theorem dX8_keenMark_7 : decode cX8_keenMark 7 = .ok (.iconst 1, 1) := by decide +kernel
theorem dX8_keenMark_8 : decode cX8_keenMark 8 = .ok (.if_icmp .eq 19, 3) := by decide +kernel
theorem dX8_keenMark_11 : decode cX8_keenMark 11 = .ok (.aload_n 0, 1) := by decide +kernel
theorem dX8_keenMark_12 : decode cX8_keenMark 12 = .ok (.iload_n 2, 1) := by decide +kernel
theorem dX8_keenMark_13 : decode cX8_keenMark 13 = .ok (.iconst 2, 1) := by decide +kernel
theorem dX8_keenMark_14 : decode cX8_keenMark 14 = .ok (.if_icmp .ne 8, 3) := by decide +kernel
theorem dX8_keenMark_17 : decode cX8_keenMark 17 = .ok (.bipush 24, 2) := by decide +kernel
theorem dX8_keenMark_19 : decode cX8_keenMark 19 = .ok (.goto 5, 3) := by decide +kernel
theorem dX8_keenMark_22 : decode cX8_keenMark 22 = .ok (.bipush 22, 2) := by decide +kernel
theorem dX8_keenMark_24 : decode cX8_keenMark 24 = .ok (.invokevirtual 240, 3) := by decide +kernel
theorem dX8_keenMark_27 : decode cX8_keenMark 27 = .ok (.aload_n 0, 1) := by decide +kernel
theorem dX8_keenMark_28 : decode cX8_keenMark 28 = .ok (.bipush 21, 2) := by decide +kernel
theorem dX8_keenMark_30 : decode cX8_keenMark 30 = .ok (.invokevirtual 240, 3) := by decide +kernel
theorem dX8_keenMark_33 : decode cX8_keenMark 33 = .ok (.aload_n 0, 1) := by decide +kernel
theorem dX8_keenMark_34 : decode cX8_keenMark 34 = .ok (.bipush 20, 2) := by decide +kernel
theorem dX8_keenMark_36 : decode cX8_keenMark 36 = .ok (.invokevirtual 240, 3) := by decide +kernel
theorem dX8_keenMark_39 : decode cX8_keenMark 39 = .ok (.iload_n 1, 1) := by decide +kernel
theorem dX8_keenMark_40 : decode cX8_keenMark 40 = .ok (.aload_n 0, 1) := by decide +kernel
theorem dX8_keenMark_41 : decode cX8_keenMark 41 = .ok (.getfield 25, 3) := by decide +kernel
theorem dX8_keenMark_44 : decode cX8_keenMark 44 = .ok (.bipush 26, 2) := by decide +kernel
theorem dX8_keenMark_46 : decode cX8_keenMark 46 = .ok (.iconst 3, 1) := by decide +kernel
theorem dX8_keenMark_47 : decode cX8_keenMark 47 = .ok (.iload_n 1, 1) := by decide +kernel
theorem dX8_keenMark_48 : decode cX8_keenMark 48 = .ok (.imul, 1) := by decide +kernel
theorem dX8_keenMark_49 : decode cX8_keenMark 49 = .ok (.iadd, 1) := by decide +kernel
theorem dX8_keenMark_50 : decode cX8_keenMark 50 = .ok (.iconst 2, 1) := by decide +kernel
theorem dX8_keenMark_51 : decode cX8_keenMark 51 = .ok (.iadd, 1) := by decide +kernel
theorem dX8_keenMark_52 : decode cX8_keenMark 52 = .ok (.iaload, 1) := by decide +kernel
theorem dX8_keenMark_53 : decode cX8_keenMark 53 = .ok (.iadd, 1) := by decide +kernel
theorem dX8_keenMark_54 : decode cX8_keenMark 54 = .ok (.istore_n 3, 1) := by decide +kernel
theorem dX8_keenMark_55 : decode cX8_keenMark 55 = .ok (.iload_n 2, 1) := by decide +kernel
theorem dX8_keenMark_56 : decode cX8_keenMark 56 = .ok (.iconst 2, 1) := by decide +kernel
theorem dX8_keenMark_57 : decode cX8_keenMark 57 = .ok (.if_icmp .ne 9, 3) := by decide +kernel
theorem dX8_keenMark_60 : decode cX8_keenMark 60 = .ok (.iconst 2, 1) := by decide +kernel
theorem dX8_keenMark_61 : decode cX8_keenMark 61 = .ok (.iload_n 3, 1) := by decide +kernel
theorem dX8_keenMark_62 : decode cX8_keenMark 62 = .ok (.imul, 1) := by decide +kernel
theorem dX8_keenMark_63 : decode cX8_keenMark 63 = .ok (.goto 17, 3) := by decide +kernel
theorem dX8_keenMark_66 : decode cX8_keenMark 66 = .ok (.iload_n 2, 1) := by decide +kernel
theorem dX8_keenMark_67 : decode cX8_keenMark 67 = .ok (.iconst 3, 1) := by decide +kernel
theorem dX8_keenMark_68 : decode cX8_keenMark 68 = .ok (.if_icmp .ne 11, 3) := by decide +kernel
theorem dX8_keenMark_71 : decode cX8_keenMark 71 = .ok (.iload_n 3, 1) := by decide +kernel
theorem dX8_keenMark_72 : decode cX8_keenMark 72 = .ok (.sipush 1000, 3) := by decide +kernel
theorem dX8_keenMark_75 : decode cX8_keenMark 75 = .ok (.isub, 1) := by decide +kernel
theorem dX8_keenMark_76 : decode cX8_keenMark 76 = .ok (.goto 4, 3) := by decide +kernel
theorem dX8_keenMark_79 : decode cX8_keenMark 79 = .ok (.iload_n 3, 1) := by decide +kernel
theorem dX8_keenMark_80 : decode cX8_keenMark 80 = .ok (.ireturn, 1) := by decide +kernel
set_option maxRecDepth 20000 in
theorem ggX8_deafSize_X8_kindIn : GoodIn wsX8_deafSize wsX8_kindIn := goodIn_r _ [6, 1, 13, 14, 15, 16, 17, 18, 19, 20, 21, 22, 23, 24, 25, 26, 27, 28, 29, 30, 31, 32, 33, 34, 35] (by decide +kernel) (by decide +kernel)
set_option maxRecDepth 20000 in
theorem gX8_deafSize_X8_kindIn : GoodIn wsX8_deafSize (wsV RX8 165 RX8 yX8_kindIn wsX8_kindIn) := goodIn_app (goodIn_of _ (by decide +kernel)) ggX8_deafSize_X8_kindIn
set_option maxRecDepth 20000 in
theorem ggX8_deafSize_X8_begins : GoodIn wsX8_deafSize wsX8_begins := goodIn_r _ [10, 11, 12, 13, 14, 15, 16, 17, 18, 19, 20, 21, 22, 23, 24, 25, 26, 27, 28, 29, 30, 31, 32, 33, 34, 35] (by decide +kernel) (by decide +kernel)
set_option maxRecDepth 20000 in
theorem gX8_deafSize_X8_begins : GoodIn wsX8_deafSize (wsV RX8 240 RX8 yX8_begins wsX8_begins) := goodIn_app (goodIn_of _ (by decide +kernel)) ggX8_deafSize_X8_begins
theorem dX8_deafSize_0 : decode cX8_deafSize 0 = .ok (.aload_n 0, 1) := by decide +kernel
theorem dX8_deafSize_1 : decode cX8_deafSize 1 = .ok (.iload_n 1, 1) := by decide +kernel
theorem dX8_deafSize_2 : decode cX8_deafSize 2 = .ok (.invokevirtual 165, 3) := by decide +kernel
theorem dX8_deafSize_5 : decode cX8_deafSize 5 = .ok (.iconst 5, 1) := by decide +kernel
theorem dX8_deafSize_6 : decode cX8_deafSize 6 = .ok (.if_icmp .ne 7, 3) := by decide +kernel
theorem dX8_deafSize_9 : decode cX8_deafSize 9 = .ok (.iconst 1, 1) := by decide +kernel
theorem dX8_deafSize_10 : decode cX8_deafSize 10 = .ok (.goto 4, 3) := by decide +kernel
theorem dX8_deafSize_13 : decode cX8_deafSize 13 = .ok (.iconst 0, 1) := by decide +kernel
theorem dX8_deafSize_14 : decode cX8_deafSize 14 = .ok (.istore_n 2, 1) := by decide +kernel
theorem dX8_deafSize_15 : decode cX8_deafSize 15 = .ok (.iload_n 2, 1) := by decide +kernel
theorem dX8_deafSize_16 : decode cX8_deafSize 16 = .ok (.ifCond .eq 9, 3) := by decide +kernel
theorem dX8_deafSize_19 : decode cX8_deafSize 19 = .ok (.aload_n 0, 1) := by decide +kernel
theorem dX8_deafSize_20 : decode cX8_deafSize 20 = .ok (.bipush 14, 2) := by decide +kernel
theorem dX8_deafSize_22 : decode cX8_deafSize 22 = .ok (.invokevirtual 240, 3) := by decide +kernel
theorem dX8_deafSize_25 : decode cX8_deafSize 25 = .ok (.aload_n 0, 1) := by decide +kernel
theorem dX8_deafSize_26 : decode cX8_deafSize 26 = .ok (.bipush 13, 2) := by decide +kernel
theorem dX8_deafSize_28 : decode cX8_deafSize 28 = .ok (.invokevirtual 240, 3) := by decide +kernel
theorem dX8_deafSize_31 : decode cX8_deafSize 31 = .ok (.aload_n 0, 1) := by decide +kernel
theorem dX8_deafSize_32 : decode cX8_deafSize 32 = .ok (.bipush 10, 2) := by decide +kernel
theorem dX8_deafSize_34 : decode cX8_deafSize 34 = .ok (.invokevirtual 240, 3) := by decide +kernel
theorem dX8_deafSize_37 : decode cX8_deafSize 37 = .ok (.aload_n 0, 1) := by decide +kernel
theorem dX8_deafSize_38 : decode cX8_deafSize 38 = .ok (.getfield 25, 3) := by decide +kernel
theorem dX8_deafSize_41 : decode cX8_deafSize 41 = .ok (.bipush 26, 2) := by decide +kernel
theorem dX8_deafSize_43 : decode cX8_deafSize 43 = .ok (.iconst 3, 1) := by decide +kernel
theorem dX8_deafSize_44 : decode cX8_deafSize 44 = .ok (.iload_n 1, 1) := by decide +kernel
theorem dX8_deafSize_45 : decode cX8_deafSize 45 = .ok (.imul, 1) := by decide +kernel
theorem dX8_deafSize_46 : decode cX8_deafSize 46 = .ok (.iadd, 1) := by decide +kernel
theorem dX8_deafSize_47 : decode cX8_deafSize 47 = .ok (.iconst 1, 1) := by decide +kernel
theorem dX8_deafSize_48 : decode cX8_deafSize 48 = .ok (.iadd, 1) := by decide +kernel
theorem dX8_deafSize_49 : decode cX8_deafSize 49 = .ok (.iaload, 1) := by decide +kernel
theorem dX8_deafSize_50 : decode cX8_deafSize 50 = .ok (.bipush 100, 2) := by decide +kernel
theorem dX8_deafSize_52 : decode cX8_deafSize 52 = .ok (.isub, 1) := by decide +kernel
theorem dX8_deafSize_53 : decode cX8_deafSize 53 = .ok (.istore_n 3, 1) := by decide +kernel
theorem dX8_deafSize_54 : decode cX8_deafSize 54 = .ok (.iload_n 2, 1) := by decide +kernel
theorem dX8_deafSize_55 : decode cX8_deafSize 55 = .ok (.ifCond .eq 9, 3) := by decide +kernel
theorem dX8_deafSize_58 : decode cX8_deafSize 58 = .ok (.iconst 2, 1) := by decide +kernel
theorem dX8_deafSize_59 : decode cX8_deafSize 59 = .ok (.iload_n 3, 1) := by decide +kernel
theorem dX8_deafSize_60 : decode cX8_deafSize 60 = .ok (.imul, 1) := by decide +kernel
theorem dX8_deafSize_61 : decode cX8_deafSize 61 = .ok (.goto 4, 3) := by decide +kernel
theorem dX8_deafSize_64 : decode cX8_deafSize 64 = .ok (.iload_n 3, 1) := by decide +kernel
theorem dX8_deafSize_65 : decode cX8_deafSize 65 = .ok (.ireturn, 1) := by decide +kernel
set_option maxRecDepth 20000 in
theorem ggX8_keenSize_X8_kindIn : GoodIn wsX8_keenSize wsX8_kindIn := goodIn_r _ [6, 1, 17, 18, 19, 20, 21, 22, 23, 24, 25, 26, 27, 28, 29, 30, 31, 32, 33, 34, 35, 36, 37, 38, 39] (by decide +kernel) (by decide +kernel)
set_option maxRecDepth 20000 in
theorem gX8_keenSize_X8_kindIn : GoodIn wsX8_keenSize (wsV RX8 165 RX8 yX8_kindIn wsX8_kindIn) := goodIn_app (goodIn_of _ (by decide +kernel)) ggX8_keenSize_X8_kindIn
set_option maxRecDepth 20000 in
theorem ggX8_keenSize_X8_begins : GoodIn wsX8_keenSize wsX8_begins := goodIn_r _ [10, 11, 12, 17, 18, 19, 20, 21, 22, 23, 24, 25, 26, 27, 28, 29, 30, 31, 32, 33, 34, 35, 36, 37, 38, 39] (by decide +kernel) (by decide +kernel)
set_option maxRecDepth 20000 in
theorem gX8_keenSize_X8_begins : GoodIn wsX8_keenSize (wsV RX8 240 RX8 yX8_begins wsX8_begins) := goodIn_app (goodIn_of _ (by decide +kernel)) ggX8_keenSize_X8_begins
set_option maxRecDepth 20000 in
theorem ggX8_keenSize_X8_keenMark : GoodIn wsX8_keenSize wsX8_keenMark := goodIn_r _ [16, 1, 2, 3, 4, 5, 6, 7, 8, 9, 10, 11, 12, 17, 18, 19, 20, 21, 22, 23, 24, 25, 26, 27, 28, 29, 30, 31, 32, 33, 34, 35, 36, 37, 38, 39] (by decide +kernel) (by decide +kernel)
set_option maxRecDepth 20000 in
theorem gX8_keenSize_X8_keenMark : GoodIn wsX8_keenSize (wsV RX8 244 RX8 yX8_keenMark wsX8_keenMark) := goodIn_app (goodIn_of _ (by decide +kernel)) ggX8_keenSize_X8_keenMark
theorem dX8_keenSize_0 : decode cX8_keenSize 0 = .ok (.aload_n 0, 1) := by decide +kernel
theorem dX8_keenSize_1 : decode cX8_keenSize 1 = .ok (.iload_n 1, 1) := by decide +kernel
theorem dX8_keenSize_2 : decode cX8_keenSize 2 = .ok (.invokevirtual 165, 3) := by decide +kernel
theorem dX8_keenSize_5 : decode cX8_keenSize 5 = .ok (.iconst 2, 1) := by decide +kernel
theorem dX8_keenSize_6 : decode cX8_keenSize 6 = .ok (.if_icmp .ne 7, 3) := by decide +kernel
theorem dX8_keenSize_9 : decode cX8_keenSize 9 = .ok (.iconst 1, 1) := by decide +kernel
theorem dX8_keenSize_10 : decode cX8_keenSize 10 = .ok (.goto 4, 3) := by decide +kernel
theorem dX8_keenSize_13 : decode cX8_keenSize 13 = .ok (.iconst 0, 1) := by decide +kernel
theorem dX8_keenSize_14 : decode cX8_keenSize 14 = .ok (.istore_n 2, 1) := by decide +kernel
theorem dX8_keenSize_15 : decode cX8_keenSize 15 = .ok (.iload_n 2, 1) := by decide +kernel
theorem dX8_keenSize_16 : decode cX8_keenSize 16 = .ok (.ifCond .eq 9, 3) := by decide +kernel
theorem dX8_keenSize_19 : decode cX8_keenSize 19 = .ok (.aload_n 0, 1) := by decide +kernel
theorem dX8_keenSize_20 : decode cX8_keenSize 20 = .ok (.bipush 12, 2) := by decide +kernel
theorem dX8_keenSize_22 : decode cX8_keenSize 22 = .ok (.invokevirtual 240, 3) := by decide +kernel
theorem dX8_keenSize_25 : decode cX8_keenSize 25 = .ok (.aload_n 0, 1) := by decide +kernel
theorem dX8_keenSize_26 : decode cX8_keenSize 26 = .ok (.bipush 11, 2) := by decide +kernel
theorem dX8_keenSize_28 : decode cX8_keenSize 28 = .ok (.invokevirtual 240, 3) := by decide +kernel
theorem dX8_keenSize_31 : decode cX8_keenSize 31 = .ok (.aload_n 0, 1) := by decide +kernel
theorem dX8_keenSize_32 : decode cX8_keenSize 32 = .ok (.bipush 10, 2) := by decide +kernel
theorem dX8_keenSize_34 : decode cX8_keenSize 34 = .ok (.invokevirtual 240, 3) := by decide +kernel
theorem dX8_keenSize_37 : decode cX8_keenSize 37 = .ok (.aload_n 0, 1) := by decide +kernel
theorem dX8_keenSize_38 : decode cX8_keenSize 38 = .ok (.getfield 25, 3) := by decide +kernel
theorem dX8_keenSize_41 : decode cX8_keenSize 41 = .ok (.bipush 26, 2) := by decide +kernel
theorem dX8_keenSize_43 : decode cX8_keenSize 43 = .ok (.iconst 3, 1) := by decide +kernel
theorem dX8_keenSize_44 : decode cX8_keenSize 44 = .ok (.iload_n 1, 1) := by decide +kernel
theorem dX8_keenSize_45 : decode cX8_keenSize 45 = .ok (.imul, 1) := by decide +kernel
theorem dX8_keenSize_46 : decode cX8_keenSize 46 = .ok (.iadd, 1) := by decide +kernel
theorem dX8_keenSize_47 : decode cX8_keenSize 47 = .ok (.iconst 1, 1) := by decide +kernel
theorem dX8_keenSize_48 : decode cX8_keenSize 48 = .ok (.iadd, 1) := by decide +kernel
theorem dX8_keenSize_49 : decode cX8_keenSize 49 = .ok (.iaload, 1) := by decide +kernel
theorem dX8_keenSize_50 : decode cX8_keenSize 50 = .ok (.aload_n 0, 1) := by decide +kernel
theorem dX8_keenSize_51 : decode cX8_keenSize 51 = .ok (.iload_n 1, 1) := by decide +kernel
theorem dX8_keenSize_52 : decode cX8_keenSize 52 = .ok (.invokevirtual 244, 3) := by decide +kernel
theorem dX8_keenSize_55 : decode cX8_keenSize 55 = .ok (.iadd, 1) := by decide +kernel
theorem dX8_keenSize_56 : decode cX8_keenSize 56 = .ok (.istore_n 3, 1) := by decide +kernel
theorem dX8_keenSize_57 : decode cX8_keenSize 57 = .ok (.iload_n 2, 1) := by decide +kernel
theorem dX8_keenSize_58 : decode cX8_keenSize 58 = .ok (.ifCond .eq 8, 3) := by decide +kernel
theorem dX8_keenSize_61 : decode cX8_keenSize 61 = .ok (.iload_n 3, 1) := by decide +kernel
theorem dX8_keenSize_62 : decode cX8_keenSize 62 = .ok (.ineg, 1) := by decide +kernel
theorem dX8_keenSize_63 : decode cX8_keenSize 63 = .ok (.goto 4, 3) := by decide +kernel
theorem dX8_keenSize_66 : decode cX8_keenSize 66 = .ok (.iload_n 3, 1) := by decide +kernel
theorem dX8_keenSize_67 : decode cX8_keenSize 67 = .ok (.ireturn, 1) := by decide +kernel
set_option maxRecDepth 20000 in
theorem ggX8_deafMark_X8_begins : GoodIn wsX8_deafMark wsX8_begins := goodIn_r _ [5, 6, 7, 17, 18, 19, 20, 21, 22, 23, 24, 25, 26, 27, 28, 29, 30, 31, 32, 33, 34, 35, 36, 37, 38, 39] (by decide +kernel) (by decide +kernel)
set_option maxRecDepth 20000 in
theorem gX8_deafMark_X8_begins : GoodIn wsX8_deafMark (wsV RX8 240 RX8 yX8_begins wsX8_begins) := goodIn_app (goodIn_of _ (by decide +kernel)) ggX8_deafMark_X8_begins
set_option maxRecDepth 20000 in
theorem ggX8_deafMark_X8_deafSize : GoodIn wsX8_deafMark wsX8_deafSize := goodIn_r _ [11, 12, 13, 14, 15, 4, 16, 1, 2, 3, 5, 6, 7, 17, 18, 19, 20, 21, 22, 23, 24, 25, 26, 27, 28, 29, 30, 31, 32, 33, 34, 35, 36, 37, 38, 39] (by decide +kernel) (by decide +kernel)
set_option maxRecDepth 20000 in
theorem gX8_deafMark_X8_deafSize : GoodIn wsX8_deafMark (wsV RX8 247 RX8 yX8_deafSize wsX8_deafSize) := goodIn_app (goodIn_of _ (by decide +kernel)) ggX8_deafMark_X8_deafSize
theorem dX8_deafMark_0 : decode cX8_deafMark 0 = .ok (.aload_n 0, 1) := by decide +kernel
theorem dX8_deafMark_1 : decode cX8_deafMark 1 = .ok (.bipush 23, 2) := by decide +kernel
theorem dX8_deafMark_3 : decode cX8_deafMark 3 = .ok (.invokevirtual 240, 3) := by decide +kernel
theorem dX8_deafMark_6 : decode cX8_deafMark 6 = .ok (.aload_n 0, 1) := by decide +kernel
theorem dX8_deafMark_7 : decode cX8_deafMark 7 = .ok (.bipush 20, 2) := by decide +kernel
theorem dX8_deafMark_9 : decode cX8_deafMark 9 = .ok (.invokevirtual 240, 3) := by decide +kernel
theorem dX8_deafMark_12 : decode cX8_deafMark 12 = .ok (.iload_n 1, 1) := by decide +kernel
theorem dX8_deafMark_13 : decode cX8_deafMark 13 = .ok (.aload_n 0, 1) := by decide +kernel
theorem dX8_deafMark_14 : decode cX8_deafMark 14 = .ok (.iload_n 1, 1) := by decide +kernel
theorem dX8_deafMark_15 : decode cX8_deafMark 15 = .ok (.invokevirtual 247, 3) := by decide +kernel
theorem dX8_deafMark_18 : decode cX8_deafMark 18 = .ok (.isub, 1) := by decide +kernel
theorem dX8_deafMark_19 : decode cX8_deafMark 19 = .ok (.ireturn, 1) := by decide +kernel
set_option maxRecDepth 20000 in
theorem ggX8_ask_X8_isGuard : GoodIn wsX8_ask wsX8_isGuard := goodIn_r _ [7, 8, 9, 10, 6, 11, 37, 38, 39, 40, 41, 42, 43, 44, 45, 46, 47, 48, 49, 50, 51, 52, 53, 54, 55, 56, 57, 58, 59] (by decide +kernel) (by decide +kernel)
set_option maxRecDepth 20000 in
theorem gX8_ask_X8_isGuard : GoodIn wsX8_ask (wsV RX8 199 RX8 yX8_isGuard wsX8_isGuard) := goodIn_app (goodIn_of _ (by decide +kernel)) ggX8_ask_X8_isGuard
set_option maxRecDepth 20000 in
theorem ggX8_ask_X8_in : GoodIn wsX8_ask wsX8_in := goodIn_r _ [11] (by decide +kernel) (by decide +kernel)
set_option maxRecDepth 20000 in
theorem gX8_ask_X8_in : GoodIn wsX8_ask (va_wsS RX8 56 yX8_in wsX8_in) := goodIn_app (goodIn_of _ (by decide +kernel)) ggX8_ask_X8_in
set_option maxRecDepth 20000 in
theorem ggX8_ask_X8_kindIn : GoodIn wsX8_ask wsX8_kindIn := goodIn_r _ [15, 8, 37, 38, 39, 40, 41, 42, 43, 44, 45, 46, 47, 48, 49, 50, 51, 52, 53, 54, 55, 56, 57, 58, 59] (by decide +kernel) (by decide +kernel)
set_option maxRecDepth 20000 in
theorem gX8_ask_X8_kindIn : GoodIn wsX8_ask (wsV RX8 165 RX8 yX8_kindIn wsX8_kindIn) := goodIn_app (goodIn_of _ (by decide +kernel)) ggX8_ask_X8_kindIn
set_option maxRecDepth 20000 in
theorem ggX8_ask_X8_deafSize : GoodIn wsX8_ask wsX8_deafSize := goodIn_r _ [19, 8, 12, 13, 14, 6, 15, 20, 21, 22, 23, 2, 24, 37, 38, 39, 40, 41, 42, 43, 44, 45, 46, 47, 48, 49, 50, 51, 52, 53, 54, 55, 56, 57, 58, 59] (by decide +kernel) (by decide +kernel)
set_option maxRecDepth 20000 in
theorem gX8_ask_X8_deafSize : GoodIn wsX8_ask (wsV RX8 247 RX8 yX8_deafSize wsX8_deafSize) := goodIn_app (goodIn_of _ (by decide +kernel)) ggX8_ask_X8_deafSize
set_option maxRecDepth 20000 in
theorem ggX8_ask_X8_keenSize : GoodIn wsX8_ask wsX8_keenSize := goodIn_r _ [28, 8, 12, 13, 14, 6, 15, 20, 21, 22, 23, 2, 24, 29, 30, 31, 32, 37, 38, 39, 40, 41, 42, 43, 44, 45, 46, 47, 48, 49, 50, 51, 52, 53, 54, 55, 56, 57, 58, 59] (by decide +kernel) (by decide +kernel)
set_option maxRecDepth 20000 in
theorem gX8_ask_X8_keenSize : GoodIn wsX8_ask (wsV RX8 250 RX8 yX8_keenSize wsX8_keenSize) := goodIn_app (goodIn_of _ (by decide +kernel)) ggX8_ask_X8_keenSize
set_option maxRecDepth 20000 in
theorem ggX8_ask_X8_deafMark : GoodIn wsX8_ask wsX8_deafMark := goodIn_r _ [36, 20, 21, 22, 6, 23, 2, 24, 16, 17, 18, 19, 8, 12, 13, 14, 15, 37, 38, 39, 40, 41, 42, 43, 44, 45, 46, 47, 48, 49, 50, 51, 52, 53, 54, 55, 56, 57, 58, 59] (by decide +kernel) (by decide +kernel)
set_option maxRecDepth 20000 in
theorem gX8_ask_X8_deafMark : GoodIn wsX8_ask (wsV RX8 253 RX8 yX8_deafMark wsX8_deafMark) := goodIn_app (goodIn_of _ (by decide +kernel)) ggX8_ask_X8_deafMark
set_option maxRecDepth 20000 in
theorem ggX8_ask_X8_keenMark : GoodIn wsX8_ask wsX8_keenMark := goodIn_r _ [32, 8, 12, 13, 14, 6, 15, 20, 21, 22, 23, 2, 24, 37, 38, 39, 40, 41, 42, 43, 44, 45, 46, 47, 48, 49, 50, 51, 52, 53, 54, 55, 56, 57, 58, 59] (by decide +kernel) (by decide +kernel)
set_option maxRecDepth 20000 in
theorem gX8_ask_X8_keenMark : GoodIn wsX8_ask (wsV RX8 244 RX8 yX8_keenMark wsX8_keenMark) := goodIn_app (goodIn_of _ (by decide +kernel)) ggX8_ask_X8_keenMark
theorem dX8_ask_0 : decode cX8_ask 0 = .ok (.aload_n 0, 1) := by decide +kernel
theorem dX8_ask_1 : decode cX8_ask 1 = .ok (.iload_n 1, 1) := by decide +kernel
theorem dX8_ask_2 : decode cX8_ask 2 = .ok (.invokevirtual 199, 3) := by decide +kernel
theorem dX8_ask_5 : decode cX8_ask 5 = .ok (.ifCond .eq 12, 3) := by decide +kernel
theorem dX8_ask_8 : decode cX8_ask 8 = .ok (.iload_n 2, 1) := by decide +kernel
theorem dX8_ask_9 : decode cX8_ask 9 = .ok (.iconst 0, 1) := by decide +kernel
theorem dX8_ask_10 : decode cX8_ask 10 = .ok (.iconst 1, 1) := by decide +kernel
theorem dX8_ask_11 : decode cX8_ask 11 = .ok (.invokestatic 56, 3) := by decide +kernel
theorem dX8_ask_14 : decode cX8_ask 14 = .ok (.ifCond .ne 6, 3) := by decide +kernel
theorem dX8_ask_17 : decode cX8_ask 17 = .ok (.ldc 64, 2) := by decide +kernel
theorem dX8_ask_19 : decode cX8_ask 19 = .ok (.ireturn, 1) := by decide +kernel
theorem dX8_ask_20 : decode cX8_ask 20 = .ok (.aload_n 0, 1) := by decide +kernel
theorem dX8_ask_21 : decode cX8_ask 21 = .ok (.iconst 0, 1) := by decide +kernel
theorem dX8_ask_22 : decode cX8_ask 22 = .ok (.putfield 237, 3) := by decide +kernel
theorem dX8_ask_25 : decode cX8_ask 25 = .ok (.aload_n 0, 1) := by decide +kernel
theorem dX8_ask_26 : decode cX8_ask 26 = .ok (.iload_n 1, 1) := by decide +kernel
theorem dX8_ask_27 : decode cX8_ask 27 = .ok (.invokevirtual 165, 3) := by decide +kernel
theorem dX8_ask_30 : decode cX8_ask 30 = .ok (.iconst 4, 1) := by decide +kernel
theorem dX8_ask_31 : decode cX8_ask 31 = .ok (.if_icmp .lt 7, 3) := by decide +kernel
theorem dX8_ask_34 : decode cX8_ask 34 = .ok (.iconst 1, 1) := by decide +kernel
theorem dX8_ask_35 : decode cX8_ask 35 = .ok (.goto 4, 3) := by decide +kernel
theorem dX8_ask_38 : decode cX8_ask 38 = .ok (.iconst 0, 1) := by decide +kernel
theorem dX8_ask_39 : decode cX8_ask 39 = .ok (.istore_n 3, 1) := by decide +kernel
theorem dX8_ask_40 : decode cX8_ask 40 = .ok (.iload_n 2, 1) := by decide +kernel
theorem dX8_ask_41 : decode cX8_ask 41 = .ok (.ifCond .ne 21, 3) := by decide +kernel
theorem dX8_ask_44 : decode cX8_ask 44 = .ok (.iload_n 3, 1) := by decide +kernel
theorem dX8_ask_45 : decode cX8_ask 45 = .ok (.ifCond .eq 11, 3) := by decide +kernel
theorem dX8_ask_48 : decode cX8_ask 48 = .ok (.aload_n 0, 1) := by decide +kernel
theorem dX8_ask_49 : decode cX8_ask 49 = .ok (.iload_n 1, 1) := by decide +kernel
theorem dX8_ask_50 : decode cX8_ask 50 = .ok (.invokevirtual 247, 3) := by decide +kernel
theorem dX8_ask_53 : decode cX8_ask 53 = .ok (.goto 8, 3) := by decide +kernel
theorem dX8_ask_56 : decode cX8_ask 56 = .ok (.aload_n 0, 1) := by decide +kernel
theorem dX8_ask_57 : decode cX8_ask 57 = .ok (.iload_n 1, 1) := by decide +kernel
theorem dX8_ask_58 : decode cX8_ask 58 = .ok (.invokevirtual 250, 3) := by decide +kernel
theorem dX8_ask_61 : decode cX8_ask 61 = .ok (.ireturn, 1) := by decide +kernel
theorem dX8_ask_62 : decode cX8_ask 62 = .ok (.iload_n 3, 1) := by decide +kernel
theorem dX8_ask_63 : decode cX8_ask 63 = .ok (.ifCond .eq 11, 3) := by decide +kernel
theorem dX8_ask_66 : decode cX8_ask 66 = .ok (.aload_n 0, 1) := by decide +kernel
theorem dX8_ask_67 : decode cX8_ask 67 = .ok (.iload_n 1, 1) := by decide +kernel
theorem dX8_ask_68 : decode cX8_ask 68 = .ok (.invokevirtual 253, 3) := by decide +kernel
theorem dX8_ask_71 : decode cX8_ask 71 = .ok (.goto 8, 3) := by decide +kernel
theorem dX8_ask_74 : decode cX8_ask 74 = .ok (.aload_n 0, 1) := by decide +kernel
theorem dX8_ask_75 : decode cX8_ask 75 = .ok (.iload_n 1, 1) := by decide +kernel
theorem dX8_ask_76 : decode cX8_ask 76 = .ok (.invokevirtual 244, 3) := by decide +kernel
theorem dX8_ask_79 : decode cX8_ask 79 = .ok (.ireturn, 1) := by decide +kernel
set_option maxRecDepth 20000 in
theorem ggX8_trace_X8_in : GoodIn wsX8_trace wsX8_in := goodIn_r _ [7] (by decide +kernel) (by decide +kernel)
set_option maxRecDepth 20000 in
theorem gX8_trace_X8_in : GoodIn wsX8_trace (va_wsS RX8 56 yX8_in wsX8_in) := goodIn_app (goodIn_of _ (by decide +kernel)) ggX8_trace_X8_in
theorem dX8_trace_0 : decode cX8_trace 0 = .ok (.iload_n 1, 1) := by decide +kernel
theorem dX8_trace_1 : decode cX8_trace 1 = .ok (.iconst 0, 1) := by decide +kernel
theorem dX8_trace_2 : decode cX8_trace 2 = .ok (.aload_n 0, 1) := by decide +kernel
theorem dX8_trace_3 : decode cX8_trace 3 = .ok (.getfield 237, 3) := by decide +kernel
theorem dX8_trace_6 : decode cX8_trace 6 = .ok (.iconst 1, 1) := by decide +kernel
theorem dX8_trace_7 : decode cX8_trace 7 = .ok (.isub, 1) := by decide +kernel
theorem dX8_trace_8 : decode cX8_trace 8 = .ok (.invokestatic 56, 3) := by decide +kernel
theorem dX8_trace_11 : decode cX8_trace 11 = .ok (.ifCond .eq 12, 3) := by decide +kernel
theorem dX8_trace_14 : decode cX8_trace 14 = .ok (.aload_n 0, 1) := by decide +kernel
theorem dX8_trace_15 : decode cX8_trace 15 = .ok (.getfield 47, 3) := by decide +kernel
theorem dX8_trace_18 : decode cX8_trace 18 = .ok (.iload_n 1, 1) := by decide +kernel
theorem dX8_trace_19 : decode cX8_trace 19 = .ok (.iaload, 1) := by decide +kernel
theorem dX8_trace_20 : decode cX8_trace 20 = .ok (.goto 5, 3) := by decide +kernel
theorem dX8_trace_23 : decode cX8_trace 23 = .ok (.ldc 50, 2) := by decide +kernel
theorem dX8_trace_25 : decode cX8_trace 25 = .ok (.ireturn, 1) := by decide +kernel
set_option maxRecDepth 20000 in
theorem ggX8_count_X8_isMissing : GoodIn wsX8_count wsX8_isMissing := goodIn_r _ [9, 10, 11, 12, 13, 14, 15, 16, 17, 18, 19, 20, 21, 22, 23, 24, 25, 26, 27, 28, 29, 30, 31, 32, 33, 34] (by decide +kernel) (by decide +kernel)
set_option maxRecDepth 20000 in
theorem gX8_count_X8_isMissing : GoodIn wsX8_count (wsV RX8 72 RX8 yX8_isMissing wsX8_isMissing) := goodIn_app (goodIn_of _ (by decide +kernel)) ggX8_count_X8_isMissing
theorem dX8_count_0 : decode cX8_count 0 = .ok (.iconst 0, 1) := by decide +kernel
theorem dX8_count_1 : decode cX8_count 1 = .ok (.istore_n 2, 1) := by decide +kernel
theorem dX8_count_2 : decode cX8_count 2 = .ok (.iload_n 1, 1) := by decide +kernel
theorem dX8_count_3 : decode cX8_count 3 = .ok (.tableswitch 175 0 9 #[53, 85, 92, 99, 106, 114, 122, 127, 132, 139], 53) := by decide +kernel
theorem dX8_count_56 : decode cX8_count 56 = .ok (.iconst 0, 1) := by decide +kernel
theorem dX8_count_57 : decode cX8_count 57 = .ok (.istore_n 3, 1) := by decide +kernel
theorem dX8_count_58 : decode cX8_count 58 = .ok (.iload_n 3, 1) := by decide +kernel
theorem dX8_count_59 : decode cX8_count 59 = .ok (.bipush 8, 2) := by decide +kernel
theorem dX8_count_61 : decode cX8_count 61 = .ok (.if_icmp .ge 25, 3) := by decide +kernel
theorem dX8_count_64 : decode cX8_count 64 = .ok (.iload_n 2, 1) := by decide +kernel
theorem dX8_count_65 : decode cX8_count 65 = .ok (.aload_n 0, 1) := by decide +kernel
theorem dX8_count_66 : decode cX8_count 66 = .ok (.iload_n 3, 1) := by decide +kernel
theorem dX8_count_67 : decode cX8_count 67 = .ok (.invokevirtual 72, 3) := by decide +kernel
theorem dX8_count_70 : decode cX8_count 70 = .ok (.ifCond .eq 7, 3) := by decide +kernel
theorem dX8_count_73 : decode cX8_count 73 = .ok (.iconst 0, 1) := by decide +kernel
theorem dX8_count_74 : decode cX8_count 74 = .ok (.goto 4, 3) := by decide +kernel
theorem dX8_count_77 : decode cX8_count 77 = .ok (.iconst 1, 1) := by decide +kernel
theorem dX8_count_78 : decode cX8_count 78 = .ok (.iadd, 1) := by decide +kernel
theorem dX8_count_79 : decode cX8_count 79 = .ok (.istore_n 2, 1) := by decide +kernel
theorem dX8_count_80 : decode cX8_count 80 = .ok (.iinc 3 1, 3) := by decide +kernel
theorem dX8_count_83 : decode cX8_count 83 = .ok (.goto (-25), 3) := by decide +kernel
theorem dX8_count_86 : decode cX8_count 86 = .ok (.iload_n 2, 1) := by decide +kernel
theorem dX8_count_87 : decode cX8_count 87 = .ok (.ireturn, 1) := by decide +kernel
theorem dX8_count_88 : decode cX8_count 88 = .ok (.aload_n 0, 1) := by decide +kernel
theorem dX8_count_89 : decode cX8_count 89 = .ok (.getfield 25, 3) := by decide +kernel
theorem dX8_count_92 : decode cX8_count 92 = .ok (.iconst 3, 1) := by decide +kernel
theorem dX8_count_93 : decode cX8_count 93 = .ok (.iaload, 1) := by decide +kernel
theorem dX8_count_94 : decode cX8_count 94 = .ok (.ireturn, 1) := by decide +kernel
theorem dX8_count_95 : decode cX8_count 95 = .ok (.aload_n 0, 1) := by decide +kernel
theorem dX8_count_96 : decode cX8_count 96 = .ok (.getfield 25, 3) := by decide +kernel
theorem dX8_count_99 : decode cX8_count 99 = .ok (.iconst 4, 1) := by decide +kernel
theorem dX8_count_100 : decode cX8_count 100 = .ok (.iaload, 1) := by decide +kernel
theorem dX8_count_101 : decode cX8_count 101 = .ok (.ireturn, 1) := by decide +kernel
theorem dX8_count_102 : decode cX8_count 102 = .ok (.aload_n 0, 1) := by decide +kernel
theorem dX8_count_103 : decode cX8_count 103 = .ok (.getfield 25, 3) := by decide +kernel
theorem dX8_count_106 : decode cX8_count 106 = .ok (.iconst 5, 1) := by decide +kernel
theorem dX8_count_107 : decode cX8_count 107 = .ok (.iaload, 1) := by decide +kernel
theorem dX8_count_108 : decode cX8_count 108 = .ok (.ireturn, 1) := by decide +kernel
theorem dX8_count_109 : decode cX8_count 109 = .ok (.aload_n 0, 1) := by decide +kernel
theorem dX8_count_110 : decode cX8_count 110 = .ok (.getfield 25, 3) := by decide +kernel
theorem dX8_count_113 : decode cX8_count 113 = .ok (.bipush 7, 2) := by decide +kernel
theorem dX8_count_115 : decode cX8_count 115 = .ok (.iaload, 1) := by decide +kernel
theorem dX8_count_116 : decode cX8_count 116 = .ok (.ireturn, 1) := by decide +kernel
theorem dX8_count_117 : decode cX8_count 117 = .ok (.aload_n 0, 1) := by decide +kernel
theorem dX8_count_118 : decode cX8_count 118 = .ok (.getfield 25, 3) := by decide +kernel
theorem dX8_count_121 : decode cX8_count 121 = .ok (.bipush 6, 2) := by decide +kernel
theorem dX8_count_123 : decode cX8_count 123 = .ok (.iaload, 1) := by decide +kernel
theorem dX8_count_124 : decode cX8_count 124 = .ok (.ireturn, 1) := by decide +kernel
theorem dX8_count_125 : decode cX8_count 125 = .ok (.aload_n 0, 1) := by decide +kernel
theorem dX8_count_126 : decode cX8_count 126 = .ok (.getfield 149, 3) := by decide +kernel
theorem dX8_count_129 : decode cX8_count 129 = .ok (.ireturn, 1) := by decide +kernel
theorem dX8_count_130 : decode cX8_count 130 = .ok (.aload_n 0, 1) := by decide +kernel
theorem dX8_count_131 : decode cX8_count 131 = .ok (.getfield 82, 3) := by decide +kernel
theorem dX8_count_134 : decode cX8_count 134 = .ok (.ireturn, 1) := by decide +kernel
theorem dX8_count_135 : decode cX8_count 135 = .ok (.aload_n 0, 1) := by decide +kernel
theorem dX8_count_136 : decode cX8_count 136 = .ok (.getfield 25, 3) := by decide +kernel
theorem dX8_count_139 : decode cX8_count 139 = .ok (.iconst 0, 1) := by decide +kernel
theorem dX8_count_140 : decode cX8_count 140 = .ok (.iaload, 1) := by decide +kernel
theorem dX8_count_141 : decode cX8_count 141 = .ok (.ireturn, 1) := by decide +kernel
theorem dX8_count_142 : decode cX8_count 142 = .ok (.iconst 0, 1) := by decide +kernel
theorem dX8_count_143 : decode cX8_count 143 = .ok (.istore_n 3, 1) := by decide +kernel
theorem dX8_count_144 : decode cX8_count 144 = .ok (.iload_n 3, 1) := by decide +kernel
theorem dX8_count_145 : decode cX8_count 145 = .ok (.aload_n 0, 1) := by decide +kernel
theorem dX8_count_146 : decode cX8_count 146 = .ok (.getfield 25, 3) := by decide +kernel
theorem dX8_count_149 : decode cX8_count 149 = .ok (.iconst 4, 1) := by decide +kernel
theorem dX8_count_150 : decode cX8_count 150 = .ok (.iaload, 1) := by decide +kernel
theorem dX8_count_151 : decode cX8_count 151 = .ok (.if_icmp .ge 25, 3) := by decide +kernel
theorem dX8_count_154 : decode cX8_count 154 = .ok (.iload_n 2, 1) := by decide +kernel
theorem dX8_count_155 : decode cX8_count 155 = .ok (.aload_n 0, 1) := by decide +kernel
theorem dX8_count_156 : decode cX8_count 156 = .ok (.getfield 25, 3) := by decide +kernel
theorem dX8_count_159 : decode cX8_count 159 = .ok (.bipush 26, 2) := by decide +kernel
theorem dX8_count_161 : decode cX8_count 161 = .ok (.iconst 3, 1) := by decide +kernel
theorem dX8_count_162 : decode cX8_count 162 = .ok (.iload_n 3, 1) := by decide +kernel
theorem dX8_count_163 : decode cX8_count 163 = .ok (.imul, 1) := by decide +kernel
theorem dX8_count_164 : decode cX8_count 164 = .ok (.iadd, 1) := by decide +kernel
theorem dX8_count_165 : decode cX8_count 165 = .ok (.iconst 2, 1) := by decide +kernel
theorem dX8_count_166 : decode cX8_count 166 = .ok (.iadd, 1) := by decide +kernel
theorem dX8_count_167 : decode cX8_count 167 = .ok (.iaload, 1) := by decide +kernel
theorem dX8_count_168 : decode cX8_count 168 = .ok (.iadd, 1) := by decide +kernel
theorem dX8_count_169 : decode cX8_count 169 = .ok (.istore_n 2, 1) := by decide +kernel
theorem dX8_count_170 : decode cX8_count 170 = .ok (.iinc 3 1, 3) := by decide +kernel
theorem dX8_count_173 : decode cX8_count 173 = .ok (.goto (-29), 3) := by decide +kernel
theorem dX8_count_176 : decode cX8_count 176 = .ok (.iload_n 2, 1) := by decide +kernel
theorem dX8_count_177 : decode cX8_count 177 = .ok (.ireturn, 1) := by decide +kernel
theorem dX8_count_178 : decode cX8_count 178 = .ok (.ldc 64, 2) := by decide +kernel
theorem dX8_count_180 : decode cX8_count 180 = .ok (.ireturn, 1) := by decide +kernel
theorem dX8_status_0 : decode cX8_status 0 = .ok (.aload_n 0, 1) := by decide +kernel
theorem dX8_status_1 : decode cX8_status 1 = .ok (.getfield 51, 3) := by decide +kernel
theorem dX8_status_4 : decode cX8_status 4 = .ok (.ireturn, 1) := by decide +kernel
theorem dJ6_bitCount_0f7a4_0 : decode cJ6_bitCount_0f7a4 0 = .ok (.iload_n 0, 1) := by decide +kernel
theorem dJ6_bitCount_0f7a4_1 : decode cJ6_bitCount_0f7a4 1 = .ok (.iload_n 0, 1) := by decide +kernel
theorem dJ6_bitCount_0f7a4_2 : decode cJ6_bitCount_0f7a4 2 = .ok (.iconst 1, 1) := by decide +kernel
theorem dJ6_bitCount_0f7a4_3 : decode cJ6_bitCount_0f7a4 3 = .ok (.iushr, 1) := by decide +kernel
theorem dJ6_bitCount_0f7a4_4 : decode cJ6_bitCount_0f7a4 4 = .ok (.ldc_w 265, 3) := by decide +kernel
theorem dJ6_bitCount_0f7a4_7 : decode cJ6_bitCount_0f7a4 7 = .ok (.iand, 1) := by decide +kernel
theorem dJ6_bitCount_0f7a4_8 : decode cJ6_bitCount_0f7a4 8 = .ok (.isub, 1) := by decide +kernel
theorem dJ6_bitCount_0f7a4_9 : decode cJ6_bitCount_0f7a4 9 = .ok (.istore_n 0, 1) := by decide +kernel
theorem dJ6_bitCount_0f7a4_10 : decode cJ6_bitCount_0f7a4 10 = .ok (.iload_n 0, 1) := by decide +kernel
theorem dJ6_bitCount_0f7a4_11 : decode cJ6_bitCount_0f7a4 11 = .ok (.ldc_w 266, 3) := by decide +kernel
theorem dJ6_bitCount_0f7a4_14 : decode cJ6_bitCount_0f7a4 14 = .ok (.iand, 1) := by decide +kernel
theorem dJ6_bitCount_0f7a4_15 : decode cJ6_bitCount_0f7a4 15 = .ok (.iload_n 0, 1) := by decide +kernel
theorem dJ6_bitCount_0f7a4_16 : decode cJ6_bitCount_0f7a4 16 = .ok (.iconst 2, 1) := by decide +kernel
theorem dJ6_bitCount_0f7a4_17 : decode cJ6_bitCount_0f7a4 17 = .ok (.iushr, 1) := by decide +kernel
theorem dJ6_bitCount_0f7a4_18 : decode cJ6_bitCount_0f7a4 18 = .ok (.ldc_w 266, 3) := by decide +kernel
theorem dJ6_bitCount_0f7a4_21 : decode cJ6_bitCount_0f7a4 21 = .ok (.iand, 1) := by decide +kernel
theorem dJ6_bitCount_0f7a4_22 : decode cJ6_bitCount_0f7a4 22 = .ok (.iadd, 1) := by decide +kernel
theorem dJ6_bitCount_0f7a4_23 : decode cJ6_bitCount_0f7a4 23 = .ok (.istore_n 0, 1) := by decide +kernel
theorem dJ6_bitCount_0f7a4_24 : decode cJ6_bitCount_0f7a4 24 = .ok (.iload_n 0, 1) := by decide +kernel
theorem dJ6_bitCount_0f7a4_25 : decode cJ6_bitCount_0f7a4 25 = .ok (.iload_n 0, 1) := by decide +kernel
theorem dJ6_bitCount_0f7a4_26 : decode cJ6_bitCount_0f7a4 26 = .ok (.iconst 4, 1) := by decide +kernel
theorem dJ6_bitCount_0f7a4_27 : decode cJ6_bitCount_0f7a4 27 = .ok (.iushr, 1) := by decide +kernel
theorem dJ6_bitCount_0f7a4_28 : decode cJ6_bitCount_0f7a4 28 = .ok (.iadd, 1) := by decide +kernel
theorem dJ6_bitCount_0f7a4_29 : decode cJ6_bitCount_0f7a4 29 = .ok (.ldc_w 267, 3) := by decide +kernel
theorem dJ6_bitCount_0f7a4_32 : decode cJ6_bitCount_0f7a4 32 = .ok (.iand, 1) := by decide +kernel
theorem dJ6_bitCount_0f7a4_33 : decode cJ6_bitCount_0f7a4 33 = .ok (.istore_n 0, 1) := by decide +kernel
theorem dJ6_bitCount_0f7a4_34 : decode cJ6_bitCount_0f7a4 34 = .ok (.iload_n 0, 1) := by decide +kernel
theorem dJ6_bitCount_0f7a4_35 : decode cJ6_bitCount_0f7a4 35 = .ok (.iload_n 0, 1) := by decide +kernel
theorem dJ6_bitCount_0f7a4_36 : decode cJ6_bitCount_0f7a4 36 = .ok (.bipush 8, 2) := by decide +kernel
theorem dJ6_bitCount_0f7a4_38 : decode cJ6_bitCount_0f7a4 38 = .ok (.iushr, 1) := by decide +kernel
theorem dJ6_bitCount_0f7a4_39 : decode cJ6_bitCount_0f7a4 39 = .ok (.iadd, 1) := by decide +kernel
theorem dJ6_bitCount_0f7a4_40 : decode cJ6_bitCount_0f7a4 40 = .ok (.istore_n 0, 1) := by decide +kernel
theorem dJ6_bitCount_0f7a4_41 : decode cJ6_bitCount_0f7a4 41 = .ok (.iload_n 0, 1) := by decide +kernel
theorem dJ6_bitCount_0f7a4_42 : decode cJ6_bitCount_0f7a4 42 = .ok (.iload_n 0, 1) := by decide +kernel
theorem dJ6_bitCount_0f7a4_43 : decode cJ6_bitCount_0f7a4 43 = .ok (.bipush 16, 2) := by decide +kernel
theorem dJ6_bitCount_0f7a4_45 : decode cJ6_bitCount_0f7a4 45 = .ok (.iushr, 1) := by decide +kernel
theorem dJ6_bitCount_0f7a4_46 : decode cJ6_bitCount_0f7a4 46 = .ok (.iadd, 1) := by decide +kernel
theorem dJ6_bitCount_0f7a4_47 : decode cJ6_bitCount_0f7a4 47 = .ok (.istore_n 0, 1) := by decide +kernel
theorem dJ6_bitCount_0f7a4_48 : decode cJ6_bitCount_0f7a4 48 = .ok (.iload_n 0, 1) := by decide +kernel
theorem dJ6_bitCount_0f7a4_49 : decode cJ6_bitCount_0f7a4 49 = .ok (.bipush 63, 2) := by decide +kernel
theorem dJ6_bitCount_0f7a4_51 : decode cJ6_bitCount_0f7a4 51 = .ok (.iand, 1) := by decide +kernel
theorem dJ6_bitCount_0f7a4_52 : decode cJ6_bitCount_0f7a4 52 = .ok (.ireturn, 1) := by decide +kernel
theorem dJ9_max_7cf53_0 : decode cJ9_max_7cf53 0 = .ok (.iload_n 0, 1) := by decide +kernel
theorem dJ9_max_7cf53_1 : decode cJ9_max_7cf53 1 = .ok (.iload_n 1, 1) := by decide +kernel
theorem dJ9_max_7cf53_2 : decode cJ9_max_7cf53 2 = .ok (.if_icmp .lt 7, 3) := by decide +kernel
theorem dJ9_max_7cf53_5 : decode cJ9_max_7cf53 5 = .ok (.iload_n 0, 1) := by decide +kernel
theorem dJ9_max_7cf53_6 : decode cJ9_max_7cf53 6 = .ok (.goto 4, 3) := by decide +kernel
theorem dJ9_max_7cf53_9 : decode cJ9_max_7cf53 9 = .ok (.iload_n 1, 1) := by decide +kernel
theorem dJ9_max_7cf53_10 : decode cJ9_max_7cf53 10 = .ok (.ireturn, 1) := by decide +kernel
theorem dJ9_min_7cf53_0 : decode cJ9_min_7cf53 0 = .ok (.iload_n 0, 1) := by decide +kernel
theorem dJ9_min_7cf53_1 : decode cJ9_min_7cf53 1 = .ok (.iload_n 1, 1) := by decide +kernel
theorem dJ9_min_7cf53_2 : decode cJ9_min_7cf53 2 = .ok (.if_icmp .gt 7, 3) := by decide +kernel
theorem dJ9_min_7cf53_5 : decode cJ9_min_7cf53 5 = .ok (.iload_n 0, 1) := by decide +kernel
theorem dJ9_min_7cf53_6 : decode cJ9_min_7cf53 6 = .ok (.goto 4, 3) := by decide +kernel
theorem dJ9_min_7cf53_9 : decode cJ9_min_7cf53 9 = .ok (.iload_n 1, 1) := by decide +kernel
theorem dJ9_min_7cf53_10 : decode cJ9_min_7cf53 10 = .ok (.ireturn, 1) := by decide +kernel
set_option maxRecDepth 20000 in
theorem ggL_law_X7_init : GoodIn wsL_law wsX7_init := goodIn_r _ [8, 9, 10, 11, 12, 13, 14, 15, 16, 17, 18, 19, 20, 21, 22, 23, 24, 25, 26, 27, 28, 29, 30, 31, 32, 33, 34, 35, 36, 37, 38, 39, 40, 41, 42, 43, 44, 45, 46, 47, 48, 49, 50, 51, 52, 53, 54, 55, 56, 57, 58, 59, 60, 61, 62, 63, 64, 65, 66, 67, 68, 69, 70, 71, 72, 73, 74, 75, 76, 77, 78, 79, 80, 1027, 1028, 1029, 1030, 1031, 1032, 1033, 1034, 1035, 1059, 1060, 1061, 1062, 1063, 1064, 1065, 1066, 1067, 1068, 1069, 1070, 1071, 1072, 1073, 1074, 1075, 1076, 1077, 1078, 1079, 1080, 1081, 1082, 1083, 1084, 1085, 1086, 1087, 1088, 1089, 1090, 1091, 1092, 1093, 1094, 1095] (by decide +kernel) (by decide +kernel)
set_option maxRecDepth 20000 in
theorem gL_law_X7_init : GoodIn wsL_law (wsX7_init) := ggL_law_X7_init
set_option maxRecDepth 20000 in
theorem ggL_law_X8_init : GoodIn wsL_law wsX8_init := goodIn_r _ [83, 84, 10, 11, 40, 85, 86, 87, 88, 89, 90, 91, 92, 93, 94, 95, 96, 97, 98, 99, 1036, 1037, 1038, 1039, 1040, 1041, 1042, 1043, 1044, 1045, 1046, 1047, 1048, 1049, 1050, 1051, 1052, 1053, 1054, 1055, 1056, 1057, 1058] (by decide +kernel) (by decide +kernel)
set_option maxRecDepth 20000 in
theorem gL_law_X8_init : GoodIn wsL_law (wsX8_init) := ggL_law_X8_init
set_option maxRecDepth 20000 in
theorem ggL_law_X7_row : GoodIn wsL_law wsX7_row := goodIn_r _ [103, 104, 13, 105, 106, 107, 2, 108, 109, 110, 111, 112, 113, 114, 115, 116, 117, 36, 118, 80, 119, 79, 120, 121, 122, 123, 1027, 1028, 1029, 1030, 1031, 1032, 1033, 1034, 1035, 1085, 1086, 1087] (by decide +kernel) (by decide +kernel)
set_option maxRecDepth 20000 in
theorem gL_law_X7_row : GoodIn wsL_law (wsV RL 13 RX7 yX7_row wsX7_row) := goodIn_app (goodIn_of _ (by decide +kernel)) ggL_law_X7_row
set_option maxRecDepth 20000 in
theorem ggL_law_X8_row : GoodIn wsL_law wsX8_row := goodIn_r _ [127, 128, 85, 86, 87, 129, 130, 5, 131, 132, 133, 134, 135, 136, 137, 138, 139, 140, 141, 142, 143, 144, 1036, 1037, 1038, 1039, 1040, 1041, 1042, 1043, 1044, 1045, 1046, 1047, 1048, 1049, 1050, 1051, 1052, 1053, 1054, 1055, 1056, 1057, 1058] (by decide +kernel) (by decide +kernel)
set_option maxRecDepth 20000 in
theorem gL_law_X8_row : GoodIn wsL_law (wsV RL 17 RX8 yX8_row wsX8_row) := goodIn_app (goodIn_of _ (by decide +kernel)) ggL_law_X8_row
set_option maxRecDepth 20000 in
theorem ggL_law_X7_set : GoodIn wsL_law wsX7_set := goodIn_r _ [148, 104, 13, 105, 106, 107, 2, 108, 149, 150, 151, 36, 152, 80, 153, 154, 155, 156, 119, 109, 110, 111, 112, 113, 114, 157, 158, 159, 160, 79, 120, 121, 122, 123, 1027, 1028, 1029, 1030, 1031, 1032, 1033, 1034, 1035, 1085, 1086, 1087] (by decide +kernel) (by decide +kernel)
set_option maxRecDepth 20000 in
theorem gL_law_X7_set : GoodIn wsL_law (wsV RL 18 RX7 yX7_set wsX7_set) := goodIn_app (goodIn_of _ (by decide +kernel)) ggL_law_X7_set
set_option maxRecDepth 20000 in
theorem ggL_law_X8_set : GoodIn wsL_law wsX8_set := goodIn_r _ [164, 128, 86, 87, 85, 129, 130, 5, 131, 132, 133, 134, 165, 166, 167, 168, 99, 135, 136, 137, 138, 139, 140, 169, 170, 171, 141, 142, 143, 144, 1036, 1037, 1038, 1039, 1040, 1041, 1042, 1043, 1044, 1045, 1046, 1047, 1048, 1049, 1050, 1051, 1052, 1053, 1054, 1055, 1056, 1057, 1058] (by decide +kernel) (by decide +kernel)
set_option maxRecDepth 20000 in
theorem gL_law_X8_set : GoodIn wsL_law (wsV RL 21 RX8 yX8_set wsX8_set) := goodIn_app (goodIn_of _ (by decide +kernel)) ggL_law_X8_set
set_option maxRecDepth 20000 in
theorem ggL_law_X7_copy : GoodIn wsL_law wsX7_copy := goodIn_r _ [175, 104, 13, 176, 177, 178, 179, 180, 181, 105, 106, 107, 2, 108, 109, 110, 111, 112, 113, 114, 182, 154, 155, 36, 156, 119, 120, 121, 122, 123, 1027, 1028, 1029, 1030, 1031, 1032, 1033, 1034, 1035, 1085, 1086, 1087] (by decide +kernel) (by decide +kernel)
set_option maxRecDepth 20000 in
theorem gL_law_X7_copy : GoodIn wsL_law (wsV RL 22 RX7 yX7_copy wsX7_copy) := goodIn_app (goodIn_of _ (by decide +kernel)) ggL_law_X7_copy
set_option maxRecDepth 20000 in
theorem ggL_law_X8_copy : GoodIn wsL_law wsX8_copy := goodIn_r _ [186, 128, 85, 88, 87, 129, 130, 5, 131, 132, 133, 134, 165, 166, 167, 168, 99, 135, 136, 137, 138, 139, 140, 187, 188, 189, 190, 86, 141, 142, 143, 144, 1036, 1037, 1038, 1039, 1040, 1041, 1042, 1043, 1044, 1045, 1046, 1047, 1048, 1049, 1050, 1051, 1052, 1053, 1054, 1055, 1056, 1057, 1058] (by decide +kernel) (by decide +kernel)
set_option maxRecDepth 20000 in
theorem gL_law_X8_copy : GoodIn wsL_law (wsV RL 26 RX8 yX8_copy wsX8_copy) := goodIn_app (goodIn_of _ (by decide +kernel)) ggL_law_X8_copy
set_option maxRecDepth 20000 in
theorem ggL_law_X7_drop : GoodIn wsL_law wsX7_drop := goodIn_r _ [194, 104, 13, 176, 195, 105, 106, 107, 2, 108, 109, 110, 111, 112, 113, 114, 120, 121, 122, 123, 1027, 1028, 1029, 1030, 1031, 1032, 1033, 1034, 1035, 1085, 1086, 1087] (by decide +kernel) (by decide +kernel)
set_option maxRecDepth 20000 in
theorem gL_law_X7_drop : GoodIn wsL_law (wsV RL 27 RX7 yX7_drop wsX7_drop) := goodIn_app (goodIn_of _ (by decide +kernel)) ggL_law_X7_drop
set_option maxRecDepth 20000 in
theorem ggL_law_X8_drop : GoodIn wsL_law wsX8_drop := goodIn_r _ [199, 128, 85, 99, 86, 129, 130, 5, 131, 132, 133, 134, 165, 166, 167, 168, 135, 136, 137, 138, 139, 140, 141, 142, 143, 144, 1036, 1037, 1038, 1039, 1040, 1041, 1042, 1043, 1044, 1045, 1046, 1047, 1048, 1049, 1050, 1051, 1052, 1053, 1054, 1055, 1056, 1057, 1058] (by decide +kernel) (by decide +kernel)
set_option maxRecDepth 20000 in
theorem gL_law_X8_drop : GoodIn wsL_law (wsV RL 31 RX8 yX8_drop wsX8_drop) := goodIn_app (goodIn_of _ (by decide +kernel)) ggL_law_X8_drop
set_option maxRecDepth 20000 in
theorem ggL_law_X7_feed : GoodIn wsL_law wsX7_feed := goodIn_r _ [203, 104, 17, 204, 205, 206, 207, 208, 16, 209, 210, 41, 1027, 1028, 1029, 1030, 1031, 1032, 1033, 1034, 1035, 1059, 1060, 1061, 1062, 1063, 1064, 1065] (by decide +kernel) (by decide +kernel)
set_option maxRecDepth 20000 in
theorem gL_law_X7_feed : GoodIn wsL_law (wsV RL 32 RX7 yX7_feed wsX7_feed) := goodIn_app (goodIn_of _ (by decide +kernel)) ggL_law_X7_feed
set_option maxRecDepth 20000 in
theorem ggL_law_X8_feed : GoodIn wsL_law wsX8_feed := goodIn_r _ [214, 128, 215, 216, 89, 132, 133, 5, 134, 1036, 1037, 1038, 1039, 1040, 1041, 1042, 1043, 1044, 1045, 1046, 1047, 1048, 1049, 1050, 1051, 1052, 1053, 1054, 1055, 1056, 1057, 1058] (by decide +kernel) (by decide +kernel)
set_option maxRecDepth 20000 in
theorem gL_law_X8_feed : GoodIn wsL_law (wsV RL 35 RX8 yX8_feed wsX8_feed) := goodIn_app (goodIn_of _ (by decide +kernel)) ggL_law_X8_feed
set_option maxRecDepth 20000 in
theorem ggL_law_X7_gate : GoodIn wsL_law wsX7_gate := goodIn_r _ [220, 17, 204, 221, 222, 223, 224, 21, 225, 25, 226, 227, 228, 229, 16, 230, 231, 43, 232, 233, 234, 235, 236, 237, 238, 239, 240, 241, 242, 243, 244, 245, 246, 247, 248, 249, 250, 210, 41, 251, 252, 253, 254, 255, 256, 257, 258, 259, 260, 261, 262, 263, 264, 265, 266, 267, 268, 269, 270, 271, 272, 273, 274, 275, 20, 276, 47, 277, 278, 279, 280, 281, 282, 283, 284, 285, 286, 287, 288, 289, 52, 290, 291, 292, 293, 57, 294, 295, 296, 297, 298, 179, 180, 181, 48, 49, 53, 299, 300, 301, 302, 303, 304, 305, 306, 307, 308, 58, 59, 60, 309, 310, 311, 24, 312, 313, 1027, 1028, 1029, 1030, 1031, 1032, 1033, 1034, 1035, 1059, 1060, 1061, 1062, 1063, 1064, 1065, 1066, 1067, 1068, 1069, 1070, 1071, 1072, 1073, 1088, 1089, 1090, 1091, 1092, 1093, 1094, 1095, 1074, 1075, 1076] (by decide +kernel) (by decide +kernel)
set_option maxRecDepth 20000 in
theorem gL_law_X7_gate : GoodIn wsL_law (wsV RL 36 RX7 yX7_gate wsX7_gate) := goodIn_app (goodIn_of _ (by decide +kernel)) ggL_law_X7_gate
set_option maxRecDepth 20000 in
theorem ggL_law_X8_gate : GoodIn wsL_law wsX8_gate := goodIn_r _ [317, 91, 318, 319, 320, 321, 215, 322, 90, 323, 324, 325, 326, 5, 327, 328, 329, 330, 331, 332, 89, 132, 133, 134, 333, 334, 335, 336, 337, 338, 339, 340, 341, 342, 343, 344, 345, 346, 347, 348, 349, 350, 351, 352, 353, 354, 355, 356, 357, 358, 359, 360, 361, 362, 363, 364, 365, 366, 367, 368, 369, 370, 371, 372, 373, 374, 375, 1036, 1037, 1038, 1039, 1040, 1041, 1042, 1043, 1044, 1045, 1046, 1047, 1048, 1049, 1050, 1051, 1052, 1053, 1054, 1055, 1056, 1057, 1058] (by decide +kernel) (by decide +kernel)
set_option maxRecDepth 20000 in
theorem gL_law_X8_gate : GoodIn wsL_law (wsV RL 40 RX8 yX8_gate wsX8_gate) := goodIn_app (goodIn_of _ (by decide +kernel)) ggL_law_X8_gate
set_option maxRecDepth 20000 in
theorem ggL_law_X7_fault : GoodIn wsL_law wsX7_fault := goodIn_r _ [379, 222, 1027, 1028, 1029, 1030, 1031, 1032, 1033, 1034, 1035] (by decide +kernel) (by decide +kernel)
set_option maxRecDepth 20000 in
theorem gL_law_X7_fault : GoodIn wsL_law (wsV RL 41 RX7 yX7_fault wsX7_fault) := goodIn_app (goodIn_of _ (by decide +kernel)) ggL_law_X7_fault
set_option maxRecDepth 20000 in
theorem ggL_law_X8_fault : GoodIn wsL_law wsX8_fault := goodIn_r _ [383, 337, 1036, 1037, 1038, 1039, 1040, 1041, 1042, 1043, 1044, 1045, 1046, 1047, 1048, 1049, 1050, 1051, 1052, 1053, 1054, 1055, 1056, 1057, 1058] (by decide +kernel) (by decide +kernel)
set_option maxRecDepth 20000 in
theorem gL_law_X8_fault : GoodIn wsL_law (wsV RL 44 RX8 yX8_fault wsX8_fault) := goodIn_app (goodIn_of _ (by decide +kernel)) ggL_law_X8_fault
set_option maxRecDepth 20000 in
theorem ggL_law_X7_nights : GoodIn wsL_law wsX7_nights := goodIn_r _ [387, 388, 104, 21, 389, 390, 205, 25, 391, 392, 393, 2, 394, 226, 395, 396, 397, 24, 398, 66, 399, 313, 400, 401, 402, 403, 404, 304, 305, 52, 306, 291, 307, 292, 293, 57, 308, 179, 180, 181, 58, 59, 60, 405, 406, 407, 408, 409, 410, 411, 20, 412, 53, 413, 299, 300, 414, 415, 416, 417, 418, 301, 419, 420, 1027, 1028, 1029, 1030, 1031, 1032, 1033, 1034, 1035, 1066, 1067, 1068, 1069, 1070, 1071, 1072, 1073, 1088, 1089, 1090, 1091, 1092, 1093, 1094, 1095, 1074, 1075, 1076] (by decide +kernel) (by decide +kernel)
set_option maxRecDepth 20000 in
theorem gL_law_X7_nights : GoodIn wsL_law (wsV RL 45 RX7 yX7_nights wsX7_nights) := goodIn_app (goodIn_of _ (by decide +kernel)) ggL_law_X7_nights
set_option maxRecDepth 20000 in
theorem ggL_law_X8_nights : GoodIn wsL_law wsX8_nights := goodIn_r _ [424, 425, 128, 90, 216, 426, 427, 428, 5, 429, 132, 133, 134, 430, 431, 432, 433, 323, 93, 373, 374, 375, 434, 435, 436, 437, 438, 439, 440, 1036, 1037, 1038, 1039, 1040, 1041, 1042, 1043, 1044, 1045, 1046, 1047, 1048, 1049, 1050, 1051, 1052, 1053, 1054, 1055, 1056, 1057, 1058] (by decide +kernel) (by decide +kernel)
set_option maxRecDepth 20000 in
theorem gL_law_X8_nights : GoodIn wsL_law (wsV RL 48 RX8 yX8_nights wsX8_nights) := goodIn_app (goodIn_of _ (by decide +kernel)) ggL_law_X8_nights
set_option maxRecDepth 20000 in
theorem ggL_law_X7_say : GoodIn wsL_law wsX7_say := goodIn_r _ [444, 104, 21, 389, 445, 205, 390, 25, 446, 447, 448, 449, 2, 450, 226, 451, 452, 453, 454, 455, 456, 457, 20, 458, 302, 419, 420, 459, 460, 461, 462, 53, 414, 463, 410, 411, 412, 413, 299, 300, 415, 416, 417, 418, 301, 464, 465, 466, 467, 48, 468, 469, 470, 471, 472, 473, 474, 475, 476, 477, 478, 274, 275, 276, 47, 479, 480, 481, 482, 395, 396, 397, 24, 398, 66, 399, 313, 400, 401, 402, 403, 404, 304, 305, 52, 306, 291, 307, 292, 293, 57, 308, 179, 180, 181, 58, 59, 60, 483, 484, 485, 486, 487, 488, 489, 490, 1027, 1028, 1029, 1030, 1031, 1032, 1033, 1034, 1035, 1066, 1067, 1068, 1069, 1070, 1071, 1072, 1073, 1088, 1089, 1090, 1091, 1092, 1093, 1094, 1095, 1074, 1075, 1076] (by decide +kernel) (by decide +kernel)
set_option maxRecDepth 20000 in
theorem gL_law_X7_say : GoodIn wsL_law (wsV RL 49 RX7 yX7_say wsX7_say) := goodIn_app (goodIn_of _ (by decide +kernel)) ggL_law_X7_say
set_option maxRecDepth 20000 in
theorem ggL_law_X8_say : GoodIn wsL_law wsX8_say := goodIn_r _ [494, 128, 90, 216, 495, 496, 497, 5, 498, 132, 133, 134, 499, 500, 501, 430, 431, 432, 433, 323, 93, 373, 374, 375, 502, 503, 504, 505, 506, 507, 508, 509, 438, 439, 440, 510, 511, 512, 513, 514, 515, 516, 517, 518, 519, 520, 521, 522, 523, 524, 525, 526, 527, 528, 529, 530, 531, 532, 1036, 1037, 1038, 1039, 1040, 1041, 1042, 1043, 1044, 1045, 1046, 1047, 1048, 1049, 1050, 1051, 1052, 1053, 1054, 1055, 1056, 1057, 1058] (by decide +kernel) (by decide +kernel)
set_option maxRecDepth 20000 in
theorem gL_law_X8_say : GoodIn wsL_law (wsV RL 53 RX8 yX8_say wsX8_say) := goodIn_app (goodIn_of _ (by decide +kernel)) ggL_law_X8_say
set_option maxRecDepth 20000 in
theorem ggL_law_X7_start : GoodIn wsL_law wsX7_start := goodIn_r _ [536, 388, 104, 21, 389, 537, 25, 391, 392, 393, 2, 394, 226, 395, 396, 397, 24, 398, 66, 399, 313, 400, 401, 402, 403, 404, 304, 305, 52, 306, 291, 307, 292, 293, 57, 308, 179, 180, 181, 58, 59, 60, 1027, 1028, 1029, 1030, 1031, 1032, 1033, 1034, 1035, 1066, 1067, 1068, 1069, 1070, 1071, 1072, 1073, 1088, 1089, 1090, 1091, 1092, 1093, 1094, 1095, 1074, 1075, 1076] (by decide +kernel) (by decide +kernel)
set_option maxRecDepth 20000 in
theorem gL_law_X7_start : GoodIn wsL_law (wsV RL 54 RX7 yX7_start wsX7_start) := goodIn_app (goodIn_of _ (by decide +kernel)) ggL_law_X7_start
set_option maxRecDepth 20000 in
theorem ggL_law_X8_start : GoodIn wsL_law wsX8_start := goodIn_r _ [541, 425, 128, 90, 426, 427, 428, 5, 429, 132, 133, 134, 430, 431, 432, 433, 323, 93, 373, 374, 375, 1036, 1037, 1038, 1039, 1040, 1041, 1042, 1043, 1044, 1045, 1046, 1047, 1048, 1049, 1050, 1051, 1052, 1053, 1054, 1055, 1056, 1057, 1058] (by decide +kernel) (by decide +kernel)
set_option maxRecDepth 20000 in
theorem gL_law_X8_start : GoodIn wsL_law (wsV RL 57 RX8 yX8_start wsX8_start) := goodIn_app (goodIn_of _ (by decide +kernel)) ggL_law_X8_start
set_option maxRecDepth 20000 in
theorem ggL_law_X7_dismiss : GoodIn wsL_law wsX7_dismiss := goodIn_r _ [545, 104, 21, 388, 25, 389, 546, 547, 548, 549, 2, 550, 551, 483, 470, 471, 20, 472, 53, 473, 490, 488, 489, 395, 396, 397, 24, 398, 66, 399, 313, 400, 401, 402, 403, 404, 304, 305, 52, 306, 291, 307, 292, 293, 57, 308, 179, 180, 181, 58, 59, 60, 1027, 1028, 1029, 1030, 1031, 1032, 1033, 1034, 1035, 1066, 1067, 1068, 1069, 1070, 1071, 1072, 1073, 1088, 1089, 1090, 1091, 1092, 1093, 1094, 1095, 1074, 1075, 1076] (by decide +kernel) (by decide +kernel)
set_option maxRecDepth 20000 in
theorem gL_law_X7_dismiss : GoodIn wsL_law (wsV RL 58 RX7 yX7_dismiss wsX7_dismiss) := goodIn_app (goodIn_of _ (by decide +kernel)) ggL_law_X7_dismiss
set_option maxRecDepth 20000 in
theorem ggL_law_X8_dismiss : GoodIn wsL_law wsX8_dismiss := goodIn_r _ [555, 128, 90, 425, 556, 557, 558, 5, 559, 132, 133, 134, 430, 431, 432, 433, 323, 93, 373, 374, 375, 1036, 1037, 1038, 1039, 1040, 1041, 1042, 1043, 1044, 1045, 1046, 1047, 1048, 1049, 1050, 1051, 1052, 1053, 1054, 1055, 1056, 1057, 1058] (by decide +kernel) (by decide +kernel)
set_option maxRecDepth 20000 in
theorem gL_law_X8_dismiss : GoodIn wsL_law (wsV RL 61 RX8 yX8_dismiss wsX8_dismiss) := goodIn_app (goodIn_of _ (by decide +kernel)) ggL_law_X8_dismiss
set_option maxRecDepth 20000 in
theorem ggL_law_X7_undo : GoodIn wsL_law wsX7_undo := goodIn_r _ [563, 25, 21, 389, 564, 388, 565, 566, 567, 24, 568, 313, 399, 66, 404, 304, 305, 52, 306, 291, 307, 292, 293, 57, 308, 179, 180, 181, 58, 59, 60, 1027, 1028, 1029, 1030, 1031, 1032, 1033, 1034, 1035, 1066, 1067, 1068, 1069, 1070, 1071, 1072, 1073, 1074, 1075, 1076, 1088, 1089, 1090, 1091, 1092, 1093, 1094, 1095] (by decide +kernel) (by decide +kernel)
set_option maxRecDepth 20000 in
theorem gL_law_X7_undo : GoodIn wsL_law (wsV RL 62 RX7 yX7_undo wsX7_undo) := goodIn_app (goodIn_of _ (by decide +kernel)) ggL_law_X7_undo
set_option maxRecDepth 20000 in
theorem ggL_law_X8_undo : GoodIn wsL_law wsX8_undo := goodIn_r _ [572, 323, 425, 93, 90, 373, 374, 5, 375, 1036, 1037, 1038, 1039, 1040, 1041, 1042, 1043, 1044, 1045, 1046, 1047, 1048, 1049, 1050, 1051, 1052, 1053, 1054, 1055, 1056, 1057, 1058] (by decide +kernel) (by decide +kernel)
set_option maxRecDepth 20000 in
theorem gL_law_X8_undo : GoodIn wsL_law (wsV RL 65 RX8 yX8_undo wsX8_undo) := goodIn_app (goodIn_of _ (by decide +kernel)) ggL_law_X8_undo
set_option maxRecDepth 20000 in
theorem ggL_law_X7_letter : GoodIn wsL_law wsX7_letter := goodIn_r _ [576, 104, 21, 577, 447, 448, 449, 2, 450, 226, 1027, 1028, 1029, 1030, 1031, 1032, 1033, 1034, 1035, 1066, 1067, 1068, 1069, 1070, 1071, 1072, 1073] (by decide +kernel) (by decide +kernel)
set_option maxRecDepth 20000 in
theorem gL_law_X7_letter : GoodIn wsL_law (wsV RL 66 RX7 yX7_letter wsX7_letter) := goodIn_app (goodIn_of _ (by decide +kernel)) ggL_law_X7_letter
set_option maxRecDepth 20000 in
theorem ggL_law_X8_letter : GoodIn wsL_law wsX8_letter := goodIn_r _ [581, 90, 128, 495, 496, 497, 5, 498, 132, 133, 134, 1036, 1037, 1038, 1039, 1040, 1041, 1042, 1043, 1044, 1045, 1046, 1047, 1048, 1049, 1050, 1051, 1052, 1053, 1054, 1055, 1056, 1057, 1058] (by decide +kernel) (by decide +kernel)
set_option maxRecDepth 20000 in
theorem gL_law_X8_letter : GoodIn wsL_law (wsV RL 69 RX8 yX8_letter wsX8_letter) := goodIn_app (goodIn_of _ (by decide +kernel)) ggL_law_X8_letter
set_option maxRecDepth 20000 in
theorem ggL_law_X7_like : GoodIn wsL_law wsX7_like := goodIn_r _ [585, 104, 21, 447, 448, 449, 2, 450, 226, 586, 274, 275, 20, 276, 47, 587, 480, 481, 482, 1027, 1028, 1029, 1030, 1031, 1032, 1033, 1034, 1035, 1066, 1067, 1068, 1069, 1070, 1071, 1072, 1073] (by decide +kernel) (by decide +kernel)
set_option maxRecDepth 20000 in
theorem gL_law_X7_like : GoodIn wsL_law (wsV RL 70 RX7 yX7_like wsX7_like) := goodIn_app (goodIn_of _ (by decide +kernel)) ggL_law_X7_like
set_option maxRecDepth 20000 in
theorem ggL_law_X8_like : GoodIn wsL_law wsX8_like := goodIn_r _ [591, 128, 495, 496, 497, 5, 498, 90, 132, 133, 134, 525, 526, 527, 528, 529, 530, 531, 532, 1036, 1037, 1038, 1039, 1040, 1041, 1042, 1043, 1044, 1045, 1046, 1047, 1048, 1049, 1050, 1051, 1052, 1053, 1054, 1055, 1056, 1057, 1058] (by decide +kernel) (by decide +kernel)
set_option maxRecDepth 20000 in
theorem gL_law_X8_like : GoodIn wsL_law (wsV RL 73 RX8 yX8_like wsX8_like) := goodIn_app (goodIn_of _ (by decide +kernel)) ggL_law_X8_like
set_option maxRecDepth 20000 in
theorem ggL_law_X7_guard : GoodIn wsL_law wsX7_guard := goodIn_r _ [595, 104, 21, 596, 389, 597, 547, 548, 549, 2, 550, 551, 483, 470, 471, 20, 472, 53, 473, 490, 488, 489, 598, 599, 600, 601, 414, 468, 456, 457, 458, 302, 419, 420, 1027, 1028, 1029, 1030, 1031, 1032, 1033, 1034, 1035, 1066, 1067, 1068, 1069, 1070, 1071, 1072, 1073, 1088, 1089, 1090, 1091, 1092, 1093, 1094, 1095] (by decide +kernel) (by decide +kernel)
set_option maxRecDepth 20000 in
theorem gL_law_X7_guard : GoodIn wsL_law (wsV RL 74 RX7 yX7_guard wsX7_guard) := goodIn_app (goodIn_of _ (by decide +kernel)) ggL_law_X7_guard
set_option maxRecDepth 20000 in
theorem ggL_law_X8_guard : GoodIn wsL_law wsX8_guard := goodIn_r _ [605, 128, 90, 556, 557, 558, 5, 559, 132, 133, 134, 606, 607, 608, 609, 502, 503, 504, 505, 1036, 1037, 1038, 1039, 1040, 1041, 1042, 1043, 1044, 1045, 1046, 1047, 1048, 1049, 1050, 1051, 1052, 1053, 1054, 1055, 1056, 1057, 1058] (by decide +kernel) (by decide +kernel)
set_option maxRecDepth 20000 in
theorem gL_law_X8_guard : GoodIn wsL_law (wsV RL 77 RX8 yX8_guard wsX8_guard) := goodIn_app (goodIn_of _ (by decide +kernel)) ggL_law_X8_guard
set_option maxRecDepth 20000 in
theorem ggL_law_X7_tried : GoodIn wsL_law wsX7_tried := goodIn_r _ [613, 21, 389, 445, 104, 614, 615, 616, 1027, 1028, 1029, 1030, 1031, 1032, 1033, 1034, 1035, 1066, 1067, 1068, 1069, 1070, 1071, 1072, 1073, 1088, 1089, 1090, 1091, 1092, 1093, 1094, 1095] (by decide +kernel) (by decide +kernel)
set_option maxRecDepth 20000 in
theorem gL_law_X7_tried : GoodIn wsL_law (wsV RL 78 RX7 yX7_tried wsX7_tried) := goodIn_app (goodIn_of _ (by decide +kernel)) ggL_law_X7_tried
set_option maxRecDepth 20000 in
theorem ggL_law_X8_tried : GoodIn wsL_law wsX8_tried := goodIn_r _ [620, 90, 128, 99, 132, 133, 5, 134, 1036, 1037, 1038, 1039, 1040, 1041, 1042, 1043, 1044, 1045, 1046, 1047, 1048, 1049, 1050, 1051, 1052, 1053, 1054, 1055, 1056, 1057, 1058] (by decide +kernel) (by decide +kernel)
set_option maxRecDepth 20000 in
theorem gL_law_X8_tried : GoodIn wsL_law (wsV RL 81 RX8 yX8_tried wsX8_tried) := goodIn_app (goodIn_of _ (by decide +kernel)) ggL_law_X8_tried
set_option maxRecDepth 20000 in
theorem ggL_law_X7_secret : GoodIn wsL_law wsX7_secret := goodIn_r _ [624, 388, 21, 104, 391, 392, 393, 2, 394, 226, 625, 626, 627, 628, 409, 410, 411, 20, 412, 53, 413, 299, 300, 414, 415, 416, 417, 418, 301, 419, 420, 1027, 1028, 1029, 1030, 1031, 1032, 1033, 1034, 1035, 1066, 1067, 1068, 1069, 1070, 1071, 1072, 1073, 1088, 1089, 1090, 1091, 1092, 1093, 1094, 1095] (by decide +kernel) (by decide +kernel)
set_option maxRecDepth 20000 in
theorem gL_law_X7_secret : GoodIn wsL_law (wsV RL 82 RX7 yX7_secret wsX7_secret) := goodIn_app (goodIn_of _ (by decide +kernel)) ggL_law_X7_secret
set_option maxRecDepth 20000 in
theorem ggL_law_X8_secret : GoodIn wsL_law wsX8_secret := goodIn_r _ [632, 425, 90, 128, 426, 427, 428, 5, 429, 633, 634, 635, 132, 133, 134, 438, 439, 440, 1036, 1037, 1038, 1039, 1040, 1041, 1042, 1043, 1044, 1045, 1046, 1047, 1048, 1049, 1050, 1051, 1052, 1053, 1054, 1055, 1056, 1057, 1058] (by decide +kernel) (by decide +kernel)
set_option maxRecDepth 20000 in
theorem gL_law_X8_secret : GoodIn wsL_law (wsV RL 85 RX8 yX8_secret wsX8_secret) := goodIn_app (goodIn_of _ (by decide +kernel)) ggL_law_X8_secret
set_option maxRecDepth 20000 in
theorem ggL_law_X7_taken : GoodIn wsL_law wsX7_taken := goodIn_r _ [639, 104, 21, 447, 448, 449, 2, 450, 226, 451, 452, 453, 454, 625, 626, 627, 628, 459, 460, 461, 20, 462, 53, 414, 463, 410, 411, 412, 413, 299, 300, 415, 416, 417, 418, 301, 419, 420, 464, 465, 466, 467, 48, 468, 456, 457, 458, 302, 469, 470, 471, 472, 473, 474, 475, 476, 477, 478, 274, 275, 276, 47, 479, 480, 481, 482, 490, 488, 489, 1027, 1028, 1029, 1030, 1031, 1032, 1033, 1034, 1035, 1066, 1067, 1068, 1069, 1070, 1071, 1072, 1073, 1088, 1089, 1090, 1091, 1092, 1093, 1094, 1095] (by decide +kernel) (by decide +kernel)
set_option maxRecDepth 20000 in
theorem gL_law_X7_taken : GoodIn wsL_law (wsV RL 86 RX7 yX7_taken wsX7_taken) := goodIn_app (goodIn_of _ (by decide +kernel)) ggL_law_X7_taken
set_option maxRecDepth 20000 in
theorem ggL_law_X8_taken : GoodIn wsL_law wsX8_taken := goodIn_r _ [643, 128, 495, 496, 497, 5, 498, 90, 132, 133, 134, 499, 500, 501, 633, 634, 635, 506, 507, 508, 509, 438, 439, 440, 510, 511, 512, 513, 502, 503, 504, 505, 514, 515, 516, 517, 518, 519, 520, 521, 522, 523, 524, 525, 526, 527, 528, 529, 530, 531, 532, 1036, 1037, 1038, 1039, 1040, 1041, 1042, 1043, 1044, 1045, 1046, 1047, 1048, 1049, 1050, 1051, 1052, 1053, 1054, 1055, 1056, 1057, 1058] (by decide +kernel) (by decide +kernel)
set_option maxRecDepth 20000 in
theorem gL_law_X8_taken : GoodIn wsL_law (wsV RL 89 RX8 yX8_taken wsX8_taken) := goodIn_app (goodIn_of _ (by decide +kernel)) ggL_law_X8_taken
set_option maxRecDepth 20000 in
theorem ggL_law_X7_safe : GoodIn wsL_law wsX7_safe := goodIn_r _ [647, 388, 21, 104, 391, 392, 393, 2, 394, 226, 451, 452, 453, 454, 625, 626, 627, 628, 648, 649, 650, 20, 651, 301, 652, 460, 461, 462, 53, 414, 463, 410, 411, 412, 413, 299, 300, 415, 416, 417, 418, 419, 420, 464, 465, 466, 467, 48, 468, 456, 457, 458, 302, 469, 470, 471, 472, 473, 474, 475, 476, 477, 478, 274, 275, 276, 47, 479, 480, 481, 482, 488, 489, 1027, 1028, 1029, 1030, 1031, 1032, 1033, 1034, 1035, 1066, 1067, 1068, 1069, 1070, 1071, 1072, 1073, 1088, 1089, 1090, 1091, 1092, 1093, 1094, 1095] (by decide +kernel) (by decide +kernel)
set_option maxRecDepth 20000 in
theorem gL_law_X7_safe : GoodIn wsL_law (wsV RL 90 RX7 yX7_safe wsX7_safe) := goodIn_app (goodIn_of _ (by decide +kernel)) ggL_law_X7_safe
set_option maxRecDepth 20000 in
theorem ggL_law_X8_safe : GoodIn wsL_law wsX8_safe := goodIn_r _ [656, 425, 128, 90, 426, 427, 428, 5, 429, 499, 500, 501, 132, 133, 134, 633, 634, 635, 506, 507, 508, 509, 438, 439, 440, 510, 511, 512, 513, 502, 503, 504, 505, 514, 515, 516, 517, 518, 519, 520, 521, 522, 523, 524, 525, 526, 527, 528, 529, 530, 531, 532, 1036, 1037, 1038, 1039, 1040, 1041, 1042, 1043, 1044, 1045, 1046, 1047, 1048, 1049, 1050, 1051, 1052, 1053, 1054, 1055, 1056, 1057, 1058] (by decide +kernel) (by decide +kernel)
set_option maxRecDepth 20000 in
theorem gL_law_X8_safe : GoodIn wsL_law (wsV RL 93 RX8 yX8_safe wsX8_safe) := goodIn_app (goodIn_of _ (by decide +kernel)) ggL_law_X8_safe
set_option maxRecDepth 20000 in
theorem ggL_law_X7_open : GoodIn wsL_law wsX7_open := goodIn_r _ [660, 388, 21, 104, 391, 392, 393, 2, 394, 226, 661, 662, 663, 664, 625, 626, 627, 628, 665, 666, 667, 20, 668, 669, 649, 650, 651, 301, 652, 460, 461, 462, 53, 414, 463, 410, 411, 412, 413, 299, 300, 415, 416, 417, 418, 419, 420, 464, 465, 466, 467, 48, 468, 456, 457, 458, 302, 469, 470, 471, 472, 473, 474, 475, 476, 477, 478, 274, 275, 276, 47, 479, 480, 481, 482, 488, 489, 1027, 1028, 1029, 1030, 1031, 1032, 1033, 1034, 1035, 1066, 1067, 1068, 1069, 1070, 1071, 1072, 1073, 1088, 1089, 1090, 1091, 1092, 1093, 1094, 1095] (by decide +kernel) (by decide +kernel)
set_option maxRecDepth 20000 in
theorem gL_law_X7_open : GoodIn wsL_law (wsV RL 94 RX7 yX7_open wsX7_open) := goodIn_app (goodIn_of _ (by decide +kernel)) ggL_law_X7_open
set_option maxRecDepth 20000 in
theorem ggL_law_X8_open : GoodIn wsL_law wsX8_open := goodIn_r _ [673, 425, 128, 90, 426, 427, 428, 5, 429, 674, 675, 676, 677, 132, 133, 134, 633, 634, 635, 678, 679, 680, 681, 514, 515, 516, 438, 439, 440, 510, 511, 512, 513, 502, 503, 504, 505, 517, 518, 519, 520, 521, 522, 523, 524, 525, 526, 527, 528, 529, 530, 531, 532, 1036, 1037, 1038, 1039, 1040, 1041, 1042, 1043, 1044, 1045, 1046, 1047, 1048, 1049, 1050, 1051, 1052, 1053, 1054, 1055, 1056, 1057, 1058] (by decide +kernel) (by decide +kernel)
set_option maxRecDepth 20000 in
theorem gL_law_X8_open : GoodIn wsL_law (wsV RL 97 RX8 yX8_open wsX8_open) := goodIn_app (goodIn_of _ (by decide +kernel)) ggL_law_X8_open
set_option maxRecDepth 20000 in
theorem ggL_law_X7_next : GoodIn wsL_law wsX7_next := goodIn_r _ [685, 21, 104, 447, 448, 449, 2, 450, 226, 686, 687, 688, 20, 689, 690, 463, 410, 411, 412, 53, 413, 299, 300, 414, 415, 416, 417, 418, 301, 419, 420, 1027, 1028, 1029, 1030, 1031, 1032, 1033, 1034, 1035, 1066, 1067, 1068, 1069, 1070, 1071, 1072, 1073, 1088, 1089, 1090, 1091, 1092, 1093, 1094, 1095] (by decide +kernel) (by decide +kernel)
set_option maxRecDepth 20000 in
theorem gL_law_X7_next : GoodIn wsL_law (wsV RL 98 RX7 yX7_next wsX7_next) := goodIn_app (goodIn_of _ (by decide +kernel)) ggL_law_X7_next
set_option maxRecDepth 20000 in
theorem ggL_law_X8_next : GoodIn wsL_law wsX8_next := goodIn_r _ [694, 128, 90, 99, 495, 496, 497, 5, 498, 132, 133, 134, 438, 439, 440, 1036, 1037, 1038, 1039, 1040, 1041, 1042, 1043, 1044, 1045, 1046, 1047, 1048, 1049, 1050, 1051, 1052, 1053, 1054, 1055, 1056, 1057, 1058] (by decide +kernel) (by decide +kernel)
set_option maxRecDepth 20000 in
theorem gL_law_X8_next : GoodIn wsL_law (wsV RL 101 RX8 yX8_next wsX8_next) := goodIn_app (goodIn_of _ (by decide +kernel)) ggL_law_X8_next
set_option maxRecDepth 20000 in
theorem ggL_law_X7_agree : GoodIn wsL_law wsX7_agree := goodIn_r _ [698, 388, 21, 391, 392, 393, 2, 394, 226, 699, 700, 29, 701, 702, 703, 704, 705, 706, 707, 708, 709, 710, 711, 712, 713, 714, 475, 476, 20, 477, 478, 274, 275, 276, 47, 479, 480, 481, 482, 488, 489, 1027, 1028, 1029, 1030, 1031, 1032, 1033, 1034, 1035, 1066, 1067, 1068, 1069, 1070, 1071, 1072, 1073, 1088, 1089, 1090, 1091, 1092, 1093, 1094, 1095] (by decide +kernel) (by decide +kernel)
set_option maxRecDepth 20000 in
theorem gL_law_X7_agree : GoodIn wsL_law (wsV RL 102 RX7 yX7_agree wsX7_agree) := goodIn_app (goodIn_of _ (by decide +kernel)) ggL_law_X7_agree
set_option maxRecDepth 20000 in
theorem ggL_law_X8_agree : GoodIn wsL_law wsX8_agree := goodIn_r _ [718, 425, 426, 427, 428, 5, 429, 90, 719, 720, 721, 722, 517, 518, 519, 520, 521, 522, 523, 524, 525, 526, 527, 528, 529, 530, 531, 532, 1036, 1037, 1038, 1039, 1040, 1041, 1042, 1043, 1044, 1045, 1046, 1047, 1048, 1049, 1050, 1051, 1052, 1053, 1054, 1055, 1056, 1057, 1058] (by decide +kernel) (by decide +kernel)
set_option maxRecDepth 20000 in
theorem gL_law_X8_agree : GoodIn wsL_law (wsV RL 105 RX8 yX8_agree wsX8_agree) := goodIn_app (goodIn_of _ (by decide +kernel)) ggL_law_X8_agree
set_option maxRecDepth 20000 in
theorem ggL_law_X7_man : GoodIn wsL_law wsX7_man := goodIn_r _ [726, 388, 104, 21, 391, 392, 393, 2, 394, 226, 699, 700, 29, 701, 702, 703, 704, 705, 706, 707, 708, 709, 710, 711, 712, 713, 714, 475, 476, 20, 477, 478, 274, 275, 276, 47, 479, 480, 481, 482, 488, 489, 727, 728, 729, 730, 731, 732, 733, 734, 402, 735, 736, 737, 738, 739, 465, 466, 467, 48, 468, 456, 457, 458, 302, 419, 420, 469, 470, 471, 472, 53, 473, 474, 740, 741, 742, 743, 744, 745, 746, 747, 1027, 1028, 1029, 1030, 1031, 1032, 1033, 1034, 1035, 1066, 1067, 1068, 1069, 1070, 1071, 1072, 1073, 1088, 1089, 1090, 1091, 1092, 1093, 1094, 1095] (by decide +kernel) (by decide +kernel)
set_option maxRecDepth 20000 in
theorem gL_law_X7_man : GoodIn wsL_law (wsV RL 106 RX7 yX7_man wsX7_man) := goodIn_app (goodIn_of _ (by decide +kernel)) ggL_law_X7_man
set_option maxRecDepth 20000 in
theorem ggL_law_X8_man : GoodIn wsL_law wsX8_man := goodIn_r _ [751, 425, 128, 90, 426, 427, 428, 5, 429, 132, 133, 134, 719, 720, 721, 722, 517, 518, 519, 520, 521, 522, 523, 524, 525, 526, 527, 528, 529, 530, 531, 532, 752, 753, 754, 755, 756, 757, 758, 514, 515, 516, 510, 511, 512, 513, 502, 503, 504, 505, 1036, 1037, 1038, 1039, 1040, 1041, 1042, 1043, 1044, 1045, 1046, 1047, 1048, 1049, 1050, 1051, 1052, 1053, 1054, 1055, 1056, 1057, 1058] (by decide +kernel) (by decide +kernel)
set_option maxRecDepth 20000 in
theorem gL_law_X8_man : GoodIn wsL_law (wsV RL 109 RX8 yX8_man wsX8_man) := goodIn_app (goodIn_of _ (by decide +kernel)) ggL_law_X8_man
set_option maxRecDepth 20000 in
theorem ggL_law_X7_fewest : GoodIn wsL_law wsX7_fewest := goodIn_r _ [762, 388, 30, 21, 391, 392, 393, 2, 394, 226, 699, 700, 29, 701, 702, 703, 704, 705, 706, 707, 708, 709, 710, 711, 712, 713, 714, 475, 476, 20, 477, 478, 274, 275, 276, 47, 479, 480, 481, 482, 488, 489, 763, 764, 765, 766, 70, 71, 767, 736, 737, 738, 739, 465, 466, 467, 48, 468, 456, 457, 458, 302, 419, 420, 469, 470, 471, 472, 53, 473, 474, 740, 741, 742, 743, 744, 745, 746, 768, 769, 770, 771, 733, 734, 402, 735, 772, 401, 403, 1027, 1028, 1029, 1030, 1031, 1032, 1033, 1034, 1035, 1066, 1067, 1068, 1069, 1070, 1071, 1072, 1073, 1088, 1089, 1090, 1091, 1092, 1093, 1094, 1095, 1077, 1078] (by decide +kernel) (by decide +kernel)
set_option maxRecDepth 20000 in
theorem gL_law_X7_fewest : GoodIn wsL_law (wsV RL 110 RX7 yX7_fewest wsX7_fewest) := goodIn_app (goodIn_of _ (by decide +kernel)) ggL_law_X7_fewest
set_option maxRecDepth 20000 in
theorem ggL_law_X8_fewest : GoodIn wsL_law wsX8_fewest := goodIn_r _ [776, 425, 97, 426, 427, 428, 5, 429, 90, 719, 720, 721, 722, 517, 518, 519, 520, 521, 522, 523, 524, 525, 526, 527, 528, 529, 530, 531, 532, 777, 778, 779, 780, 99, 752, 753, 754, 755, 756, 757, 758, 514, 515, 516, 510, 511, 512, 513, 502, 503, 504, 505, 1036, 1037, 1038, 1039, 1040, 1041, 1042, 1043, 1044, 1045, 1046, 1047, 1048, 1049, 1050, 1051, 1052, 1053, 1054, 1055, 1056, 1057, 1058] (by decide +kernel) (by decide +kernel)
set_option maxRecDepth 20000 in
theorem gL_law_X8_fewest : GoodIn wsL_law (wsV RL 113 RX8 yX8_fewest wsX8_fewest) := goodIn_app (goodIn_of _ (by decide +kernel)) ggL_law_X8_fewest
set_option maxRecDepth 20000 in
theorem ggL_law_X7_march : GoodIn wsL_law wsX7_march := goodIn_r _ [784, 388, 104, 13, 391, 392, 393, 2, 394, 21, 226, 105, 106, 107, 108, 149, 150, 151, 36, 152, 80, 153, 154, 155, 156, 119, 109, 110, 111, 112, 113, 114, 785, 786, 787, 788, 177, 446, 447, 448, 449, 450, 789, 790, 791, 20, 792, 690, 652, 460, 461, 462, 53, 414, 463, 410, 411, 412, 413, 299, 300, 415, 416, 417, 418, 301, 419, 420, 464, 465, 466, 467, 48, 468, 456, 457, 458, 302, 469, 470, 471, 472, 473, 474, 475, 476, 477, 478, 274, 275, 276, 47, 479, 480, 481, 482, 120, 121, 122, 123, 1027, 1028, 1029, 1030, 1031, 1032, 1033, 1034, 1035, 1066, 1067, 1068, 1069, 1070, 1071, 1072, 1073, 1085, 1086, 1087, 1088, 1089, 1090, 1091, 1092, 1093, 1094, 1095] (by decide +kernel) (by decide +kernel)
set_option maxRecDepth 20000 in
theorem gL_law_X7_march : GoodIn wsL_law (wsV RL 114 RX7 yX7_march wsX7_march) := goodIn_app (goodIn_of _ (by decide +kernel)) ggL_law_X7_march
set_option maxRecDepth 20000 in
theorem ggL_law_X8_march : GoodIn wsL_law wsX8_march := goodIn_r _ [796, 425, 128, 99, 87, 426, 427, 428, 5, 429, 90, 129, 130, 131, 132, 133, 134, 165, 166, 167, 168, 85, 135, 136, 137, 138, 139, 140, 187, 188, 189, 190, 86, 495, 496, 497, 498, 506, 507, 508, 509, 438, 439, 440, 510, 511, 512, 513, 502, 503, 504, 505, 514, 515, 516, 517, 518, 519, 520, 521, 522, 523, 524, 525, 526, 527, 528, 529, 530, 531, 532, 141, 142, 143, 144, 1036, 1037, 1038, 1039, 1040, 1041, 1042, 1043, 1044, 1045, 1046, 1047, 1048, 1049, 1050, 1051, 1052, 1053, 1054, 1055, 1056, 1057, 1058] (by decide +kernel) (by decide +kernel)
set_option maxRecDepth 20000 in
theorem gL_law_X8_march : GoodIn wsL_law (wsV RL 118 RX8 yX8_march wsX8_march) := goodIn_app (goodIn_of _ (by decide +kernel)) ggL_law_X8_march
set_option maxRecDepth 20000 in
theorem ggL_law_X7_cheap : GoodIn wsL_law wsX7_cheap := goodIn_r _ [800, 388, 104, 21, 391, 392, 393, 2, 394, 226, 661, 662, 663, 664, 625, 626, 627, 628, 801, 802, 803, 20, 804, 53, 414, 669, 649, 650, 651, 301, 652, 460, 461, 462, 463, 410, 411, 412, 413, 299, 300, 415, 416, 417, 418, 419, 420, 464, 465, 466, 467, 48, 468, 456, 457, 458, 302, 469, 470, 471, 472, 473, 474, 475, 476, 477, 478, 274, 275, 276, 47, 479, 480, 481, 482, 488, 489, 805, 806, 807, 808, 49, 1027, 1028, 1029, 1030, 1031, 1032, 1033, 1034, 1035, 1066, 1067, 1068, 1069, 1070, 1071, 1072, 1073, 1088, 1089, 1090, 1091, 1092, 1093, 1094, 1095] (by decide +kernel) (by decide +kernel)
set_option maxRecDepth 20000 in
theorem gL_law_X7_cheap : GoodIn wsL_law (wsV RL 119 RX7 yX7_cheap wsX7_cheap) := goodIn_app (goodIn_of _ (by decide +kernel)) ggL_law_X7_cheap
set_option maxRecDepth 20000 in
theorem ggL_law_X8_cheap : GoodIn wsL_law wsX8_cheap := goodIn_r _ [812, 425, 128, 99, 90, 426, 427, 428, 5, 429, 674, 675, 676, 677, 132, 133, 134, 633, 634, 635, 514, 515, 516, 678, 679, 680, 681, 438, 439, 440, 510, 511, 512, 513, 502, 503, 504, 505, 517, 518, 519, 520, 521, 522, 523, 524, 525, 526, 527, 528, 529, 530, 531, 532, 752, 753, 754, 1036, 1037, 1038, 1039, 1040, 1041, 1042, 1043, 1044, 1045, 1046, 1047, 1048, 1049, 1050, 1051, 1052, 1053, 1054, 1055, 1056, 1057, 1058] (by decide +kernel) (by decide +kernel)
set_option maxRecDepth 20000 in
theorem gL_law_X8_cheap : GoodIn wsL_law (wsV RL 122 RX8 yX8_cheap wsX8_cheap) := goodIn_app (goodIn_of _ (by decide +kernel)) ggL_law_X8_cheap
set_option maxRecDepth 20000 in
theorem ggL_law_X7_near : GoodIn wsL_law wsX7_near := goodIn_r _ [816, 104, 21, 446, 447, 448, 449, 2, 450, 226, 817, 818, 819, 20, 820, 690, 301, 478, 274, 275, 276, 47, 586, 1027, 1028, 1029, 1030, 1031, 1032, 1033, 1034, 1035, 1066, 1067, 1068, 1069, 1070, 1071, 1072, 1073] (by decide +kernel) (by decide +kernel)
set_option maxRecDepth 20000 in
theorem gL_law_X7_near : GoodIn wsL_law (wsV RL 123 RX7 yX7_near wsX7_near) := goodIn_app (goodIn_of _ (by decide +kernel)) ggL_law_X7_near
set_option maxRecDepth 20000 in
theorem ggL_law_X8_near : GoodIn wsL_law wsX8_near := goodIn_r _ [824, 128, 99, 90, 495, 496, 497, 5, 498, 132, 133, 134, 525, 526, 527, 528, 1036, 1037, 1038, 1039, 1040, 1041, 1042, 1043, 1044, 1045, 1046, 1047, 1048, 1049, 1050, 1051, 1052, 1053, 1054, 1055, 1056, 1057, 1058] (by decide +kernel) (by decide +kernel)
set_option maxRecDepth 20000 in
theorem gL_law_X8_near : GoodIn wsL_law (wsV RL 126 RX8 yX8_near wsX8_near) := goodIn_app (goodIn_of _ (by decide +kernel)) ggL_law_X8_near
set_option maxRecDepth 20000 in
theorem ggL_law_X7_rules : GoodIn wsL_law wsX7_rules := goodIn_r _ [828, 388, 104, 13, 391, 392, 393, 2, 394, 21, 226, 105, 106, 107, 108, 149, 150, 151, 36, 152, 80, 153, 154, 155, 156, 119, 109, 110, 111, 112, 113, 114, 829, 830, 831, 832, 389, 537, 833, 834, 390, 177, 835, 416, 417, 20, 418, 301, 419, 420, 490, 488, 489, 120, 121, 122, 123, 1027, 1028, 1029, 1030, 1031, 1032, 1033, 1034, 1035, 1066, 1067, 1068, 1069, 1070, 1071, 1072, 1073, 1085, 1086, 1087, 1088, 1089, 1090, 1091, 1092, 1093, 1094, 1095] (by decide +kernel) (by decide +kernel)
set_option maxRecDepth 20000 in
theorem gL_law_X7_rules : GoodIn wsL_law (wsV RL 127 RX7 yX7_rules wsX7_rules) := goodIn_app (goodIn_of _ (by decide +kernel)) ggL_law_X7_rules
set_option maxRecDepth 20000 in
theorem ggL_law_X8_rules : GoodIn wsL_law wsX8_rules := goodIn_r _ [839, 425, 128, 90, 92, 87, 426, 427, 428, 5, 429, 129, 130, 131, 132, 133, 134, 165, 166, 167, 168, 85, 99, 135, 136, 137, 138, 139, 140, 187, 188, 189, 190, 86, 373, 374, 375, 438, 439, 440, 141, 142, 143, 144, 1036, 1037, 1038, 1039, 1040, 1041, 1042, 1043, 1044, 1045, 1046, 1047, 1048, 1049, 1050, 1051, 1052, 1053, 1054, 1055, 1056, 1057, 1058] (by decide +kernel) (by decide +kernel)
set_option maxRecDepth 20000 in
theorem gL_law_X8_rules : GoodIn wsL_law (wsV RL 130 RX8 yX8_rules wsX8_rules) := goodIn_app (goodIn_of _ (by decide +kernel)) ggL_law_X8_rules
set_option maxRecDepth 20000 in
theorem ggL_law_X7_fits : GoodIn wsL_law wsX7_fits := goodIn_r _ [843, 104, 13, 21, 226, 844, 547, 548, 549, 2, 550, 551, 105, 106, 107, 108, 149, 150, 151, 36, 152, 80, 153, 154, 155, 156, 119, 109, 110, 111, 112, 113, 114, 845, 846, 847, 848, 409, 410, 411, 20, 412, 53, 413, 299, 300, 414, 415, 416, 417, 418, 301, 419, 420, 849, 850, 851, 852, 389, 390, 177, 853, 475, 476, 477, 478, 274, 275, 276, 47, 479, 480, 481, 482, 490, 488, 489, 854, 855, 856, 857, 120, 121, 122, 123, 1027, 1028, 1029, 1030, 1031, 1032, 1033, 1034, 1035, 1066, 1067, 1068, 1069, 1070, 1071, 1072, 1073, 1085, 1086, 1087, 1088, 1089, 1090, 1091, 1092, 1093, 1094, 1095] (by decide +kernel) (by decide +kernel)
set_option maxRecDepth 20000 in
theorem gL_law_X7_fits : GoodIn wsL_law (wsV RL 131 RX7 yX7_fits wsX7_fits) := goodIn_app (goodIn_of _ (by decide +kernel)) ggL_law_X7_fits
set_option maxRecDepth 20000 in
theorem ggL_law_X8_fits : GoodIn wsL_law wsX8_fits := goodIn_r _ [861, 128, 90, 556, 557, 558, 5, 559, 132, 133, 134, 129, 130, 131, 165, 166, 167, 168, 85, 99, 135, 136, 137, 138, 139, 140, 187, 188, 189, 190, 86, 438, 439, 440, 862, 863, 864, 865, 87, 521, 522, 523, 524, 525, 526, 527, 528, 529, 530, 531, 532, 517, 518, 519, 520, 141, 142, 143, 144, 1036, 1037, 1038, 1039, 1040, 1041, 1042, 1043, 1044, 1045, 1046, 1047, 1048, 1049, 1050, 1051, 1052, 1053, 1054, 1055, 1056, 1057, 1058] (by decide +kernel) (by decide +kernel)
set_option maxRecDepth 20000 in
theorem gL_law_X8_fits : GoodIn wsL_law (wsV RL 134 RX8 yX8_fits wsX8_fits) := goodIn_app (goodIn_of _ (by decide +kernel)) ggL_law_X8_fits
set_option maxRecDepth 20000 in
theorem ggL_law_X7_sure : GoodIn wsL_law wsX7_sure := goodIn_r _ [869, 104, 21, 447, 448, 449, 2, 450, 226, 451, 452, 453, 454, 699, 700, 29, 701, 702, 703, 704, 705, 706, 707, 708, 709, 710, 711, 712, 713, 714, 475, 476, 20, 477, 478, 274, 275, 276, 47, 479, 480, 481, 482, 488, 489, 870, 741, 742, 743, 744, 745, 746, 871, 737, 738, 739, 465, 466, 467, 48, 468, 456, 457, 458, 302, 419, 420, 469, 470, 471, 472, 53, 473, 474, 872, 873, 874, 875, 876, 877, 1027, 1028, 1029, 1030, 1031, 1032, 1033, 1034, 1035, 1066, 1067, 1068, 1069, 1070, 1071, 1072, 1073, 1088, 1089, 1090, 1091, 1092, 1093, 1094, 1095] (by decide +kernel) (by decide +kernel)
set_option maxRecDepth 20000 in
theorem gL_law_X7_sure : GoodIn wsL_law (wsV RL 135 RX7 yX7_sure wsX7_sure) := goodIn_app (goodIn_of _ (by decide +kernel)) ggL_law_X7_sure
set_option maxRecDepth 20000 in
theorem ggL_law_X8_sure : GoodIn wsL_law wsX8_sure := goodIn_r _ [881, 128, 495, 496, 497, 5, 498, 90, 132, 133, 134, 499, 500, 501, 719, 720, 721, 722, 517, 518, 519, 520, 521, 522, 523, 524, 525, 526, 527, 528, 529, 530, 531, 532, 755, 756, 757, 758, 514, 515, 516, 510, 511, 512, 513, 502, 503, 504, 505, 752, 753, 754, 1036, 1037, 1038, 1039, 1040, 1041, 1042, 1043, 1044, 1045, 1046, 1047, 1048, 1049, 1050, 1051, 1052, 1053, 1054, 1055, 1056, 1057, 1058] (by decide +kernel) (by decide +kernel)
set_option maxRecDepth 20000 in
theorem gL_law_X8_sure : GoodIn wsL_law (wsV RL 138 RX8 yX8_sure wsX8_sure) := goodIn_app (goodIn_of _ (by decide +kernel)) ggL_law_X8_sure
set_option maxRecDepth 20000 in
theorem ggL_law_X7_drawn : GoodIn wsL_law wsX7_drawn := goodIn_r _ [885, 388, 886, 104, 887, 888, 21, 226, 391, 392, 393, 2, 394, 889, 419, 420, 459, 460, 461, 20, 462, 53, 414, 463, 410, 411, 412, 413, 299, 300, 415, 416, 417, 418, 301, 464, 465, 466, 467, 48, 468, 456, 457, 458, 302, 469, 470, 471, 472, 473, 474, 475, 476, 477, 478, 274, 275, 276, 47, 479, 480, 481, 482, 1027, 1028, 1029, 1030, 1031, 1032, 1033, 1034, 1035, 1066, 1067, 1068, 1069, 1070, 1071, 1072, 1073, 1088, 1089, 1090, 1091, 1092, 1093, 1094, 1095] (by decide +kernel) (by decide +kernel)
set_option maxRecDepth 20000 in
theorem gL_law_X7_drawn : GoodIn wsL_law (wsV RL 139 RX7 yX7_drawn wsX7_drawn) := goodIn_app (goodIn_of _ (by decide +kernel)) ggL_law_X7_drawn
set_option maxRecDepth 20000 in
theorem ggL_law_X8_drawn : GoodIn wsL_law wsX8_drawn := goodIn_r _ [893, 425, 894, 128, 895, 896, 90, 897, 426, 427, 428, 5, 429, 633, 634, 635, 132, 133, 134, 506, 507, 508, 509, 438, 439, 440, 510, 511, 512, 513, 502, 503, 504, 505, 514, 515, 516, 517, 518, 519, 520, 521, 522, 523, 524, 525, 526, 527, 528, 529, 530, 531, 532, 1036, 1037, 1038, 1039, 1040, 1041, 1042, 1043, 1044, 1045, 1046, 1047, 1048, 1049, 1050, 1051, 1052, 1053, 1054, 1055, 1056, 1057, 1058] (by decide +kernel) (by decide +kernel)
set_option maxRecDepth 20000 in
theorem gL_law_X8_drawn : GoodIn wsL_law (wsV RL 142 RX8 yX8_drawn wsX8_drawn) := goodIn_app (goodIn_of _ (by decide +kernel)) ggL_law_X8_drawn
set_option maxRecDepth 20000 in
theorem ggL_law_X7_image : GoodIn wsL_law wsX7_image := goodIn_r _ [901, 104, 388, 26, 21, 391, 392, 393, 2, 394, 226, 294, 295, 296, 20, 297, 47, 298, 179, 180, 181, 48, 49, 53, 299, 300, 301, 302, 303, 304, 305, 52, 306, 291, 307, 292, 293, 57, 308, 58, 59, 60, 1027, 1028, 1029, 1030, 1031, 1032, 1033, 1034, 1035, 1066, 1067, 1068, 1069, 1070, 1071, 1072, 1073, 1088, 1089, 1090, 1091, 1092, 1093, 1094, 1095] (by decide +kernel) (by decide +kernel)
set_option maxRecDepth 20000 in
theorem gL_law_X7_image : GoodIn wsL_law (wsV RL 143 RX7 yX7_image wsX7_image) := goodIn_app (goodIn_of _ (by decide +kernel)) ggL_law_X7_image
set_option maxRecDepth 20000 in
theorem ggL_law_X8_image : GoodIn wsL_law wsX8_image := goodIn_r _ [905, 128, 425, 90, 94, 96, 132, 133, 5, 134, 426, 427, 428, 429, 373, 374, 375, 1036, 1037, 1038, 1039, 1040, 1041, 1042, 1043, 1044, 1045, 1046, 1047, 1048, 1049, 1050, 1051, 1052, 1053, 1054, 1055, 1056, 1057, 1058] (by decide +kernel) (by decide +kernel)
set_option maxRecDepth 20000 in
theorem gL_law_X8_image : GoodIn wsL_law (wsV RL 146 RX8 yX8_image wsX8_image) := goodIn_app (goodIn_of _ (by decide +kernel)) ggL_law_X8_image
set_option maxRecDepth 20000 in
theorem ggL_law_X7_restore : GoodIn wsL_law wsX7_restore := goodIn_r _ [909, 104, 26, 226, 388, 21, 25, 294, 295, 296, 20, 297, 47, 298, 179, 180, 181, 48, 49, 53, 299, 300, 301, 302, 303, 304, 305, 52, 306, 291, 307, 292, 293, 57, 308, 58, 59, 60, 309, 310, 311, 24, 312, 313, 1027, 1028, 1029, 1030, 1031, 1032, 1033, 1034, 1035, 1066, 1067, 1068, 1069, 1070, 1071, 1072, 1073, 1088, 1089, 1090, 1091, 1092, 1093, 1094, 1095, 1074, 1075, 1076] (by decide +kernel) (by decide +kernel)
set_option maxRecDepth 20000 in
theorem gL_law_X7_restore : GoodIn wsL_law (wsV RL 147 RX7 yX7_restore wsX7_restore) := goodIn_app (goodIn_of _ (by decide +kernel)) ggL_law_X7_restore
set_option maxRecDepth 20000 in
theorem ggL_law_X8_restore : GoodIn wsL_law wsX8_restore := goodIn_r _ [913, 128, 96, 425, 94, 90, 323, 132, 133, 5, 134, 373, 374, 375, 1036, 1037, 1038, 1039, 1040, 1041, 1042, 1043, 1044, 1045, 1046, 1047, 1048, 1049, 1050, 1051, 1052, 1053, 1054, 1055, 1056, 1057, 1058] (by decide +kernel) (by decide +kernel)
set_option maxRecDepth 20000 in
theorem gL_law_X8_restore : GoodIn wsL_law (wsV RL 150 RX8 yX8_restore wsX8_restore) := goodIn_app (goodIn_of _ (by decide +kernel)) ggL_law_X8_restore
set_option maxRecDepth 20000 in
theorem ggL_law_X7_kind : GoodIn wsL_law wsX7_kind := goodIn_r _ [917, 21, 844, 104, 547, 548, 549, 2, 550, 551, 1027, 1028, 1029, 1030, 1031, 1032, 1033, 1034, 1035, 1066, 1067, 1068, 1069, 1070, 1071, 1072, 1073] (by decide +kernel) (by decide +kernel)
set_option maxRecDepth 20000 in
theorem gL_law_X7_kind : GoodIn wsL_law (wsV RL 151 RX7 yX7_kind wsX7_kind) := goodIn_app (goodIn_of _ (by decide +kernel)) ggL_law_X7_kind
set_option maxRecDepth 20000 in
theorem ggL_law_X8_kind : GoodIn wsL_law wsX8_kind := goodIn_r _ [921, 128, 556, 557, 558, 5, 559, 90, 132, 133, 134, 517, 518, 519, 520, 1036, 1037, 1038, 1039, 1040, 1041, 1042, 1043, 1044, 1045, 1046, 1047, 1048, 1049, 1050, 1051, 1052, 1053, 1054, 1055, 1056, 1057, 1058] (by decide +kernel) (by decide +kernel)
set_option maxRecDepth 20000 in
theorem gL_law_X8_kind : GoodIn wsL_law (wsV RL 154 RX8 yX8_kind wsX8_kind) := goodIn_app (goodIn_of _ (by decide +kernel)) ggL_law_X8_kind
set_option maxRecDepth 20000 in
theorem ggL_law_X7_as : GoodIn wsL_law wsX7_as := goodIn_r _ [925, 104, 21, 844, 547, 548, 549, 2, 550, 551, 926, 927, 33, 928, 929, 120, 121, 122, 123, 113, 109, 110, 111, 112, 114, 1027, 1028, 1029, 1030, 1031, 1032, 1033, 1034, 1035, 1066, 1067, 1068, 1069, 1070, 1071, 1072, 1073] (by decide +kernel) (by decide +kernel)
set_option maxRecDepth 20000 in
theorem gL_law_X7_as : GoodIn wsL_law (wsV RL 155 RX7 yX7_as wsX7_as) := goodIn_app (goodIn_of _ (by decide +kernel)) ggL_law_X7_as
set_option maxRecDepth 20000 in
theorem ggL_law_X8_as : GoodIn wsL_law wsX8_as := goodIn_r _ [933, 128, 556, 557, 558, 5, 559, 90, 132, 133, 134, 517, 518, 519, 520, 141, 142, 143, 144, 139, 135, 136, 137, 138, 140, 1036, 1037, 1038, 1039, 1040, 1041, 1042, 1043, 1044, 1045, 1046, 1047, 1048, 1049, 1050, 1051, 1052, 1053, 1054, 1055, 1056, 1057, 1058] (by decide +kernel) (by decide +kernel)
set_option maxRecDepth 20000 in
theorem gL_law_X8_as : GoodIn wsL_law (wsV RL 158 RX8 yX8_as wsX8_as) := goodIn_app (goodIn_of _ (by decide +kernel)) ggL_law_X8_as
set_option maxRecDepth 20000 in
theorem ggL_law_X7_ask : GoodIn wsL_law wsX7_ask := goodIn_r _ [937, 104, 34, 21, 844, 596, 389, 597, 547, 548, 549, 2, 550, 551, 938, 939, 940, 33, 941, 942, 943, 944, 945, 946, 947, 948, 949, 950, 951, 952, 953, 954, 955, 956, 957, 958, 959, 960, 961, 962, 963, 964, 965, 966, 967, 75, 1027, 1028, 1029, 1030, 1031, 1032, 1033, 1034, 1035, 1066, 1067, 1068, 1069, 1070, 1071, 1072, 1073, 1088, 1089, 1090, 1091, 1092, 1093, 1094, 1095, 1079, 1080, 1081, 1082, 1083, 1084] (by decide +kernel) (by decide +kernel)
set_option maxRecDepth 20000 in
theorem gL_law_X7_ask : GoodIn wsL_law (wsV RL 159 RX7 yX7_ask wsX7_ask) := goodIn_app (goodIn_of _ (by decide +kernel)) ggL_law_X7_ask
set_option maxRecDepth 20000 in
theorem ggL_law_X8_ask : GoodIn wsL_law wsX8_ask := goodIn_r _ [971, 128, 972, 556, 557, 558, 5, 559, 90, 132, 133, 134, 517, 518, 519, 520, 973, 974, 975, 976, 977, 978, 979, 980, 98, 981, 982, 983, 984, 985, 986, 987, 988, 989, 990, 991, 992, 1036, 1037, 1038, 1039, 1040, 1041, 1042, 1043, 1044, 1045, 1046, 1047, 1048, 1049, 1050, 1051, 1052, 1053, 1054, 1055, 1056, 1057, 1058] (by decide +kernel) (by decide +kernel)
set_option maxRecDepth 20000 in
theorem gL_law_X8_ask : GoodIn wsL_law (wsV RL 162 RX8 yX8_ask wsX8_ask) := goodIn_app (goodIn_of _ (by decide +kernel)) ggL_law_X8_ask
set_option maxRecDepth 20000 in
theorem ggL_law_X7_trace : GoodIn wsL_law wsX7_trace := goodIn_r _ [996, 34, 997, 446, 998, 1027, 1028, 1029, 1030, 1031, 1032, 1033, 1034, 1035, 1079, 1080, 1081, 1082, 1083, 1084] (by decide +kernel) (by decide +kernel)
set_option maxRecDepth 20000 in
theorem gL_law_X7_trace : GoodIn wsL_law (wsV RL 163 RX7 yX7_trace wsX7_trace) := goodIn_app (goodIn_of _ (by decide +kernel)) ggL_law_X7_trace
set_option maxRecDepth 20000 in
theorem ggL_law_X8_trace : GoodIn wsL_law wsX8_trace := goodIn_r _ [1002, 972, 98, 99, 132, 133, 5, 134, 1036, 1037, 1038, 1039, 1040, 1041, 1042, 1043, 1044, 1045, 1046, 1047, 1048, 1049, 1050, 1051, 1052, 1053, 1054, 1055, 1056, 1057, 1058] (by decide +kernel) (by decide +kernel)
set_option maxRecDepth 20000 in
theorem gL_law_X8_trace : GoodIn wsL_law (wsV RL 166 RX8 yX8_trace wsX8_trace) := goodIn_app (goodIn_of _ (by decide +kernel)) ggL_law_X8_trace
set_option maxRecDepth 20000 in
theorem ggL_law_X7_count : GoodIn wsL_law wsX7_count := goodIn_r _ [1006, 21, 226, 551, 389, 390, 445, 546, 25, 564, 17, 204, 537, 104, 1007, 1008, 1009, 2, 1010, 13, 176, 1011, 1012, 1013, 52, 1014, 57, 1027, 1028, 1029, 1030, 1031, 1032, 1033, 1034, 1035, 1066, 1067, 1068, 1069, 1070, 1071, 1072, 1073, 1088, 1089, 1090, 1091, 1092, 1093, 1094, 1095, 1074, 1075, 1076, 1059, 1060, 1061, 1062, 1063, 1064, 1065, 1085, 1086, 1087] (by decide +kernel) (by decide +kernel)
set_option maxRecDepth 20000 in
theorem gL_law_X7_count : GoodIn wsL_law (wsV RL 167 RX7 yX7_count wsX7_count) := goodIn_app (goodIn_of _ (by decide +kernel)) ggL_law_X7_count
set_option maxRecDepth 20000 in
theorem ggL_law_X8_count : GoodIn wsL_law wsX8_count := goodIn_r _ [1018, 90, 323, 215, 128, 165, 166, 167, 5, 168, 85, 99, 1036, 1037, 1038, 1039, 1040, 1041, 1042, 1043, 1044, 1045, 1046, 1047, 1048, 1049, 1050, 1051, 1052, 1053, 1054, 1055, 1056, 1057, 1058] (by decide +kernel) (by decide +kernel)
set_option maxRecDepth 20000 in
theorem gL_law_X8_count : GoodIn wsL_law (wsV RL 170 RX8 yX8_count wsX8_count) := goodIn_app (goodIn_of _ (by decide +kernel)) ggL_law_X8_count
set_option maxRecDepth 20000 in
theorem ggL_law_X7_status : GoodIn wsL_law wsX7_status := goodIn_r _ [1022, 113, 1027, 1028, 1029, 1030, 1031, 1032, 1033, 1034, 1035] (by decide +kernel) (by decide +kernel)
set_option maxRecDepth 20000 in
theorem gL_law_X7_status : GoodIn wsL_law (wsV RL 171 RX7 yX7_status wsX7_status) := goodIn_app (goodIn_of _ (by decide +kernel)) ggL_law_X7_status
set_option maxRecDepth 20000 in
theorem ggL_law_X8_status : GoodIn wsL_law wsX8_status := goodIn_r _ [1026, 139, 1036, 1037, 1038, 1039, 1040, 1041, 1042, 1043, 1044, 1045, 1046, 1047, 1048, 1049, 1050, 1051, 1052, 1053, 1054, 1055, 1056, 1057, 1058] (by decide +kernel) (by decide +kernel)
set_option maxRecDepth 20000 in
theorem gL_law_X8_status : GoodIn wsL_law (wsV RL 174 RX8 yX8_status wsX8_status) := goodIn_app (goodIn_of _ (by decide +kernel)) ggL_law_X8_status
theorem dL_law_0 : decode cL_law 0 = .ok (.new 7, 3) := by decide +kernel
theorem dL_law_3 : decode cL_law 3 = .ok (.dup, 1) := by decide +kernel
theorem dL_law_4 : decode cL_law 4 = .ok (.invokespecial 9, 3) := by decide +kernel
theorem dL_law_7 : decode cL_law 7 = .ok (.astore_n 1, 1) := by decide +kernel
theorem dL_law_8 : decode cL_law 8 = .ok (.new 10, 3) := by decide +kernel
theorem dL_law_11 : decode cL_law 11 = .ok (.dup, 1) := by decide +kernel
theorem dL_law_12 : decode cL_law 12 = .ok (.invokespecial 12, 3) := by decide +kernel
theorem dL_law_15 : decode cL_law 15 = .ok (.astore_n 2, 1) := by decide +kernel
theorem dL_law_16 : decode cL_law 16 = .ok (.iconst 0, 1) := by decide +kernel
theorem dL_law_17 : decode cL_law 17 = .ok (.istore_n 3, 1) := by decide +kernel
theorem dL_law_18 : decode cL_law 18 = .ok (.iload_n 3, 1) := by decide +kernel
theorem dL_law_19 : decode cL_law 19 = .ok (.aload_n 0, 1) := by decide +kernel
theorem dL_law_20 : decode cL_law 20 = .ok (.arraylength, 1) := by decide +kernel
theorem dL_law_21 : decode cL_law 21 = .ok (.bipush 6, 2) := by decide +kernel
theorem dL_law_23 : decode cL_law 23 = .ok (.isub, 1) := by decide +kernel
theorem dL_law_24 : decode cL_law 24 = .ok (.if_icmp .gt 1403, 3) := by decide +kernel
theorem dL_law_27 : decode cL_law 27 = .ok (.aload_n 0, 1) := by decide +kernel
theorem dL_law_28 : decode cL_law 28 = .ok (.iload_n 3, 1) := by decide +kernel
theorem dL_law_29 : decode cL_law 29 = .ok (.iaload, 1) := by decide +kernel
theorem dL_law_30 : decode cL_law 30 = .ok (.bipush 63, 2) := by decide +kernel
theorem dL_law_32 : decode cL_law 32 = .ok (.iand, 1) := by decide +kernel
theorem dL_law_33 : decode cL_law 33 = .ok (.tableswitch 1388 0 38 #[171, 214, 257, 320, 343, 366, 379, 392, 415, 448, 471, 504, 517, 550, 593, 626, 659, 682, 725, 758, 791, 814, 827, 850, 863, 916, 959, 992, 1045, 1098, 1151, 1194, 1217, 1240, 1263, 1296, 1329, 1352, 1375], 171) := by decide +kernel
theorem dL_law_204 : decode cL_law 204 = .ok (.aload_n 1, 1) := by decide +kernel
theorem dL_law_205 : decode cL_law 205 = .ok (.aload_n 0, 1) := by decide +kernel
theorem dL_law_206 : decode cL_law 206 = .ok (.iload_n 3, 1) := by decide +kernel
theorem dL_law_207 : decode cL_law 207 = .ok (.iconst 1, 1) := by decide +kernel
theorem dL_law_208 : decode cL_law 208 = .ok (.iadd, 1) := by decide +kernel
theorem dL_law_209 : decode cL_law 209 = .ok (.iaload, 1) := by decide +kernel
theorem dL_law_210 : decode cL_law 210 = .ok (.aload_n 0, 1) := by decide +kernel
theorem dL_law_211 : decode cL_law 211 = .ok (.iload_n 3, 1) := by decide +kernel
theorem dL_law_212 : decode cL_law 212 = .ok (.iconst 2, 1) := by decide +kernel
theorem dL_law_213 : decode cL_law 213 = .ok (.iadd, 1) := by decide +kernel
theorem dL_law_214 : decode cL_law 214 = .ok (.iaload, 1) := by decide +kernel
theorem dL_law_215 : decode cL_law 215 = .ok (.aload_n 0, 1) := by decide +kernel
theorem dL_law_216 : decode cL_law 216 = .ok (.iload_n 3, 1) := by decide +kernel
theorem dL_law_217 : decode cL_law 217 = .ok (.iconst 3, 1) := by decide +kernel
theorem dL_law_218 : decode cL_law 218 = .ok (.iadd, 1) := by decide +kernel
theorem dL_law_219 : decode cL_law 219 = .ok (.iaload, 1) := by decide +kernel
theorem dL_law_220 : decode cL_law 220 = .ok (.invokevirtual 13, 3) := by decide +kernel
theorem dL_law_223 : decode cL_law 223 = .ok (.aload_n 2, 1) := by decide +kernel
theorem dL_law_224 : decode cL_law 224 = .ok (.aload_n 0, 1) := by decide +kernel
theorem dL_law_225 : decode cL_law 225 = .ok (.iload_n 3, 1) := by decide +kernel
theorem dL_law_226 : decode cL_law 226 = .ok (.iconst 1, 1) := by decide +kernel
theorem dL_law_227 : decode cL_law 227 = .ok (.iadd, 1) := by decide +kernel
theorem dL_law_228 : decode cL_law 228 = .ok (.iaload, 1) := by decide +kernel
theorem dL_law_229 : decode cL_law 229 = .ok (.aload_n 0, 1) := by decide +kernel
theorem dL_law_230 : decode cL_law 230 = .ok (.iload_n 3, 1) := by decide +kernel
theorem dL_law_231 : decode cL_law 231 = .ok (.iconst 2, 1) := by decide +kernel
theorem dL_law_232 : decode cL_law 232 = .ok (.iadd, 1) := by decide +kernel
theorem dL_law_233 : decode cL_law 233 = .ok (.iaload, 1) := by decide +kernel
theorem dL_law_234 : decode cL_law 234 = .ok (.aload_n 0, 1) := by decide +kernel
theorem dL_law_235 : decode cL_law 235 = .ok (.iload_n 3, 1) := by decide +kernel
theorem dL_law_236 : decode cL_law 236 = .ok (.iconst 3, 1) := by decide +kernel
theorem dL_law_237 : decode cL_law 237 = .ok (.iadd, 1) := by decide +kernel
theorem dL_law_238 : decode cL_law 238 = .ok (.iaload, 1) := by decide +kernel
theorem dL_law_239 : decode cL_law 239 = .ok (.invokevirtual 17, 3) := by decide +kernel
theorem dL_law_242 : decode cL_law 242 = .ok (.if_icmp .eq 1179, 3) := by decide +kernel
theorem dL_law_245 : decode cL_law 245 = .ok (.iconst 0, 1) := by decide +kernel
theorem dL_law_246 : decode cL_law 246 = .ok (.ireturn, 1) := by decide +kernel
theorem dL_law_247 : decode cL_law 247 = .ok (.aload_n 1, 1) := by decide +kernel
theorem dL_law_248 : decode cL_law 248 = .ok (.aload_n 0, 1) := by decide +kernel
theorem dL_law_249 : decode cL_law 249 = .ok (.iload_n 3, 1) := by decide +kernel
theorem dL_law_250 : decode cL_law 250 = .ok (.iconst 1, 1) := by decide +kernel
theorem dL_law_251 : decode cL_law 251 = .ok (.iadd, 1) := by decide +kernel
theorem dL_law_252 : decode cL_law 252 = .ok (.iaload, 1) := by decide +kernel
theorem dL_law_253 : decode cL_law 253 = .ok (.aload_n 0, 1) := by decide +kernel
theorem dL_law_254 : decode cL_law 254 = .ok (.iload_n 3, 1) := by decide +kernel
theorem dL_law_255 : decode cL_law 255 = .ok (.iconst 2, 1) := by decide +kernel
theorem dL_law_256 : decode cL_law 256 = .ok (.iadd, 1) := by decide +kernel
theorem dL_law_257 : decode cL_law 257 = .ok (.iaload, 1) := by decide +kernel
theorem dL_law_258 : decode cL_law 258 = .ok (.aload_n 0, 1) := by decide +kernel
theorem dL_law_259 : decode cL_law 259 = .ok (.iload_n 3, 1) := by decide +kernel
theorem dL_law_260 : decode cL_law 260 = .ok (.iconst 3, 1) := by decide +kernel
theorem dL_law_261 : decode cL_law 261 = .ok (.iadd, 1) := by decide +kernel
theorem dL_law_262 : decode cL_law 262 = .ok (.iaload, 1) := by decide +kernel
theorem dL_law_263 : decode cL_law 263 = .ok (.invokevirtual 18, 3) := by decide +kernel
theorem dL_law_266 : decode cL_law 266 = .ok (.aload_n 2, 1) := by decide +kernel
theorem dL_law_267 : decode cL_law 267 = .ok (.aload_n 0, 1) := by decide +kernel
theorem dL_law_268 : decode cL_law 268 = .ok (.iload_n 3, 1) := by decide +kernel
theorem dL_law_269 : decode cL_law 269 = .ok (.iconst 1, 1) := by decide +kernel
theorem dL_law_270 : decode cL_law 270 = .ok (.iadd, 1) := by decide +kernel
theorem dL_law_271 : decode cL_law 271 = .ok (.iaload, 1) := by decide +kernel
theorem dL_law_272 : decode cL_law 272 = .ok (.aload_n 0, 1) := by decide +kernel
theorem dL_law_273 : decode cL_law 273 = .ok (.iload_n 3, 1) := by decide +kernel
theorem dL_law_274 : decode cL_law 274 = .ok (.iconst 2, 1) := by decide +kernel
theorem dL_law_275 : decode cL_law 275 = .ok (.iadd, 1) := by decide +kernel
theorem dL_law_276 : decode cL_law 276 = .ok (.iaload, 1) := by decide +kernel
theorem dL_law_277 : decode cL_law 277 = .ok (.aload_n 0, 1) := by decide +kernel
theorem dL_law_278 : decode cL_law 278 = .ok (.iload_n 3, 1) := by decide +kernel
theorem dL_law_279 : decode cL_law 279 = .ok (.iconst 3, 1) := by decide +kernel
theorem dL_law_280 : decode cL_law 280 = .ok (.iadd, 1) := by decide +kernel
theorem dL_law_281 : decode cL_law 281 = .ok (.iaload, 1) := by decide +kernel
theorem dL_law_282 : decode cL_law 282 = .ok (.invokevirtual 21, 3) := by decide +kernel
theorem dL_law_285 : decode cL_law 285 = .ok (.if_icmp .eq 1136, 3) := by decide +kernel
theorem dL_law_288 : decode cL_law 288 = .ok (.iconst 0, 1) := by decide +kernel
theorem dL_law_289 : decode cL_law 289 = .ok (.ireturn, 1) := by decide +kernel
theorem dL_law_290 : decode cL_law 290 = .ok (.aload_n 1, 1) := by decide +kernel
theorem dL_law_291 : decode cL_law 291 = .ok (.aload_n 0, 1) := by decide +kernel
theorem dL_law_292 : decode cL_law 292 = .ok (.iload_n 3, 1) := by decide +kernel
theorem dL_law_293 : decode cL_law 293 = .ok (.iconst 1, 1) := by decide +kernel
theorem dL_law_294 : decode cL_law 294 = .ok (.iadd, 1) := by decide +kernel
theorem dL_law_295 : decode cL_law 295 = .ok (.iaload, 1) := by decide +kernel
theorem dL_law_296 : decode cL_law 296 = .ok (.aload_n 0, 1) := by decide +kernel
theorem dL_law_297 : decode cL_law 297 = .ok (.iload_n 3, 1) := by decide +kernel
theorem dL_law_298 : decode cL_law 298 = .ok (.iconst 2, 1) := by decide +kernel
theorem dL_law_299 : decode cL_law 299 = .ok (.iadd, 1) := by decide +kernel
theorem dL_law_300 : decode cL_law 300 = .ok (.iaload, 1) := by decide +kernel
theorem dL_law_301 : decode cL_law 301 = .ok (.aload_n 0, 1) := by decide +kernel
theorem dL_law_302 : decode cL_law 302 = .ok (.iload_n 3, 1) := by decide +kernel
theorem dL_law_303 : decode cL_law 303 = .ok (.iconst 3, 1) := by decide +kernel
theorem dL_law_304 : decode cL_law 304 = .ok (.iadd, 1) := by decide +kernel
theorem dL_law_305 : decode cL_law 305 = .ok (.iaload, 1) := by decide +kernel
theorem dL_law_306 : decode cL_law 306 = .ok (.aload_n 0, 1) := by decide +kernel
theorem dL_law_307 : decode cL_law 307 = .ok (.iload_n 3, 1) := by decide +kernel
theorem dL_law_308 : decode cL_law 308 = .ok (.iconst 4, 1) := by decide +kernel
theorem dL_law_309 : decode cL_law 309 = .ok (.iadd, 1) := by decide +kernel
theorem dL_law_310 : decode cL_law 310 = .ok (.iaload, 1) := by decide +kernel
theorem dL_law_311 : decode cL_law 311 = .ok (.aload_n 0, 1) := by decide +kernel
theorem dL_law_312 : decode cL_law 312 = .ok (.iload_n 3, 1) := by decide +kernel
theorem dL_law_313 : decode cL_law 313 = .ok (.iconst 5, 1) := by decide +kernel
theorem dL_law_314 : decode cL_law 314 = .ok (.iadd, 1) := by decide +kernel
theorem dL_law_315 : decode cL_law 315 = .ok (.iaload, 1) := by decide +kernel
theorem dL_law_316 : decode cL_law 316 = .ok (.invokevirtual 22, 3) := by decide +kernel
theorem dL_law_319 : decode cL_law 319 = .ok (.aload_n 2, 1) := by decide +kernel
theorem dL_law_320 : decode cL_law 320 = .ok (.aload_n 0, 1) := by decide +kernel
theorem dL_law_321 : decode cL_law 321 = .ok (.iload_n 3, 1) := by decide +kernel
theorem dL_law_322 : decode cL_law 322 = .ok (.iconst 1, 1) := by decide +kernel
theorem dL_law_323 : decode cL_law 323 = .ok (.iadd, 1) := by decide +kernel
theorem dL_law_324 : decode cL_law 324 = .ok (.iaload, 1) := by decide +kernel
theorem dL_law_325 : decode cL_law 325 = .ok (.aload_n 0, 1) := by decide +kernel
theorem dL_law_326 : decode cL_law 326 = .ok (.iload_n 3, 1) := by decide +kernel
theorem dL_law_327 : decode cL_law 327 = .ok (.iconst 2, 1) := by decide +kernel
theorem dL_law_328 : decode cL_law 328 = .ok (.iadd, 1) := by decide +kernel
theorem dL_law_329 : decode cL_law 329 = .ok (.iaload, 1) := by decide +kernel
theorem dL_law_330 : decode cL_law 330 = .ok (.aload_n 0, 1) := by decide +kernel
theorem dL_law_331 : decode cL_law 331 = .ok (.iload_n 3, 1) := by decide +kernel
theorem dL_law_332 : decode cL_law 332 = .ok (.iconst 3, 1) := by decide +kernel
theorem dL_law_333 : decode cL_law 333 = .ok (.iadd, 1) := by decide +kernel
theorem dL_law_334 : decode cL_law 334 = .ok (.iaload, 1) := by decide +kernel
theorem dL_law_335 : decode cL_law 335 = .ok (.aload_n 0, 1) := by decide +kernel
theorem dL_law_336 : decode cL_law 336 = .ok (.iload_n 3, 1) := by decide +kernel
theorem dL_law_337 : decode cL_law 337 = .ok (.iconst 4, 1) := by decide +kernel
theorem dL_law_338 : decode cL_law 338 = .ok (.iadd, 1) := by decide +kernel
theorem dL_law_339 : decode cL_law 339 = .ok (.iaload, 1) := by decide +kernel
theorem dL_law_340 : decode cL_law 340 = .ok (.aload_n 0, 1) := by decide +kernel
theorem dL_law_341 : decode cL_law 341 = .ok (.iload_n 3, 1) := by decide +kernel
theorem dL_law_342 : decode cL_law 342 = .ok (.iconst 5, 1) := by decide +kernel
theorem dL_law_343 : decode cL_law 343 = .ok (.iadd, 1) := by decide +kernel
theorem dL_law_344 : decode cL_law 344 = .ok (.iaload, 1) := by decide +kernel
theorem dL_law_345 : decode cL_law 345 = .ok (.invokevirtual 26, 3) := by decide +kernel
theorem dL_law_348 : decode cL_law 348 = .ok (.if_icmp .eq 1073, 3) := by decide +kernel
theorem dL_law_351 : decode cL_law 351 = .ok (.iconst 0, 1) := by decide +kernel
theorem dL_law_352 : decode cL_law 352 = .ok (.ireturn, 1) := by decide +kernel
theorem dL_law_353 : decode cL_law 353 = .ok (.aload_n 1, 1) := by decide +kernel
theorem dL_law_354 : decode cL_law 354 = .ok (.aload_n 0, 1) := by decide +kernel
theorem dL_law_355 : decode cL_law 355 = .ok (.iload_n 3, 1) := by decide +kernel
theorem dL_law_356 : decode cL_law 356 = .ok (.iconst 1, 1) := by decide +kernel
theorem dL_law_357 : decode cL_law 357 = .ok (.iadd, 1) := by decide +kernel
theorem dL_law_358 : decode cL_law 358 = .ok (.iaload, 1) := by decide +kernel
theorem dL_law_359 : decode cL_law 359 = .ok (.invokevirtual 27, 3) := by decide +kernel
theorem dL_law_362 : decode cL_law 362 = .ok (.aload_n 2, 1) := by decide +kernel
theorem dL_law_363 : decode cL_law 363 = .ok (.aload_n 0, 1) := by decide +kernel
theorem dL_law_364 : decode cL_law 364 = .ok (.iload_n 3, 1) := by decide +kernel
theorem dL_law_365 : decode cL_law 365 = .ok (.iconst 1, 1) := by decide +kernel
theorem dL_law_366 : decode cL_law 366 = .ok (.iadd, 1) := by decide +kernel
theorem dL_law_367 : decode cL_law 367 = .ok (.iaload, 1) := by decide +kernel
theorem dL_law_368 : decode cL_law 368 = .ok (.invokevirtual 31, 3) := by decide +kernel
theorem dL_law_371 : decode cL_law 371 = .ok (.if_icmp .eq 1050, 3) := by decide +kernel
theorem dL_law_374 : decode cL_law 374 = .ok (.iconst 0, 1) := by decide +kernel
theorem dL_law_375 : decode cL_law 375 = .ok (.ireturn, 1) := by decide +kernel
theorem dL_law_376 : decode cL_law 376 = .ok (.aload_n 1, 1) := by decide +kernel
theorem dL_law_377 : decode cL_law 377 = .ok (.aload_n 0, 1) := by decide +kernel
theorem dL_law_378 : decode cL_law 378 = .ok (.iload_n 3, 1) := by decide +kernel
theorem dL_law_379 : decode cL_law 379 = .ok (.iconst 1, 1) := by decide +kernel
theorem dL_law_380 : decode cL_law 380 = .ok (.iadd, 1) := by decide +kernel
theorem dL_law_381 : decode cL_law 381 = .ok (.iaload, 1) := by decide +kernel
theorem dL_law_382 : decode cL_law 382 = .ok (.invokevirtual 32, 3) := by decide +kernel
theorem dL_law_385 : decode cL_law 385 = .ok (.aload_n 2, 1) := by decide +kernel
theorem dL_law_386 : decode cL_law 386 = .ok (.aload_n 0, 1) := by decide +kernel
theorem dL_law_387 : decode cL_law 387 = .ok (.iload_n 3, 1) := by decide +kernel
theorem dL_law_388 : decode cL_law 388 = .ok (.iconst 1, 1) := by decide +kernel
theorem dL_law_389 : decode cL_law 389 = .ok (.iadd, 1) := by decide +kernel
theorem dL_law_390 : decode cL_law 390 = .ok (.iaload, 1) := by decide +kernel
theorem dL_law_391 : decode cL_law 391 = .ok (.invokevirtual 35, 3) := by decide +kernel
theorem dL_law_394 : decode cL_law 394 = .ok (.if_icmp .eq 1027, 3) := by decide +kernel
theorem dL_law_397 : decode cL_law 397 = .ok (.iconst 0, 1) := by decide +kernel
theorem dL_law_398 : decode cL_law 398 = .ok (.ireturn, 1) := by decide +kernel
theorem dL_law_399 : decode cL_law 399 = .ok (.aload_n 1, 1) := by decide +kernel
theorem dL_law_400 : decode cL_law 400 = .ok (.invokevirtual 36, 3) := by decide +kernel
theorem dL_law_403 : decode cL_law 403 = .ok (.aload_n 2, 1) := by decide +kernel
theorem dL_law_404 : decode cL_law 404 = .ok (.invokevirtual 40, 3) := by decide +kernel
theorem dL_law_407 : decode cL_law 407 = .ok (.if_icmp .eq 1014, 3) := by decide +kernel
theorem dL_law_410 : decode cL_law 410 = .ok (.iconst 0, 1) := by decide +kernel
theorem dL_law_411 : decode cL_law 411 = .ok (.ireturn, 1) := by decide +kernel
theorem dL_law_412 : decode cL_law 412 = .ok (.aload_n 1, 1) := by decide +kernel
theorem dL_law_413 : decode cL_law 413 = .ok (.invokevirtual 41, 3) := by decide +kernel
theorem dL_law_416 : decode cL_law 416 = .ok (.aload_n 2, 1) := by decide +kernel
theorem dL_law_417 : decode cL_law 417 = .ok (.invokevirtual 44, 3) := by decide +kernel
theorem dL_law_420 : decode cL_law 420 = .ok (.if_icmp .eq 1001, 3) := by decide +kernel
theorem dL_law_423 : decode cL_law 423 = .ok (.iconst 0, 1) := by decide +kernel
theorem dL_law_424 : decode cL_law 424 = .ok (.ireturn, 1) := by decide +kernel
theorem dL_law_425 : decode cL_law 425 = .ok (.aload_n 1, 1) := by decide +kernel
theorem dL_law_426 : decode cL_law 426 = .ok (.aload_n 0, 1) := by decide +kernel
theorem dL_law_427 : decode cL_law 427 = .ok (.iload_n 3, 1) := by decide +kernel
theorem dL_law_428 : decode cL_law 428 = .ok (.iconst 1, 1) := by decide +kernel
theorem dL_law_429 : decode cL_law 429 = .ok (.iadd, 1) := by decide +kernel
theorem dL_law_430 : decode cL_law 430 = .ok (.iaload, 1) := by decide +kernel
theorem dL_law_431 : decode cL_law 431 = .ok (.invokevirtual 45, 3) := by decide +kernel
theorem dL_law_434 : decode cL_law 434 = .ok (.aload_n 2, 1) := by decide +kernel
theorem dL_law_435 : decode cL_law 435 = .ok (.aload_n 0, 1) := by decide +kernel
theorem dL_law_436 : decode cL_law 436 = .ok (.iload_n 3, 1) := by decide +kernel
theorem dL_law_437 : decode cL_law 437 = .ok (.iconst 1, 1) := by decide +kernel
theorem dL_law_438 : decode cL_law 438 = .ok (.iadd, 1) := by decide +kernel
theorem dL_law_439 : decode cL_law 439 = .ok (.iaload, 1) := by decide +kernel
theorem dL_law_440 : decode cL_law 440 = .ok (.invokevirtual 48, 3) := by decide +kernel
theorem dL_law_443 : decode cL_law 443 = .ok (.if_icmp .eq 978, 3) := by decide +kernel
theorem dL_law_446 : decode cL_law 446 = .ok (.iconst 0, 1) := by decide +kernel
theorem dL_law_447 : decode cL_law 447 = .ok (.ireturn, 1) := by decide +kernel
theorem dL_law_448 : decode cL_law 448 = .ok (.aload_n 1, 1) := by decide +kernel
theorem dL_law_449 : decode cL_law 449 = .ok (.aload_n 0, 1) := by decide +kernel
theorem dL_law_450 : decode cL_law 450 = .ok (.iload_n 3, 1) := by decide +kernel
theorem dL_law_451 : decode cL_law 451 = .ok (.iconst 1, 1) := by decide +kernel
theorem dL_law_452 : decode cL_law 452 = .ok (.iadd, 1) := by decide +kernel
theorem dL_law_453 : decode cL_law 453 = .ok (.iaload, 1) := by decide +kernel
theorem dL_law_454 : decode cL_law 454 = .ok (.aload_n 0, 1) := by decide +kernel
theorem dL_law_455 : decode cL_law 455 = .ok (.iload_n 3, 1) := by decide +kernel
theorem dL_law_456 : decode cL_law 456 = .ok (.iconst 2, 1) := by decide +kernel
theorem dL_law_457 : decode cL_law 457 = .ok (.iadd, 1) := by decide +kernel
theorem dL_law_458 : decode cL_law 458 = .ok (.iaload, 1) := by decide +kernel
theorem dL_law_459 : decode cL_law 459 = .ok (.invokevirtual 49, 3) := by decide +kernel
theorem dL_law_462 : decode cL_law 462 = .ok (.aload_n 2, 1) := by decide +kernel
theorem dL_law_463 : decode cL_law 463 = .ok (.aload_n 0, 1) := by decide +kernel
theorem dL_law_464 : decode cL_law 464 = .ok (.iload_n 3, 1) := by decide +kernel
theorem dL_law_465 : decode cL_law 465 = .ok (.iconst 1, 1) := by decide +kernel
theorem dL_law_466 : decode cL_law 466 = .ok (.iadd, 1) := by decide +kernel
theorem dL_law_467 : decode cL_law 467 = .ok (.iaload, 1) := by decide +kernel
theorem dL_law_468 : decode cL_law 468 = .ok (.aload_n 0, 1) := by decide +kernel
theorem dL_law_469 : decode cL_law 469 = .ok (.iload_n 3, 1) := by decide +kernel
theorem dL_law_470 : decode cL_law 470 = .ok (.iconst 2, 1) := by decide +kernel
theorem dL_law_471 : decode cL_law 471 = .ok (.iadd, 1) := by decide +kernel
theorem dL_law_472 : decode cL_law 472 = .ok (.iaload, 1) := by decide +kernel
theorem dL_law_473 : decode cL_law 473 = .ok (.invokevirtual 53, 3) := by decide +kernel
theorem dL_law_476 : decode cL_law 476 = .ok (.if_icmp .eq 945, 3) := by decide +kernel
theorem dL_law_479 : decode cL_law 479 = .ok (.iconst 0, 1) := by decide +kernel
theorem dL_law_480 : decode cL_law 480 = .ok (.ireturn, 1) := by decide +kernel
theorem dL_law_481 : decode cL_law 481 = .ok (.aload_n 1, 1) := by decide +kernel
theorem dL_law_482 : decode cL_law 482 = .ok (.aload_n 0, 1) := by decide +kernel
theorem dL_law_483 : decode cL_law 483 = .ok (.iload_n 3, 1) := by decide +kernel
theorem dL_law_484 : decode cL_law 484 = .ok (.iconst 1, 1) := by decide +kernel
theorem dL_law_485 : decode cL_law 485 = .ok (.iadd, 1) := by decide +kernel
theorem dL_law_486 : decode cL_law 486 = .ok (.iaload, 1) := by decide +kernel
theorem dL_law_487 : decode cL_law 487 = .ok (.invokevirtual 54, 3) := by decide +kernel
theorem dL_law_490 : decode cL_law 490 = .ok (.aload_n 2, 1) := by decide +kernel
theorem dL_law_491 : decode cL_law 491 = .ok (.aload_n 0, 1) := by decide +kernel
theorem dL_law_492 : decode cL_law 492 = .ok (.iload_n 3, 1) := by decide +kernel
theorem dL_law_493 : decode cL_law 493 = .ok (.iconst 1, 1) := by decide +kernel
theorem dL_law_494 : decode cL_law 494 = .ok (.iadd, 1) := by decide +kernel
theorem dL_law_495 : decode cL_law 495 = .ok (.iaload, 1) := by decide +kernel
theorem dL_law_496 : decode cL_law 496 = .ok (.invokevirtual 57, 3) := by decide +kernel
theorem dL_law_499 : decode cL_law 499 = .ok (.if_icmp .eq 922, 3) := by decide +kernel
theorem dL_law_502 : decode cL_law 502 = .ok (.iconst 0, 1) := by decide +kernel
theorem dL_law_503 : decode cL_law 503 = .ok (.ireturn, 1) := by decide +kernel
theorem dL_law_504 : decode cL_law 504 = .ok (.aload_n 1, 1) := by decide +kernel
theorem dL_law_505 : decode cL_law 505 = .ok (.aload_n 0, 1) := by decide +kernel
theorem dL_law_506 : decode cL_law 506 = .ok (.iload_n 3, 1) := by decide +kernel
theorem dL_law_507 : decode cL_law 507 = .ok (.iconst 1, 1) := by decide +kernel
theorem dL_law_508 : decode cL_law 508 = .ok (.iadd, 1) := by decide +kernel
theorem dL_law_509 : decode cL_law 509 = .ok (.iaload, 1) := by decide +kernel
theorem dL_law_510 : decode cL_law 510 = .ok (.aload_n 0, 1) := by decide +kernel
theorem dL_law_511 : decode cL_law 511 = .ok (.iload_n 3, 1) := by decide +kernel
theorem dL_law_512 : decode cL_law 512 = .ok (.iconst 2, 1) := by decide +kernel
theorem dL_law_513 : decode cL_law 513 = .ok (.iadd, 1) := by decide +kernel
theorem dL_law_514 : decode cL_law 514 = .ok (.iaload, 1) := by decide +kernel
theorem dL_law_515 : decode cL_law 515 = .ok (.invokevirtual 58, 3) := by decide +kernel
theorem dL_law_518 : decode cL_law 518 = .ok (.aload_n 2, 1) := by decide +kernel
theorem dL_law_519 : decode cL_law 519 = .ok (.aload_n 0, 1) := by decide +kernel
theorem dL_law_520 : decode cL_law 520 = .ok (.iload_n 3, 1) := by decide +kernel
theorem dL_law_521 : decode cL_law 521 = .ok (.iconst 1, 1) := by decide +kernel
theorem dL_law_522 : decode cL_law 522 = .ok (.iadd, 1) := by decide +kernel
theorem dL_law_523 : decode cL_law 523 = .ok (.iaload, 1) := by decide +kernel
theorem dL_law_524 : decode cL_law 524 = .ok (.aload_n 0, 1) := by decide +kernel
theorem dL_law_525 : decode cL_law 525 = .ok (.iload_n 3, 1) := by decide +kernel
theorem dL_law_526 : decode cL_law 526 = .ok (.iconst 2, 1) := by decide +kernel
theorem dL_law_527 : decode cL_law 527 = .ok (.iadd, 1) := by decide +kernel
theorem dL_law_528 : decode cL_law 528 = .ok (.iaload, 1) := by decide +kernel
theorem dL_law_529 : decode cL_law 529 = .ok (.invokevirtual 61, 3) := by decide +kernel
theorem dL_law_532 : decode cL_law 532 = .ok (.if_icmp .eq 889, 3) := by decide +kernel
theorem dL_law_535 : decode cL_law 535 = .ok (.iconst 0, 1) := by decide +kernel
theorem dL_law_536 : decode cL_law 536 = .ok (.ireturn, 1) := by decide +kernel
theorem dL_law_537 : decode cL_law 537 = .ok (.aload_n 1, 1) := by decide +kernel
theorem dL_law_538 : decode cL_law 538 = .ok (.invokevirtual 62, 3) := by decide +kernel
theorem dL_law_541 : decode cL_law 541 = .ok (.aload_n 2, 1) := by decide +kernel
theorem dL_law_542 : decode cL_law 542 = .ok (.invokevirtual 65, 3) := by decide +kernel
theorem dL_law_545 : decode cL_law 545 = .ok (.if_icmp .eq 876, 3) := by decide +kernel
theorem dL_law_548 : decode cL_law 548 = .ok (.iconst 0, 1) := by decide +kernel
theorem dL_law_549 : decode cL_law 549 = .ok (.ireturn, 1) := by decide +kernel
theorem dL_law_550 : decode cL_law 550 = .ok (.aload_n 1, 1) := by decide +kernel
theorem dL_law_551 : decode cL_law 551 = .ok (.aload_n 0, 1) := by decide +kernel
theorem dL_law_552 : decode cL_law 552 = .ok (.iload_n 3, 1) := by decide +kernel
theorem dL_law_553 : decode cL_law 553 = .ok (.iconst 1, 1) := by decide +kernel
theorem dL_law_554 : decode cL_law 554 = .ok (.iadd, 1) := by decide +kernel
theorem dL_law_555 : decode cL_law 555 = .ok (.iaload, 1) := by decide +kernel
theorem dL_law_556 : decode cL_law 556 = .ok (.aload_n 0, 1) := by decide +kernel
theorem dL_law_557 : decode cL_law 557 = .ok (.iload_n 3, 1) := by decide +kernel
theorem dL_law_558 : decode cL_law 558 = .ok (.iconst 2, 1) := by decide +kernel
theorem dL_law_559 : decode cL_law 559 = .ok (.iadd, 1) := by decide +kernel
theorem dL_law_560 : decode cL_law 560 = .ok (.iaload, 1) := by decide +kernel
theorem dL_law_561 : decode cL_law 561 = .ok (.invokevirtual 66, 3) := by decide +kernel
theorem dL_law_564 : decode cL_law 564 = .ok (.aload_n 2, 1) := by decide +kernel
theorem dL_law_565 : decode cL_law 565 = .ok (.aload_n 0, 1) := by decide +kernel
theorem dL_law_566 : decode cL_law 566 = .ok (.iload_n 3, 1) := by decide +kernel
theorem dL_law_567 : decode cL_law 567 = .ok (.iconst 1, 1) := by decide +kernel
theorem dL_law_568 : decode cL_law 568 = .ok (.iadd, 1) := by decide +kernel
theorem dL_law_569 : decode cL_law 569 = .ok (.iaload, 1) := by decide +kernel
theorem dL_law_570 : decode cL_law 570 = .ok (.aload_n 0, 1) := by decide +kernel
theorem dL_law_571 : decode cL_law 571 = .ok (.iload_n 3, 1) := by decide +kernel
theorem dL_law_572 : decode cL_law 572 = .ok (.iconst 2, 1) := by decide +kernel
theorem dL_law_573 : decode cL_law 573 = .ok (.iadd, 1) := by decide +kernel
theorem dL_law_574 : decode cL_law 574 = .ok (.iaload, 1) := by decide +kernel
theorem dL_law_575 : decode cL_law 575 = .ok (.invokevirtual 69, 3) := by decide +kernel
theorem dL_law_578 : decode cL_law 578 = .ok (.if_icmp .eq 843, 3) := by decide +kernel
theorem dL_law_581 : decode cL_law 581 = .ok (.iconst 0, 1) := by decide +kernel
theorem dL_law_582 : decode cL_law 582 = .ok (.ireturn, 1) := by decide +kernel
theorem dL_law_583 : decode cL_law 583 = .ok (.aload_n 1, 1) := by decide +kernel
theorem dL_law_584 : decode cL_law 584 = .ok (.aload_n 0, 1) := by decide +kernel
theorem dL_law_585 : decode cL_law 585 = .ok (.iload_n 3, 1) := by decide +kernel
theorem dL_law_586 : decode cL_law 586 = .ok (.iconst 1, 1) := by decide +kernel
theorem dL_law_587 : decode cL_law 587 = .ok (.iadd, 1) := by decide +kernel
theorem dL_law_588 : decode cL_law 588 = .ok (.iaload, 1) := by decide +kernel
theorem dL_law_589 : decode cL_law 589 = .ok (.aload_n 0, 1) := by decide +kernel
theorem dL_law_590 : decode cL_law 590 = .ok (.iload_n 3, 1) := by decide +kernel
theorem dL_law_591 : decode cL_law 591 = .ok (.iconst 2, 1) := by decide +kernel
theorem dL_law_592 : decode cL_law 592 = .ok (.iadd, 1) := by decide +kernel
theorem dL_law_593 : decode cL_law 593 = .ok (.iaload, 1) := by decide +kernel
theorem dL_law_594 : decode cL_law 594 = .ok (.aload_n 0, 1) := by decide +kernel
theorem dL_law_595 : decode cL_law 595 = .ok (.iload_n 3, 1) := by decide +kernel
theorem dL_law_596 : decode cL_law 596 = .ok (.iconst 3, 1) := by decide +kernel
theorem dL_law_597 : decode cL_law 597 = .ok (.iadd, 1) := by decide +kernel
theorem dL_law_598 : decode cL_law 598 = .ok (.iaload, 1) := by decide +kernel
theorem dL_law_599 : decode cL_law 599 = .ok (.invokevirtual 70, 3) := by decide +kernel
theorem dL_law_602 : decode cL_law 602 = .ok (.aload_n 2, 1) := by decide +kernel
theorem dL_law_603 : decode cL_law 603 = .ok (.aload_n 0, 1) := by decide +kernel
theorem dL_law_604 : decode cL_law 604 = .ok (.iload_n 3, 1) := by decide +kernel
theorem dL_law_605 : decode cL_law 605 = .ok (.iconst 1, 1) := by decide +kernel
theorem dL_law_606 : decode cL_law 606 = .ok (.iadd, 1) := by decide +kernel
theorem dL_law_607 : decode cL_law 607 = .ok (.iaload, 1) := by decide +kernel
theorem dL_law_608 : decode cL_law 608 = .ok (.aload_n 0, 1) := by decide +kernel
theorem dL_law_609 : decode cL_law 609 = .ok (.iload_n 3, 1) := by decide +kernel
theorem dL_law_610 : decode cL_law 610 = .ok (.iconst 2, 1) := by decide +kernel
theorem dL_law_611 : decode cL_law 611 = .ok (.iadd, 1) := by decide +kernel
theorem dL_law_612 : decode cL_law 612 = .ok (.iaload, 1) := by decide +kernel
theorem dL_law_613 : decode cL_law 613 = .ok (.aload_n 0, 1) := by decide +kernel
theorem dL_law_614 : decode cL_law 614 = .ok (.iload_n 3, 1) := by decide +kernel
theorem dL_law_615 : decode cL_law 615 = .ok (.iconst 3, 1) := by decide +kernel
theorem dL_law_616 : decode cL_law 616 = .ok (.iadd, 1) := by decide +kernel
theorem dL_law_617 : decode cL_law 617 = .ok (.iaload, 1) := by decide +kernel
theorem dL_law_618 : decode cL_law 618 = .ok (.invokevirtual 73, 3) := by decide +kernel
theorem dL_law_621 : decode cL_law 621 = .ok (.if_icmp .eq 800, 3) := by decide +kernel
theorem dL_law_624 : decode cL_law 624 = .ok (.iconst 0, 1) := by decide +kernel
theorem dL_law_625 : decode cL_law 625 = .ok (.ireturn, 1) := by decide +kernel
theorem dL_law_626 : decode cL_law 626 = .ok (.aload_n 1, 1) := by decide +kernel
theorem dL_law_627 : decode cL_law 627 = .ok (.aload_n 0, 1) := by decide +kernel
theorem dL_law_628 : decode cL_law 628 = .ok (.iload_n 3, 1) := by decide +kernel
theorem dL_law_629 : decode cL_law 629 = .ok (.iconst 1, 1) := by decide +kernel
theorem dL_law_630 : decode cL_law 630 = .ok (.iadd, 1) := by decide +kernel
theorem dL_law_631 : decode cL_law 631 = .ok (.iaload, 1) := by decide +kernel
theorem dL_law_632 : decode cL_law 632 = .ok (.aload_n 0, 1) := by decide +kernel
theorem dL_law_633 : decode cL_law 633 = .ok (.iload_n 3, 1) := by decide +kernel
theorem dL_law_634 : decode cL_law 634 = .ok (.iconst 2, 1) := by decide +kernel
theorem dL_law_635 : decode cL_law 635 = .ok (.iadd, 1) := by decide +kernel
theorem dL_law_636 : decode cL_law 636 = .ok (.iaload, 1) := by decide +kernel
theorem dL_law_637 : decode cL_law 637 = .ok (.invokevirtual 74, 3) := by decide +kernel
theorem dL_law_640 : decode cL_law 640 = .ok (.aload_n 2, 1) := by decide +kernel
theorem dL_law_641 : decode cL_law 641 = .ok (.aload_n 0, 1) := by decide +kernel
theorem dL_law_642 : decode cL_law 642 = .ok (.iload_n 3, 1) := by decide +kernel
theorem dL_law_643 : decode cL_law 643 = .ok (.iconst 1, 1) := by decide +kernel
theorem dL_law_644 : decode cL_law 644 = .ok (.iadd, 1) := by decide +kernel
theorem dL_law_645 : decode cL_law 645 = .ok (.iaload, 1) := by decide +kernel
theorem dL_law_646 : decode cL_law 646 = .ok (.aload_n 0, 1) := by decide +kernel
theorem dL_law_647 : decode cL_law 647 = .ok (.iload_n 3, 1) := by decide +kernel
theorem dL_law_648 : decode cL_law 648 = .ok (.iconst 2, 1) := by decide +kernel
theorem dL_law_649 : decode cL_law 649 = .ok (.iadd, 1) := by decide +kernel
theorem dL_law_650 : decode cL_law 650 = .ok (.iaload, 1) := by decide +kernel
theorem dL_law_651 : decode cL_law 651 = .ok (.invokevirtual 77, 3) := by decide +kernel
theorem dL_law_654 : decode cL_law 654 = .ok (.if_icmp .eq 767, 3) := by decide +kernel
theorem dL_law_657 : decode cL_law 657 = .ok (.iconst 0, 1) := by decide +kernel
theorem dL_law_658 : decode cL_law 658 = .ok (.ireturn, 1) := by decide +kernel
theorem dL_law_659 : decode cL_law 659 = .ok (.aload_n 1, 1) := by decide +kernel
theorem dL_law_660 : decode cL_law 660 = .ok (.aload_n 0, 1) := by decide +kernel
theorem dL_law_661 : decode cL_law 661 = .ok (.iload_n 3, 1) := by decide +kernel
theorem dL_law_662 : decode cL_law 662 = .ok (.iconst 1, 1) := by decide +kernel
theorem dL_law_663 : decode cL_law 663 = .ok (.iadd, 1) := by decide +kernel
theorem dL_law_664 : decode cL_law 664 = .ok (.iaload, 1) := by decide +kernel
theorem dL_law_665 : decode cL_law 665 = .ok (.aload_n 0, 1) := by decide +kernel
theorem dL_law_666 : decode cL_law 666 = .ok (.iload_n 3, 1) := by decide +kernel
theorem dL_law_667 : decode cL_law 667 = .ok (.iconst 2, 1) := by decide +kernel
theorem dL_law_668 : decode cL_law 668 = .ok (.iadd, 1) := by decide +kernel
theorem dL_law_669 : decode cL_law 669 = .ok (.iaload, 1) := by decide +kernel
theorem dL_law_670 : decode cL_law 670 = .ok (.invokevirtual 78, 3) := by decide +kernel
theorem dL_law_673 : decode cL_law 673 = .ok (.aload_n 2, 1) := by decide +kernel
theorem dL_law_674 : decode cL_law 674 = .ok (.aload_n 0, 1) := by decide +kernel
theorem dL_law_675 : decode cL_law 675 = .ok (.iload_n 3, 1) := by decide +kernel
theorem dL_law_676 : decode cL_law 676 = .ok (.iconst 1, 1) := by decide +kernel
theorem dL_law_677 : decode cL_law 677 = .ok (.iadd, 1) := by decide +kernel
theorem dL_law_678 : decode cL_law 678 = .ok (.iaload, 1) := by decide +kernel
theorem dL_law_679 : decode cL_law 679 = .ok (.aload_n 0, 1) := by decide +kernel
theorem dL_law_680 : decode cL_law 680 = .ok (.iload_n 3, 1) := by decide +kernel
theorem dL_law_681 : decode cL_law 681 = .ok (.iconst 2, 1) := by decide +kernel
theorem dL_law_682 : decode cL_law 682 = .ok (.iadd, 1) := by decide +kernel
theorem dL_law_683 : decode cL_law 683 = .ok (.iaload, 1) := by decide +kernel
theorem dL_law_684 : decode cL_law 684 = .ok (.invokevirtual 81, 3) := by decide +kernel
theorem dL_law_687 : decode cL_law 687 = .ok (.if_icmp .eq 734, 3) := by decide +kernel
theorem dL_law_690 : decode cL_law 690 = .ok (.iconst 0, 1) := by decide +kernel
theorem dL_law_691 : decode cL_law 691 = .ok (.ireturn, 1) := by decide +kernel
theorem dL_law_692 : decode cL_law 692 = .ok (.aload_n 1, 1) := by decide +kernel
theorem dL_law_693 : decode cL_law 693 = .ok (.aload_n 0, 1) := by decide +kernel
theorem dL_law_694 : decode cL_law 694 = .ok (.iload_n 3, 1) := by decide +kernel
theorem dL_law_695 : decode cL_law 695 = .ok (.iconst 1, 1) := by decide +kernel
theorem dL_law_696 : decode cL_law 696 = .ok (.iadd, 1) := by decide +kernel
theorem dL_law_697 : decode cL_law 697 = .ok (.iaload, 1) := by decide +kernel
theorem dL_law_698 : decode cL_law 698 = .ok (.invokevirtual 82, 3) := by decide +kernel
theorem dL_law_701 : decode cL_law 701 = .ok (.aload_n 2, 1) := by decide +kernel
theorem dL_law_702 : decode cL_law 702 = .ok (.aload_n 0, 1) := by decide +kernel
theorem dL_law_703 : decode cL_law 703 = .ok (.iload_n 3, 1) := by decide +kernel
theorem dL_law_704 : decode cL_law 704 = .ok (.iconst 1, 1) := by decide +kernel
theorem dL_law_705 : decode cL_law 705 = .ok (.iadd, 1) := by decide +kernel
theorem dL_law_706 : decode cL_law 706 = .ok (.iaload, 1) := by decide +kernel
theorem dL_law_707 : decode cL_law 707 = .ok (.invokevirtual 85, 3) := by decide +kernel
theorem dL_law_710 : decode cL_law 710 = .ok (.if_icmp .eq 711, 3) := by decide +kernel
theorem dL_law_713 : decode cL_law 713 = .ok (.iconst 0, 1) := by decide +kernel
theorem dL_law_714 : decode cL_law 714 = .ok (.ireturn, 1) := by decide +kernel
theorem dL_law_715 : decode cL_law 715 = .ok (.aload_n 1, 1) := by decide +kernel
theorem dL_law_716 : decode cL_law 716 = .ok (.aload_n 0, 1) := by decide +kernel
theorem dL_law_717 : decode cL_law 717 = .ok (.iload_n 3, 1) := by decide +kernel
theorem dL_law_718 : decode cL_law 718 = .ok (.iconst 1, 1) := by decide +kernel
theorem dL_law_719 : decode cL_law 719 = .ok (.iadd, 1) := by decide +kernel
theorem dL_law_720 : decode cL_law 720 = .ok (.iaload, 1) := by decide +kernel
theorem dL_law_721 : decode cL_law 721 = .ok (.aload_n 0, 1) := by decide +kernel
theorem dL_law_722 : decode cL_law 722 = .ok (.iload_n 3, 1) := by decide +kernel
theorem dL_law_723 : decode cL_law 723 = .ok (.iconst 2, 1) := by decide +kernel
theorem dL_law_724 : decode cL_law 724 = .ok (.iadd, 1) := by decide +kernel
theorem dL_law_725 : decode cL_law 725 = .ok (.iaload, 1) := by decide +kernel
theorem dL_law_726 : decode cL_law 726 = .ok (.aload_n 0, 1) := by decide +kernel
theorem dL_law_727 : decode cL_law 727 = .ok (.iload_n 3, 1) := by decide +kernel
theorem dL_law_728 : decode cL_law 728 = .ok (.iconst 3, 1) := by decide +kernel
theorem dL_law_729 : decode cL_law 729 = .ok (.iadd, 1) := by decide +kernel
theorem dL_law_730 : decode cL_law 730 = .ok (.iaload, 1) := by decide +kernel
theorem dL_law_731 : decode cL_law 731 = .ok (.invokevirtual 86, 3) := by decide +kernel
theorem dL_law_734 : decode cL_law 734 = .ok (.aload_n 2, 1) := by decide +kernel
theorem dL_law_735 : decode cL_law 735 = .ok (.aload_n 0, 1) := by decide +kernel
theorem dL_law_736 : decode cL_law 736 = .ok (.iload_n 3, 1) := by decide +kernel
theorem dL_law_737 : decode cL_law 737 = .ok (.iconst 1, 1) := by decide +kernel
theorem dL_law_738 : decode cL_law 738 = .ok (.iadd, 1) := by decide +kernel
theorem dL_law_739 : decode cL_law 739 = .ok (.iaload, 1) := by decide +kernel
theorem dL_law_740 : decode cL_law 740 = .ok (.aload_n 0, 1) := by decide +kernel
theorem dL_law_741 : decode cL_law 741 = .ok (.iload_n 3, 1) := by decide +kernel
theorem dL_law_742 : decode cL_law 742 = .ok (.iconst 2, 1) := by decide +kernel
theorem dL_law_743 : decode cL_law 743 = .ok (.iadd, 1) := by decide +kernel
theorem dL_law_744 : decode cL_law 744 = .ok (.iaload, 1) := by decide +kernel
theorem dL_law_745 : decode cL_law 745 = .ok (.aload_n 0, 1) := by decide +kernel
theorem dL_law_746 : decode cL_law 746 = .ok (.iload_n 3, 1) := by decide +kernel
theorem dL_law_747 : decode cL_law 747 = .ok (.iconst 3, 1) := by decide +kernel
theorem dL_law_748 : decode cL_law 748 = .ok (.iadd, 1) := by decide +kernel
theorem dL_law_749 : decode cL_law 749 = .ok (.iaload, 1) := by decide +kernel
theorem dL_law_750 : decode cL_law 750 = .ok (.invokevirtual 89, 3) := by decide +kernel
theorem dL_law_753 : decode cL_law 753 = .ok (.if_icmp .eq 668, 3) := by decide +kernel
theorem dL_law_756 : decode cL_law 756 = .ok (.iconst 0, 1) := by decide +kernel
theorem dL_law_757 : decode cL_law 757 = .ok (.ireturn, 1) := by decide +kernel
theorem dL_law_758 : decode cL_law 758 = .ok (.aload_n 1, 1) := by decide +kernel
theorem dL_law_759 : decode cL_law 759 = .ok (.aload_n 0, 1) := by decide +kernel
theorem dL_law_760 : decode cL_law 760 = .ok (.iload_n 3, 1) := by decide +kernel
theorem dL_law_761 : decode cL_law 761 = .ok (.iconst 1, 1) := by decide +kernel
theorem dL_law_762 : decode cL_law 762 = .ok (.iadd, 1) := by decide +kernel
theorem dL_law_763 : decode cL_law 763 = .ok (.iaload, 1) := by decide +kernel
theorem dL_law_764 : decode cL_law 764 = .ok (.aload_n 0, 1) := by decide +kernel
theorem dL_law_765 : decode cL_law 765 = .ok (.iload_n 3, 1) := by decide +kernel
theorem dL_law_766 : decode cL_law 766 = .ok (.iconst 2, 1) := by decide +kernel
theorem dL_law_767 : decode cL_law 767 = .ok (.iadd, 1) := by decide +kernel
theorem dL_law_768 : decode cL_law 768 = .ok (.iaload, 1) := by decide +kernel
theorem dL_law_769 : decode cL_law 769 = .ok (.invokevirtual 90, 3) := by decide +kernel
theorem dL_law_772 : decode cL_law 772 = .ok (.aload_n 2, 1) := by decide +kernel
theorem dL_law_773 : decode cL_law 773 = .ok (.aload_n 0, 1) := by decide +kernel
theorem dL_law_774 : decode cL_law 774 = .ok (.iload_n 3, 1) := by decide +kernel
theorem dL_law_775 : decode cL_law 775 = .ok (.iconst 1, 1) := by decide +kernel
theorem dL_law_776 : decode cL_law 776 = .ok (.iadd, 1) := by decide +kernel
theorem dL_law_777 : decode cL_law 777 = .ok (.iaload, 1) := by decide +kernel
theorem dL_law_778 : decode cL_law 778 = .ok (.aload_n 0, 1) := by decide +kernel
theorem dL_law_779 : decode cL_law 779 = .ok (.iload_n 3, 1) := by decide +kernel
theorem dL_law_780 : decode cL_law 780 = .ok (.iconst 2, 1) := by decide +kernel
theorem dL_law_781 : decode cL_law 781 = .ok (.iadd, 1) := by decide +kernel
theorem dL_law_782 : decode cL_law 782 = .ok (.iaload, 1) := by decide +kernel
theorem dL_law_783 : decode cL_law 783 = .ok (.invokevirtual 93, 3) := by decide +kernel
theorem dL_law_786 : decode cL_law 786 = .ok (.if_icmp .eq 635, 3) := by decide +kernel
theorem dL_law_789 : decode cL_law 789 = .ok (.iconst 0, 1) := by decide +kernel
theorem dL_law_790 : decode cL_law 790 = .ok (.ireturn, 1) := by decide +kernel
theorem dL_law_791 : decode cL_law 791 = .ok (.aload_n 1, 1) := by decide +kernel
theorem dL_law_792 : decode cL_law 792 = .ok (.aload_n 0, 1) := by decide +kernel
theorem dL_law_793 : decode cL_law 793 = .ok (.iload_n 3, 1) := by decide +kernel
theorem dL_law_794 : decode cL_law 794 = .ok (.iconst 1, 1) := by decide +kernel
theorem dL_law_795 : decode cL_law 795 = .ok (.iadd, 1) := by decide +kernel
theorem dL_law_796 : decode cL_law 796 = .ok (.iaload, 1) := by decide +kernel
theorem dL_law_797 : decode cL_law 797 = .ok (.aload_n 0, 1) := by decide +kernel
theorem dL_law_798 : decode cL_law 798 = .ok (.iload_n 3, 1) := by decide +kernel
theorem dL_law_799 : decode cL_law 799 = .ok (.iconst 2, 1) := by decide +kernel
theorem dL_law_800 : decode cL_law 800 = .ok (.iadd, 1) := by decide +kernel
theorem dL_law_801 : decode cL_law 801 = .ok (.iaload, 1) := by decide +kernel
theorem dL_law_802 : decode cL_law 802 = .ok (.invokevirtual 94, 3) := by decide +kernel
theorem dL_law_805 : decode cL_law 805 = .ok (.aload_n 2, 1) := by decide +kernel
theorem dL_law_806 : decode cL_law 806 = .ok (.aload_n 0, 1) := by decide +kernel
theorem dL_law_807 : decode cL_law 807 = .ok (.iload_n 3, 1) := by decide +kernel
theorem dL_law_808 : decode cL_law 808 = .ok (.iconst 1, 1) := by decide +kernel
theorem dL_law_809 : decode cL_law 809 = .ok (.iadd, 1) := by decide +kernel
theorem dL_law_810 : decode cL_law 810 = .ok (.iaload, 1) := by decide +kernel
theorem dL_law_811 : decode cL_law 811 = .ok (.aload_n 0, 1) := by decide +kernel
theorem dL_law_812 : decode cL_law 812 = .ok (.iload_n 3, 1) := by decide +kernel
theorem dL_law_813 : decode cL_law 813 = .ok (.iconst 2, 1) := by decide +kernel
theorem dL_law_814 : decode cL_law 814 = .ok (.iadd, 1) := by decide +kernel
theorem dL_law_815 : decode cL_law 815 = .ok (.iaload, 1) := by decide +kernel
theorem dL_law_816 : decode cL_law 816 = .ok (.invokevirtual 97, 3) := by decide +kernel
theorem dL_law_819 : decode cL_law 819 = .ok (.if_icmp .eq 602, 3) := by decide +kernel
theorem dL_law_822 : decode cL_law 822 = .ok (.iconst 0, 1) := by decide +kernel
theorem dL_law_823 : decode cL_law 823 = .ok (.ireturn, 1) := by decide +kernel
theorem dL_law_824 : decode cL_law 824 = .ok (.aload_n 1, 1) := by decide +kernel
theorem dL_law_825 : decode cL_law 825 = .ok (.aload_n 0, 1) := by decide +kernel
theorem dL_law_826 : decode cL_law 826 = .ok (.iload_n 3, 1) := by decide +kernel
theorem dL_law_827 : decode cL_law 827 = .ok (.iconst 1, 1) := by decide +kernel
theorem dL_law_828 : decode cL_law 828 = .ok (.iadd, 1) := by decide +kernel
theorem dL_law_829 : decode cL_law 829 = .ok (.iaload, 1) := by decide +kernel
theorem dL_law_830 : decode cL_law 830 = .ok (.invokevirtual 98, 3) := by decide +kernel
theorem dL_law_833 : decode cL_law 833 = .ok (.aload_n 2, 1) := by decide +kernel
theorem dL_law_834 : decode cL_law 834 = .ok (.aload_n 0, 1) := by decide +kernel
theorem dL_law_835 : decode cL_law 835 = .ok (.iload_n 3, 1) := by decide +kernel
theorem dL_law_836 : decode cL_law 836 = .ok (.iconst 1, 1) := by decide +kernel
theorem dL_law_837 : decode cL_law 837 = .ok (.iadd, 1) := by decide +kernel
theorem dL_law_838 : decode cL_law 838 = .ok (.iaload, 1) := by decide +kernel
theorem dL_law_839 : decode cL_law 839 = .ok (.invokevirtual 101, 3) := by decide +kernel
theorem dL_law_842 : decode cL_law 842 = .ok (.if_icmp .eq 579, 3) := by decide +kernel
theorem dL_law_845 : decode cL_law 845 = .ok (.iconst 0, 1) := by decide +kernel
theorem dL_law_846 : decode cL_law 846 = .ok (.ireturn, 1) := by decide +kernel
theorem dL_law_847 : decode cL_law 847 = .ok (.aload_n 1, 1) := by decide +kernel
theorem dL_law_848 : decode cL_law 848 = .ok (.invokevirtual 102, 3) := by decide +kernel
theorem dL_law_851 : decode cL_law 851 = .ok (.aload_n 2, 1) := by decide +kernel
theorem dL_law_852 : decode cL_law 852 = .ok (.invokevirtual 105, 3) := by decide +kernel
theorem dL_law_855 : decode cL_law 855 = .ok (.if_icmp .eq 566, 3) := by decide +kernel
theorem dL_law_858 : decode cL_law 858 = .ok (.iconst 0, 1) := by decide +kernel
theorem dL_law_859 : decode cL_law 859 = .ok (.ireturn, 1) := by decide +kernel
theorem dL_law_860 : decode cL_law 860 = .ok (.aload_n 1, 1) := by decide +kernel
theorem dL_law_861 : decode cL_law 861 = .ok (.aload_n 0, 1) := by decide +kernel
theorem dL_law_862 : decode cL_law 862 = .ok (.iload_n 3, 1) := by decide +kernel
theorem dL_law_863 : decode cL_law 863 = .ok (.iconst 1, 1) := by decide +kernel
theorem dL_law_864 : decode cL_law 864 = .ok (.iadd, 1) := by decide +kernel
theorem dL_law_865 : decode cL_law 865 = .ok (.iaload, 1) := by decide +kernel
theorem dL_law_866 : decode cL_law 866 = .ok (.invokevirtual 106, 3) := by decide +kernel
theorem dL_law_869 : decode cL_law 869 = .ok (.aload_n 2, 1) := by decide +kernel
theorem dL_law_870 : decode cL_law 870 = .ok (.aload_n 0, 1) := by decide +kernel
theorem dL_law_871 : decode cL_law 871 = .ok (.iload_n 3, 1) := by decide +kernel
theorem dL_law_872 : decode cL_law 872 = .ok (.iconst 1, 1) := by decide +kernel
theorem dL_law_873 : decode cL_law 873 = .ok (.iadd, 1) := by decide +kernel
theorem dL_law_874 : decode cL_law 874 = .ok (.iaload, 1) := by decide +kernel
theorem dL_law_875 : decode cL_law 875 = .ok (.invokevirtual 109, 3) := by decide +kernel
theorem dL_law_878 : decode cL_law 878 = .ok (.if_icmp .eq 543, 3) := by decide +kernel
theorem dL_law_881 : decode cL_law 881 = .ok (.iconst 0, 1) := by decide +kernel
theorem dL_law_882 : decode cL_law 882 = .ok (.ireturn, 1) := by decide +kernel
theorem dL_law_883 : decode cL_law 883 = .ok (.aload_n 1, 1) := by decide +kernel
theorem dL_law_884 : decode cL_law 884 = .ok (.invokevirtual 110, 3) := by decide +kernel
theorem dL_law_887 : decode cL_law 887 = .ok (.aload_n 2, 1) := by decide +kernel
theorem dL_law_888 : decode cL_law 888 = .ok (.invokevirtual 113, 3) := by decide +kernel
theorem dL_law_891 : decode cL_law 891 = .ok (.if_icmp .eq 530, 3) := by decide +kernel
theorem dL_law_894 : decode cL_law 894 = .ok (.iconst 0, 1) := by decide +kernel
theorem dL_law_895 : decode cL_law 895 = .ok (.ireturn, 1) := by decide +kernel
theorem dL_law_896 : decode cL_law 896 = .ok (.aload_n 1, 1) := by decide +kernel
theorem dL_law_897 : decode cL_law 897 = .ok (.aload_n 0, 1) := by decide +kernel
theorem dL_law_898 : decode cL_law 898 = .ok (.iload_n 3, 1) := by decide +kernel
theorem dL_law_899 : decode cL_law 899 = .ok (.iconst 1, 1) := by decide +kernel
theorem dL_law_900 : decode cL_law 900 = .ok (.iadd, 1) := by decide +kernel
theorem dL_law_901 : decode cL_law 901 = .ok (.iaload, 1) := by decide +kernel
theorem dL_law_902 : decode cL_law 902 = .ok (.aload_n 0, 1) := by decide +kernel
theorem dL_law_903 : decode cL_law 903 = .ok (.iload_n 3, 1) := by decide +kernel
theorem dL_law_904 : decode cL_law 904 = .ok (.iconst 2, 1) := by decide +kernel
theorem dL_law_905 : decode cL_law 905 = .ok (.iadd, 1) := by decide +kernel
theorem dL_law_906 : decode cL_law 906 = .ok (.iaload, 1) := by decide +kernel
theorem dL_law_907 : decode cL_law 907 = .ok (.aload_n 0, 1) := by decide +kernel
theorem dL_law_908 : decode cL_law 908 = .ok (.iload_n 3, 1) := by decide +kernel
theorem dL_law_909 : decode cL_law 909 = .ok (.iconst 3, 1) := by decide +kernel
theorem dL_law_910 : decode cL_law 910 = .ok (.iadd, 1) := by decide +kernel
theorem dL_law_911 : decode cL_law 911 = .ok (.iaload, 1) := by decide +kernel
theorem dL_law_912 : decode cL_law 912 = .ok (.aload_n 0, 1) := by decide +kernel
theorem dL_law_913 : decode cL_law 913 = .ok (.iload_n 3, 1) := by decide +kernel
theorem dL_law_914 : decode cL_law 914 = .ok (.iconst 4, 1) := by decide +kernel
theorem dL_law_915 : decode cL_law 915 = .ok (.iadd, 1) := by decide +kernel
theorem dL_law_916 : decode cL_law 916 = .ok (.iaload, 1) := by decide +kernel
theorem dL_law_917 : decode cL_law 917 = .ok (.invokevirtual 114, 3) := by decide +kernel
theorem dL_law_920 : decode cL_law 920 = .ok (.aload_n 2, 1) := by decide +kernel
theorem dL_law_921 : decode cL_law 921 = .ok (.aload_n 0, 1) := by decide +kernel
theorem dL_law_922 : decode cL_law 922 = .ok (.iload_n 3, 1) := by decide +kernel
theorem dL_law_923 : decode cL_law 923 = .ok (.iconst 1, 1) := by decide +kernel
theorem dL_law_924 : decode cL_law 924 = .ok (.iadd, 1) := by decide +kernel
theorem dL_law_925 : decode cL_law 925 = .ok (.iaload, 1) := by decide +kernel
theorem dL_law_926 : decode cL_law 926 = .ok (.aload_n 0, 1) := by decide +kernel
theorem dL_law_927 : decode cL_law 927 = .ok (.iload_n 3, 1) := by decide +kernel
theorem dL_law_928 : decode cL_law 928 = .ok (.iconst 2, 1) := by decide +kernel
theorem dL_law_929 : decode cL_law 929 = .ok (.iadd, 1) := by decide +kernel
theorem dL_law_930 : decode cL_law 930 = .ok (.iaload, 1) := by decide +kernel
theorem dL_law_931 : decode cL_law 931 = .ok (.aload_n 0, 1) := by decide +kernel
theorem dL_law_932 : decode cL_law 932 = .ok (.iload_n 3, 1) := by decide +kernel
theorem dL_law_933 : decode cL_law 933 = .ok (.iconst 3, 1) := by decide +kernel
theorem dL_law_934 : decode cL_law 934 = .ok (.iadd, 1) := by decide +kernel
theorem dL_law_935 : decode cL_law 935 = .ok (.iaload, 1) := by decide +kernel
theorem dL_law_936 : decode cL_law 936 = .ok (.aload_n 0, 1) := by decide +kernel
theorem dL_law_937 : decode cL_law 937 = .ok (.iload_n 3, 1) := by decide +kernel
theorem dL_law_938 : decode cL_law 938 = .ok (.iconst 4, 1) := by decide +kernel
theorem dL_law_939 : decode cL_law 939 = .ok (.iadd, 1) := by decide +kernel
theorem dL_law_940 : decode cL_law 940 = .ok (.iaload, 1) := by decide +kernel
theorem dL_law_941 : decode cL_law 941 = .ok (.invokevirtual 118, 3) := by decide +kernel
theorem dL_law_944 : decode cL_law 944 = .ok (.if_icmp .eq 477, 3) := by decide +kernel
theorem dL_law_947 : decode cL_law 947 = .ok (.iconst 0, 1) := by decide +kernel
theorem dL_law_948 : decode cL_law 948 = .ok (.ireturn, 1) := by decide +kernel
theorem dL_law_949 : decode cL_law 949 = .ok (.aload_n 1, 1) := by decide +kernel
theorem dL_law_950 : decode cL_law 950 = .ok (.aload_n 0, 1) := by decide +kernel
theorem dL_law_951 : decode cL_law 951 = .ok (.iload_n 3, 1) := by decide +kernel
theorem dL_law_952 : decode cL_law 952 = .ok (.iconst 1, 1) := by decide +kernel
theorem dL_law_953 : decode cL_law 953 = .ok (.iadd, 1) := by decide +kernel
theorem dL_law_954 : decode cL_law 954 = .ok (.iaload, 1) := by decide +kernel
theorem dL_law_955 : decode cL_law 955 = .ok (.aload_n 0, 1) := by decide +kernel
theorem dL_law_956 : decode cL_law 956 = .ok (.iload_n 3, 1) := by decide +kernel
theorem dL_law_957 : decode cL_law 957 = .ok (.iconst 2, 1) := by decide +kernel
theorem dL_law_958 : decode cL_law 958 = .ok (.iadd, 1) := by decide +kernel
theorem dL_law_959 : decode cL_law 959 = .ok (.iaload, 1) := by decide +kernel
theorem dL_law_960 : decode cL_law 960 = .ok (.aload_n 0, 1) := by decide +kernel
theorem dL_law_961 : decode cL_law 961 = .ok (.iload_n 3, 1) := by decide +kernel
theorem dL_law_962 : decode cL_law 962 = .ok (.iconst 3, 1) := by decide +kernel
theorem dL_law_963 : decode cL_law 963 = .ok (.iadd, 1) := by decide +kernel
theorem dL_law_964 : decode cL_law 964 = .ok (.iaload, 1) := by decide +kernel
theorem dL_law_965 : decode cL_law 965 = .ok (.invokevirtual 119, 3) := by decide +kernel
theorem dL_law_968 : decode cL_law 968 = .ok (.aload_n 2, 1) := by decide +kernel
theorem dL_law_969 : decode cL_law 969 = .ok (.aload_n 0, 1) := by decide +kernel
theorem dL_law_970 : decode cL_law 970 = .ok (.iload_n 3, 1) := by decide +kernel
theorem dL_law_971 : decode cL_law 971 = .ok (.iconst 1, 1) := by decide +kernel
theorem dL_law_972 : decode cL_law 972 = .ok (.iadd, 1) := by decide +kernel
theorem dL_law_973 : decode cL_law 973 = .ok (.iaload, 1) := by decide +kernel
theorem dL_law_974 : decode cL_law 974 = .ok (.aload_n 0, 1) := by decide +kernel
theorem dL_law_975 : decode cL_law 975 = .ok (.iload_n 3, 1) := by decide +kernel
theorem dL_law_976 : decode cL_law 976 = .ok (.iconst 2, 1) := by decide +kernel
theorem dL_law_977 : decode cL_law 977 = .ok (.iadd, 1) := by decide +kernel
theorem dL_law_978 : decode cL_law 978 = .ok (.iaload, 1) := by decide +kernel
theorem dL_law_979 : decode cL_law 979 = .ok (.aload_n 0, 1) := by decide +kernel
theorem dL_law_980 : decode cL_law 980 = .ok (.iload_n 3, 1) := by decide +kernel
theorem dL_law_981 : decode cL_law 981 = .ok (.iconst 3, 1) := by decide +kernel
theorem dL_law_982 : decode cL_law 982 = .ok (.iadd, 1) := by decide +kernel
theorem dL_law_983 : decode cL_law 983 = .ok (.iaload, 1) := by decide +kernel
theorem dL_law_984 : decode cL_law 984 = .ok (.invokevirtual 122, 3) := by decide +kernel
theorem dL_law_987 : decode cL_law 987 = .ok (.if_icmp .eq 434, 3) := by decide +kernel
theorem dL_law_990 : decode cL_law 990 = .ok (.iconst 0, 1) := by decide +kernel
theorem dL_law_991 : decode cL_law 991 = .ok (.ireturn, 1) := by decide +kernel
theorem dL_law_992 : decode cL_law 992 = .ok (.aload_n 1, 1) := by decide +kernel
theorem dL_law_993 : decode cL_law 993 = .ok (.aload_n 0, 1) := by decide +kernel
theorem dL_law_994 : decode cL_law 994 = .ok (.iload_n 3, 1) := by decide +kernel
theorem dL_law_995 : decode cL_law 995 = .ok (.iconst 1, 1) := by decide +kernel
theorem dL_law_996 : decode cL_law 996 = .ok (.iadd, 1) := by decide +kernel
theorem dL_law_997 : decode cL_law 997 = .ok (.iaload, 1) := by decide +kernel
theorem dL_law_998 : decode cL_law 998 = .ok (.aload_n 0, 1) := by decide +kernel
theorem dL_law_999 : decode cL_law 999 = .ok (.iload_n 3, 1) := by decide +kernel
theorem dL_law_1000 : decode cL_law 1000 = .ok (.iconst 2, 1) := by decide +kernel
theorem dL_law_1001 : decode cL_law 1001 = .ok (.iadd, 1) := by decide +kernel
theorem dL_law_1002 : decode cL_law 1002 = .ok (.iaload, 1) := by decide +kernel
theorem dL_law_1003 : decode cL_law 1003 = .ok (.invokevirtual 123, 3) := by decide +kernel
theorem dL_law_1006 : decode cL_law 1006 = .ok (.aload_n 2, 1) := by decide +kernel
theorem dL_law_1007 : decode cL_law 1007 = .ok (.aload_n 0, 1) := by decide +kernel
theorem dL_law_1008 : decode cL_law 1008 = .ok (.iload_n 3, 1) := by decide +kernel
theorem dL_law_1009 : decode cL_law 1009 = .ok (.iconst 1, 1) := by decide +kernel
theorem dL_law_1010 : decode cL_law 1010 = .ok (.iadd, 1) := by decide +kernel
theorem dL_law_1011 : decode cL_law 1011 = .ok (.iaload, 1) := by decide +kernel
theorem dL_law_1012 : decode cL_law 1012 = .ok (.aload_n 0, 1) := by decide +kernel
theorem dL_law_1013 : decode cL_law 1013 = .ok (.iload_n 3, 1) := by decide +kernel
theorem dL_law_1014 : decode cL_law 1014 = .ok (.iconst 2, 1) := by decide +kernel
theorem dL_law_1015 : decode cL_law 1015 = .ok (.iadd, 1) := by decide +kernel
theorem dL_law_1016 : decode cL_law 1016 = .ok (.iaload, 1) := by decide +kernel
theorem dL_law_1017 : decode cL_law 1017 = .ok (.invokevirtual 126, 3) := by decide +kernel
theorem dL_law_1020 : decode cL_law 1020 = .ok (.if_icmp .eq 401, 3) := by decide +kernel
theorem dL_law_1023 : decode cL_law 1023 = .ok (.iconst 0, 1) := by decide +kernel
theorem dL_law_1024 : decode cL_law 1024 = .ok (.ireturn, 1) := by decide +kernel
theorem dL_law_1025 : decode cL_law 1025 = .ok (.aload_n 1, 1) := by decide +kernel
theorem dL_law_1026 : decode cL_law 1026 = .ok (.aload_n 0, 1) := by decide +kernel
theorem dL_law_1027 : decode cL_law 1027 = .ok (.iload_n 3, 1) := by decide +kernel
theorem dL_law_1028 : decode cL_law 1028 = .ok (.iconst 1, 1) := by decide +kernel
theorem dL_law_1029 : decode cL_law 1029 = .ok (.iadd, 1) := by decide +kernel
theorem dL_law_1030 : decode cL_law 1030 = .ok (.iaload, 1) := by decide +kernel
theorem dL_law_1031 : decode cL_law 1031 = .ok (.aload_n 0, 1) := by decide +kernel
theorem dL_law_1032 : decode cL_law 1032 = .ok (.iload_n 3, 1) := by decide +kernel
theorem dL_law_1033 : decode cL_law 1033 = .ok (.iconst 2, 1) := by decide +kernel
theorem dL_law_1034 : decode cL_law 1034 = .ok (.iadd, 1) := by decide +kernel
theorem dL_law_1035 : decode cL_law 1035 = .ok (.iaload, 1) := by decide +kernel
theorem dL_law_1036 : decode cL_law 1036 = .ok (.aload_n 0, 1) := by decide +kernel
theorem dL_law_1037 : decode cL_law 1037 = .ok (.iload_n 3, 1) := by decide +kernel
theorem dL_law_1038 : decode cL_law 1038 = .ok (.iconst 3, 1) := by decide +kernel
theorem dL_law_1039 : decode cL_law 1039 = .ok (.iadd, 1) := by decide +kernel
theorem dL_law_1040 : decode cL_law 1040 = .ok (.iaload, 1) := by decide +kernel
theorem dL_law_1041 : decode cL_law 1041 = .ok (.aload_n 0, 1) := by decide +kernel
theorem dL_law_1042 : decode cL_law 1042 = .ok (.iload_n 3, 1) := by decide +kernel
theorem dL_law_1043 : decode cL_law 1043 = .ok (.iconst 4, 1) := by decide +kernel
theorem dL_law_1044 : decode cL_law 1044 = .ok (.iadd, 1) := by decide +kernel
theorem dL_law_1045 : decode cL_law 1045 = .ok (.iaload, 1) := by decide +kernel
theorem dL_law_1046 : decode cL_law 1046 = .ok (.invokevirtual 127, 3) := by decide +kernel
theorem dL_law_1049 : decode cL_law 1049 = .ok (.aload_n 2, 1) := by decide +kernel
theorem dL_law_1050 : decode cL_law 1050 = .ok (.aload_n 0, 1) := by decide +kernel
theorem dL_law_1051 : decode cL_law 1051 = .ok (.iload_n 3, 1) := by decide +kernel
theorem dL_law_1052 : decode cL_law 1052 = .ok (.iconst 1, 1) := by decide +kernel
theorem dL_law_1053 : decode cL_law 1053 = .ok (.iadd, 1) := by decide +kernel
theorem dL_law_1054 : decode cL_law 1054 = .ok (.iaload, 1) := by decide +kernel
theorem dL_law_1055 : decode cL_law 1055 = .ok (.aload_n 0, 1) := by decide +kernel
theorem dL_law_1056 : decode cL_law 1056 = .ok (.iload_n 3, 1) := by decide +kernel
theorem dL_law_1057 : decode cL_law 1057 = .ok (.iconst 2, 1) := by decide +kernel
theorem dL_law_1058 : decode cL_law 1058 = .ok (.iadd, 1) := by decide +kernel
theorem dL_law_1059 : decode cL_law 1059 = .ok (.iaload, 1) := by decide +kernel
theorem dL_law_1060 : decode cL_law 1060 = .ok (.aload_n 0, 1) := by decide +kernel
theorem dL_law_1061 : decode cL_law 1061 = .ok (.iload_n 3, 1) := by decide +kernel
theorem dL_law_1062 : decode cL_law 1062 = .ok (.iconst 3, 1) := by decide +kernel
theorem dL_law_1063 : decode cL_law 1063 = .ok (.iadd, 1) := by decide +kernel
theorem dL_law_1064 : decode cL_law 1064 = .ok (.iaload, 1) := by decide +kernel
theorem dL_law_1065 : decode cL_law 1065 = .ok (.aload_n 0, 1) := by decide +kernel
theorem dL_law_1066 : decode cL_law 1066 = .ok (.iload_n 3, 1) := by decide +kernel
theorem dL_law_1067 : decode cL_law 1067 = .ok (.iconst 4, 1) := by decide +kernel
theorem dL_law_1068 : decode cL_law 1068 = .ok (.iadd, 1) := by decide +kernel
theorem dL_law_1069 : decode cL_law 1069 = .ok (.iaload, 1) := by decide +kernel
theorem dL_law_1070 : decode cL_law 1070 = .ok (.invokevirtual 130, 3) := by decide +kernel
theorem dL_law_1073 : decode cL_law 1073 = .ok (.if_icmp .eq 348, 3) := by decide +kernel
theorem dL_law_1076 : decode cL_law 1076 = .ok (.iconst 0, 1) := by decide +kernel
theorem dL_law_1077 : decode cL_law 1077 = .ok (.ireturn, 1) := by decide +kernel
theorem dL_law_1078 : decode cL_law 1078 = .ok (.aload_n 1, 1) := by decide +kernel
theorem dL_law_1079 : decode cL_law 1079 = .ok (.aload_n 0, 1) := by decide +kernel
theorem dL_law_1080 : decode cL_law 1080 = .ok (.iload_n 3, 1) := by decide +kernel
theorem dL_law_1081 : decode cL_law 1081 = .ok (.iconst 1, 1) := by decide +kernel
theorem dL_law_1082 : decode cL_law 1082 = .ok (.iadd, 1) := by decide +kernel
theorem dL_law_1083 : decode cL_law 1083 = .ok (.iaload, 1) := by decide +kernel
theorem dL_law_1084 : decode cL_law 1084 = .ok (.aload_n 0, 1) := by decide +kernel
theorem dL_law_1085 : decode cL_law 1085 = .ok (.iload_n 3, 1) := by decide +kernel
theorem dL_law_1086 : decode cL_law 1086 = .ok (.iconst 2, 1) := by decide +kernel
theorem dL_law_1087 : decode cL_law 1087 = .ok (.iadd, 1) := by decide +kernel
theorem dL_law_1088 : decode cL_law 1088 = .ok (.iaload, 1) := by decide +kernel
theorem dL_law_1089 : decode cL_law 1089 = .ok (.aload_n 0, 1) := by decide +kernel
theorem dL_law_1090 : decode cL_law 1090 = .ok (.iload_n 3, 1) := by decide +kernel
theorem dL_law_1091 : decode cL_law 1091 = .ok (.iconst 3, 1) := by decide +kernel
theorem dL_law_1092 : decode cL_law 1092 = .ok (.iadd, 1) := by decide +kernel
theorem dL_law_1093 : decode cL_law 1093 = .ok (.iaload, 1) := by decide +kernel
theorem dL_law_1094 : decode cL_law 1094 = .ok (.aload_n 0, 1) := by decide +kernel
theorem dL_law_1095 : decode cL_law 1095 = .ok (.iload_n 3, 1) := by decide +kernel
theorem dL_law_1096 : decode cL_law 1096 = .ok (.iconst 4, 1) := by decide +kernel
theorem dL_law_1097 : decode cL_law 1097 = .ok (.iadd, 1) := by decide +kernel
theorem dL_law_1098 : decode cL_law 1098 = .ok (.iaload, 1) := by decide +kernel
theorem dL_law_1099 : decode cL_law 1099 = .ok (.invokevirtual 131, 3) := by decide +kernel
theorem dL_law_1102 : decode cL_law 1102 = .ok (.aload_n 2, 1) := by decide +kernel
theorem dL_law_1103 : decode cL_law 1103 = .ok (.aload_n 0, 1) := by decide +kernel
theorem dL_law_1104 : decode cL_law 1104 = .ok (.iload_n 3, 1) := by decide +kernel
theorem dL_law_1105 : decode cL_law 1105 = .ok (.iconst 1, 1) := by decide +kernel
theorem dL_law_1106 : decode cL_law 1106 = .ok (.iadd, 1) := by decide +kernel
theorem dL_law_1107 : decode cL_law 1107 = .ok (.iaload, 1) := by decide +kernel
theorem dL_law_1108 : decode cL_law 1108 = .ok (.aload_n 0, 1) := by decide +kernel
theorem dL_law_1109 : decode cL_law 1109 = .ok (.iload_n 3, 1) := by decide +kernel
theorem dL_law_1110 : decode cL_law 1110 = .ok (.iconst 2, 1) := by decide +kernel
theorem dL_law_1111 : decode cL_law 1111 = .ok (.iadd, 1) := by decide +kernel
theorem dL_law_1112 : decode cL_law 1112 = .ok (.iaload, 1) := by decide +kernel
theorem dL_law_1113 : decode cL_law 1113 = .ok (.aload_n 0, 1) := by decide +kernel
theorem dL_law_1114 : decode cL_law 1114 = .ok (.iload_n 3, 1) := by decide +kernel
theorem dL_law_1115 : decode cL_law 1115 = .ok (.iconst 3, 1) := by decide +kernel
theorem dL_law_1116 : decode cL_law 1116 = .ok (.iadd, 1) := by decide +kernel
theorem dL_law_1117 : decode cL_law 1117 = .ok (.iaload, 1) := by decide +kernel
theorem dL_law_1118 : decode cL_law 1118 = .ok (.aload_n 0, 1) := by decide +kernel
theorem dL_law_1119 : decode cL_law 1119 = .ok (.iload_n 3, 1) := by decide +kernel
theorem dL_law_1120 : decode cL_law 1120 = .ok (.iconst 4, 1) := by decide +kernel
theorem dL_law_1121 : decode cL_law 1121 = .ok (.iadd, 1) := by decide +kernel
theorem dL_law_1122 : decode cL_law 1122 = .ok (.iaload, 1) := by decide +kernel
theorem dL_law_1123 : decode cL_law 1123 = .ok (.invokevirtual 134, 3) := by decide +kernel
theorem dL_law_1126 : decode cL_law 1126 = .ok (.if_icmp .eq 295, 3) := by decide +kernel
theorem dL_law_1129 : decode cL_law 1129 = .ok (.iconst 0, 1) := by decide +kernel
theorem dL_law_1130 : decode cL_law 1130 = .ok (.ireturn, 1) := by decide +kernel
theorem dL_law_1131 : decode cL_law 1131 = .ok (.aload_n 1, 1) := by decide +kernel
theorem dL_law_1132 : decode cL_law 1132 = .ok (.aload_n 0, 1) := by decide +kernel
theorem dL_law_1133 : decode cL_law 1133 = .ok (.iload_n 3, 1) := by decide +kernel
theorem dL_law_1134 : decode cL_law 1134 = .ok (.iconst 1, 1) := by decide +kernel
theorem dL_law_1135 : decode cL_law 1135 = .ok (.iadd, 1) := by decide +kernel
theorem dL_law_1136 : decode cL_law 1136 = .ok (.iaload, 1) := by decide +kernel
theorem dL_law_1137 : decode cL_law 1137 = .ok (.aload_n 0, 1) := by decide +kernel
theorem dL_law_1138 : decode cL_law 1138 = .ok (.iload_n 3, 1) := by decide +kernel
theorem dL_law_1139 : decode cL_law 1139 = .ok (.iconst 2, 1) := by decide +kernel
theorem dL_law_1140 : decode cL_law 1140 = .ok (.iadd, 1) := by decide +kernel
theorem dL_law_1141 : decode cL_law 1141 = .ok (.iaload, 1) := by decide +kernel
theorem dL_law_1142 : decode cL_law 1142 = .ok (.aload_n 0, 1) := by decide +kernel
theorem dL_law_1143 : decode cL_law 1143 = .ok (.iload_n 3, 1) := by decide +kernel
theorem dL_law_1144 : decode cL_law 1144 = .ok (.iconst 3, 1) := by decide +kernel
theorem dL_law_1145 : decode cL_law 1145 = .ok (.iadd, 1) := by decide +kernel
theorem dL_law_1146 : decode cL_law 1146 = .ok (.iaload, 1) := by decide +kernel
theorem dL_law_1147 : decode cL_law 1147 = .ok (.aload_n 0, 1) := by decide +kernel
theorem dL_law_1148 : decode cL_law 1148 = .ok (.iload_n 3, 1) := by decide +kernel
theorem dL_law_1149 : decode cL_law 1149 = .ok (.iconst 4, 1) := by decide +kernel
theorem dL_law_1150 : decode cL_law 1150 = .ok (.iadd, 1) := by decide +kernel
theorem dL_law_1151 : decode cL_law 1151 = .ok (.iaload, 1) := by decide +kernel
theorem dL_law_1152 : decode cL_law 1152 = .ok (.invokevirtual 135, 3) := by decide +kernel
theorem dL_law_1155 : decode cL_law 1155 = .ok (.aload_n 2, 1) := by decide +kernel
theorem dL_law_1156 : decode cL_law 1156 = .ok (.aload_n 0, 1) := by decide +kernel
theorem dL_law_1157 : decode cL_law 1157 = .ok (.iload_n 3, 1) := by decide +kernel
theorem dL_law_1158 : decode cL_law 1158 = .ok (.iconst 1, 1) := by decide +kernel
theorem dL_law_1159 : decode cL_law 1159 = .ok (.iadd, 1) := by decide +kernel
theorem dL_law_1160 : decode cL_law 1160 = .ok (.iaload, 1) := by decide +kernel
theorem dL_law_1161 : decode cL_law 1161 = .ok (.aload_n 0, 1) := by decide +kernel
theorem dL_law_1162 : decode cL_law 1162 = .ok (.iload_n 3, 1) := by decide +kernel
theorem dL_law_1163 : decode cL_law 1163 = .ok (.iconst 2, 1) := by decide +kernel
theorem dL_law_1164 : decode cL_law 1164 = .ok (.iadd, 1) := by decide +kernel
theorem dL_law_1165 : decode cL_law 1165 = .ok (.iaload, 1) := by decide +kernel
theorem dL_law_1166 : decode cL_law 1166 = .ok (.aload_n 0, 1) := by decide +kernel
theorem dL_law_1167 : decode cL_law 1167 = .ok (.iload_n 3, 1) := by decide +kernel
theorem dL_law_1168 : decode cL_law 1168 = .ok (.iconst 3, 1) := by decide +kernel
theorem dL_law_1169 : decode cL_law 1169 = .ok (.iadd, 1) := by decide +kernel
theorem dL_law_1170 : decode cL_law 1170 = .ok (.iaload, 1) := by decide +kernel
theorem dL_law_1171 : decode cL_law 1171 = .ok (.aload_n 0, 1) := by decide +kernel
theorem dL_law_1172 : decode cL_law 1172 = .ok (.iload_n 3, 1) := by decide +kernel
theorem dL_law_1173 : decode cL_law 1173 = .ok (.iconst 4, 1) := by decide +kernel
theorem dL_law_1174 : decode cL_law 1174 = .ok (.iadd, 1) := by decide +kernel
theorem dL_law_1175 : decode cL_law 1175 = .ok (.iaload, 1) := by decide +kernel
theorem dL_law_1176 : decode cL_law 1176 = .ok (.invokevirtual 138, 3) := by decide +kernel
theorem dL_law_1179 : decode cL_law 1179 = .ok (.if_icmp .eq 242, 3) := by decide +kernel
theorem dL_law_1182 : decode cL_law 1182 = .ok (.iconst 0, 1) := by decide +kernel
theorem dL_law_1183 : decode cL_law 1183 = .ok (.ireturn, 1) := by decide +kernel
theorem dL_law_1184 : decode cL_law 1184 = .ok (.aload_n 1, 1) := by decide +kernel
theorem dL_law_1185 : decode cL_law 1185 = .ok (.aload_n 0, 1) := by decide +kernel
theorem dL_law_1186 : decode cL_law 1186 = .ok (.iload_n 3, 1) := by decide +kernel
theorem dL_law_1187 : decode cL_law 1187 = .ok (.iconst 1, 1) := by decide +kernel
theorem dL_law_1188 : decode cL_law 1188 = .ok (.iadd, 1) := by decide +kernel
theorem dL_law_1189 : decode cL_law 1189 = .ok (.iaload, 1) := by decide +kernel
theorem dL_law_1190 : decode cL_law 1190 = .ok (.aload_n 0, 1) := by decide +kernel
theorem dL_law_1191 : decode cL_law 1191 = .ok (.iload_n 3, 1) := by decide +kernel
theorem dL_law_1192 : decode cL_law 1192 = .ok (.iconst 2, 1) := by decide +kernel
theorem dL_law_1193 : decode cL_law 1193 = .ok (.iadd, 1) := by decide +kernel
theorem dL_law_1194 : decode cL_law 1194 = .ok (.iaload, 1) := by decide +kernel
theorem dL_law_1195 : decode cL_law 1195 = .ok (.aload_n 0, 1) := by decide +kernel
theorem dL_law_1196 : decode cL_law 1196 = .ok (.iload_n 3, 1) := by decide +kernel
theorem dL_law_1197 : decode cL_law 1197 = .ok (.iconst 3, 1) := by decide +kernel
theorem dL_law_1198 : decode cL_law 1198 = .ok (.iadd, 1) := by decide +kernel
theorem dL_law_1199 : decode cL_law 1199 = .ok (.iaload, 1) := by decide +kernel
theorem dL_law_1200 : decode cL_law 1200 = .ok (.invokevirtual 139, 3) := by decide +kernel
theorem dL_law_1203 : decode cL_law 1203 = .ok (.aload_n 2, 1) := by decide +kernel
theorem dL_law_1204 : decode cL_law 1204 = .ok (.aload_n 0, 1) := by decide +kernel
theorem dL_law_1205 : decode cL_law 1205 = .ok (.iload_n 3, 1) := by decide +kernel
theorem dL_law_1206 : decode cL_law 1206 = .ok (.iconst 1, 1) := by decide +kernel
theorem dL_law_1207 : decode cL_law 1207 = .ok (.iadd, 1) := by decide +kernel
theorem dL_law_1208 : decode cL_law 1208 = .ok (.iaload, 1) := by decide +kernel
theorem dL_law_1209 : decode cL_law 1209 = .ok (.aload_n 0, 1) := by decide +kernel
theorem dL_law_1210 : decode cL_law 1210 = .ok (.iload_n 3, 1) := by decide +kernel
theorem dL_law_1211 : decode cL_law 1211 = .ok (.iconst 2, 1) := by decide +kernel
theorem dL_law_1212 : decode cL_law 1212 = .ok (.iadd, 1) := by decide +kernel
theorem dL_law_1213 : decode cL_law 1213 = .ok (.iaload, 1) := by decide +kernel
theorem dL_law_1214 : decode cL_law 1214 = .ok (.aload_n 0, 1) := by decide +kernel
theorem dL_law_1215 : decode cL_law 1215 = .ok (.iload_n 3, 1) := by decide +kernel
theorem dL_law_1216 : decode cL_law 1216 = .ok (.iconst 3, 1) := by decide +kernel
theorem dL_law_1217 : decode cL_law 1217 = .ok (.iadd, 1) := by decide +kernel
theorem dL_law_1218 : decode cL_law 1218 = .ok (.iaload, 1) := by decide +kernel
theorem dL_law_1219 : decode cL_law 1219 = .ok (.invokevirtual 142, 3) := by decide +kernel
theorem dL_law_1222 : decode cL_law 1222 = .ok (.if_icmp .eq 199, 3) := by decide +kernel
theorem dL_law_1225 : decode cL_law 1225 = .ok (.iconst 0, 1) := by decide +kernel
theorem dL_law_1226 : decode cL_law 1226 = .ok (.ireturn, 1) := by decide +kernel
theorem dL_law_1227 : decode cL_law 1227 = .ok (.aload_n 1, 1) := by decide +kernel
theorem dL_law_1228 : decode cL_law 1228 = .ok (.aload_n 0, 1) := by decide +kernel
theorem dL_law_1229 : decode cL_law 1229 = .ok (.iload_n 3, 1) := by decide +kernel
theorem dL_law_1230 : decode cL_law 1230 = .ok (.iconst 1, 1) := by decide +kernel
theorem dL_law_1231 : decode cL_law 1231 = .ok (.iadd, 1) := by decide +kernel
theorem dL_law_1232 : decode cL_law 1232 = .ok (.iaload, 1) := by decide +kernel
theorem dL_law_1233 : decode cL_law 1233 = .ok (.invokevirtual 143, 3) := by decide +kernel
theorem dL_law_1236 : decode cL_law 1236 = .ok (.aload_n 2, 1) := by decide +kernel
theorem dL_law_1237 : decode cL_law 1237 = .ok (.aload_n 0, 1) := by decide +kernel
theorem dL_law_1238 : decode cL_law 1238 = .ok (.iload_n 3, 1) := by decide +kernel
theorem dL_law_1239 : decode cL_law 1239 = .ok (.iconst 1, 1) := by decide +kernel
theorem dL_law_1240 : decode cL_law 1240 = .ok (.iadd, 1) := by decide +kernel
theorem dL_law_1241 : decode cL_law 1241 = .ok (.iaload, 1) := by decide +kernel
theorem dL_law_1242 : decode cL_law 1242 = .ok (.invokevirtual 146, 3) := by decide +kernel
theorem dL_law_1245 : decode cL_law 1245 = .ok (.if_icmp .eq 176, 3) := by decide +kernel
theorem dL_law_1248 : decode cL_law 1248 = .ok (.iconst 0, 1) := by decide +kernel
theorem dL_law_1249 : decode cL_law 1249 = .ok (.ireturn, 1) := by decide +kernel
theorem dL_law_1250 : decode cL_law 1250 = .ok (.aload_n 1, 1) := by decide +kernel
theorem dL_law_1251 : decode cL_law 1251 = .ok (.aload_n 0, 1) := by decide +kernel
theorem dL_law_1252 : decode cL_law 1252 = .ok (.iload_n 3, 1) := by decide +kernel
theorem dL_law_1253 : decode cL_law 1253 = .ok (.iconst 1, 1) := by decide +kernel
theorem dL_law_1254 : decode cL_law 1254 = .ok (.iadd, 1) := by decide +kernel
theorem dL_law_1255 : decode cL_law 1255 = .ok (.iaload, 1) := by decide +kernel
theorem dL_law_1256 : decode cL_law 1256 = .ok (.invokevirtual 147, 3) := by decide +kernel
theorem dL_law_1259 : decode cL_law 1259 = .ok (.aload_n 2, 1) := by decide +kernel
theorem dL_law_1260 : decode cL_law 1260 = .ok (.aload_n 0, 1) := by decide +kernel
theorem dL_law_1261 : decode cL_law 1261 = .ok (.iload_n 3, 1) := by decide +kernel
theorem dL_law_1262 : decode cL_law 1262 = .ok (.iconst 1, 1) := by decide +kernel
theorem dL_law_1263 : decode cL_law 1263 = .ok (.iadd, 1) := by decide +kernel
theorem dL_law_1264 : decode cL_law 1264 = .ok (.iaload, 1) := by decide +kernel
theorem dL_law_1265 : decode cL_law 1265 = .ok (.invokevirtual 150, 3) := by decide +kernel
theorem dL_law_1268 : decode cL_law 1268 = .ok (.if_icmp .eq 153, 3) := by decide +kernel
theorem dL_law_1271 : decode cL_law 1271 = .ok (.iconst 0, 1) := by decide +kernel
theorem dL_law_1272 : decode cL_law 1272 = .ok (.ireturn, 1) := by decide +kernel
theorem dL_law_1273 : decode cL_law 1273 = .ok (.aload_n 1, 1) := by decide +kernel
theorem dL_law_1274 : decode cL_law 1274 = .ok (.aload_n 0, 1) := by decide +kernel
theorem dL_law_1275 : decode cL_law 1275 = .ok (.iload_n 3, 1) := by decide +kernel
theorem dL_law_1276 : decode cL_law 1276 = .ok (.iconst 1, 1) := by decide +kernel
theorem dL_law_1277 : decode cL_law 1277 = .ok (.iadd, 1) := by decide +kernel
theorem dL_law_1278 : decode cL_law 1278 = .ok (.iaload, 1) := by decide +kernel
theorem dL_law_1279 : decode cL_law 1279 = .ok (.invokevirtual 151, 3) := by decide +kernel
theorem dL_law_1282 : decode cL_law 1282 = .ok (.aload_n 2, 1) := by decide +kernel
theorem dL_law_1283 : decode cL_law 1283 = .ok (.aload_n 0, 1) := by decide +kernel
theorem dL_law_1284 : decode cL_law 1284 = .ok (.iload_n 3, 1) := by decide +kernel
theorem dL_law_1285 : decode cL_law 1285 = .ok (.iconst 1, 1) := by decide +kernel
theorem dL_law_1286 : decode cL_law 1286 = .ok (.iadd, 1) := by decide +kernel
theorem dL_law_1287 : decode cL_law 1287 = .ok (.iaload, 1) := by decide +kernel
theorem dL_law_1288 : decode cL_law 1288 = .ok (.invokevirtual 154, 3) := by decide +kernel
theorem dL_law_1291 : decode cL_law 1291 = .ok (.if_icmp .eq 130, 3) := by decide +kernel
theorem dL_law_1294 : decode cL_law 1294 = .ok (.iconst 0, 1) := by decide +kernel
theorem dL_law_1295 : decode cL_law 1295 = .ok (.ireturn, 1) := by decide +kernel
theorem dL_law_1296 : decode cL_law 1296 = .ok (.aload_n 1, 1) := by decide +kernel
theorem dL_law_1297 : decode cL_law 1297 = .ok (.aload_n 0, 1) := by decide +kernel
theorem dL_law_1298 : decode cL_law 1298 = .ok (.iload_n 3, 1) := by decide +kernel
theorem dL_law_1299 : decode cL_law 1299 = .ok (.iconst 1, 1) := by decide +kernel
theorem dL_law_1300 : decode cL_law 1300 = .ok (.iadd, 1) := by decide +kernel
theorem dL_law_1301 : decode cL_law 1301 = .ok (.iaload, 1) := by decide +kernel
theorem dL_law_1302 : decode cL_law 1302 = .ok (.aload_n 0, 1) := by decide +kernel
theorem dL_law_1303 : decode cL_law 1303 = .ok (.iload_n 3, 1) := by decide +kernel
theorem dL_law_1304 : decode cL_law 1304 = .ok (.iconst 2, 1) := by decide +kernel
theorem dL_law_1305 : decode cL_law 1305 = .ok (.iadd, 1) := by decide +kernel
theorem dL_law_1306 : decode cL_law 1306 = .ok (.iaload, 1) := by decide +kernel
theorem dL_law_1307 : decode cL_law 1307 = .ok (.invokevirtual 155, 3) := by decide +kernel
theorem dL_law_1310 : decode cL_law 1310 = .ok (.aload_n 2, 1) := by decide +kernel
theorem dL_law_1311 : decode cL_law 1311 = .ok (.aload_n 0, 1) := by decide +kernel
theorem dL_law_1312 : decode cL_law 1312 = .ok (.iload_n 3, 1) := by decide +kernel
theorem dL_law_1313 : decode cL_law 1313 = .ok (.iconst 1, 1) := by decide +kernel
theorem dL_law_1314 : decode cL_law 1314 = .ok (.iadd, 1) := by decide +kernel
theorem dL_law_1315 : decode cL_law 1315 = .ok (.iaload, 1) := by decide +kernel
theorem dL_law_1316 : decode cL_law 1316 = .ok (.aload_n 0, 1) := by decide +kernel
theorem dL_law_1317 : decode cL_law 1317 = .ok (.iload_n 3, 1) := by decide +kernel
theorem dL_law_1318 : decode cL_law 1318 = .ok (.iconst 2, 1) := by decide +kernel
theorem dL_law_1319 : decode cL_law 1319 = .ok (.iadd, 1) := by decide +kernel
theorem dL_law_1320 : decode cL_law 1320 = .ok (.iaload, 1) := by decide +kernel
theorem dL_law_1321 : decode cL_law 1321 = .ok (.invokevirtual 158, 3) := by decide +kernel
theorem dL_law_1324 : decode cL_law 1324 = .ok (.if_icmp .eq 97, 3) := by decide +kernel
theorem dL_law_1327 : decode cL_law 1327 = .ok (.iconst 0, 1) := by decide +kernel
theorem dL_law_1328 : decode cL_law 1328 = .ok (.ireturn, 1) := by decide +kernel
theorem dL_law_1329 : decode cL_law 1329 = .ok (.aload_n 1, 1) := by decide +kernel
theorem dL_law_1330 : decode cL_law 1330 = .ok (.aload_n 0, 1) := by decide +kernel
theorem dL_law_1331 : decode cL_law 1331 = .ok (.iload_n 3, 1) := by decide +kernel
theorem dL_law_1332 : decode cL_law 1332 = .ok (.iconst 1, 1) := by decide +kernel
theorem dL_law_1333 : decode cL_law 1333 = .ok (.iadd, 1) := by decide +kernel
theorem dL_law_1334 : decode cL_law 1334 = .ok (.iaload, 1) := by decide +kernel
theorem dL_law_1335 : decode cL_law 1335 = .ok (.aload_n 0, 1) := by decide +kernel
theorem dL_law_1336 : decode cL_law 1336 = .ok (.iload_n 3, 1) := by decide +kernel
theorem dL_law_1337 : decode cL_law 1337 = .ok (.iconst 2, 1) := by decide +kernel
theorem dL_law_1338 : decode cL_law 1338 = .ok (.iadd, 1) := by decide +kernel
theorem dL_law_1339 : decode cL_law 1339 = .ok (.iaload, 1) := by decide +kernel
theorem dL_law_1340 : decode cL_law 1340 = .ok (.invokevirtual 159, 3) := by decide +kernel
theorem dL_law_1343 : decode cL_law 1343 = .ok (.aload_n 2, 1) := by decide +kernel
theorem dL_law_1344 : decode cL_law 1344 = .ok (.aload_n 0, 1) := by decide +kernel
theorem dL_law_1345 : decode cL_law 1345 = .ok (.iload_n 3, 1) := by decide +kernel
theorem dL_law_1346 : decode cL_law 1346 = .ok (.iconst 1, 1) := by decide +kernel
theorem dL_law_1347 : decode cL_law 1347 = .ok (.iadd, 1) := by decide +kernel
theorem dL_law_1348 : decode cL_law 1348 = .ok (.iaload, 1) := by decide +kernel
theorem dL_law_1349 : decode cL_law 1349 = .ok (.aload_n 0, 1) := by decide +kernel
theorem dL_law_1350 : decode cL_law 1350 = .ok (.iload_n 3, 1) := by decide +kernel
theorem dL_law_1351 : decode cL_law 1351 = .ok (.iconst 2, 1) := by decide +kernel
theorem dL_law_1352 : decode cL_law 1352 = .ok (.iadd, 1) := by decide +kernel
theorem dL_law_1353 : decode cL_law 1353 = .ok (.iaload, 1) := by decide +kernel
theorem dL_law_1354 : decode cL_law 1354 = .ok (.invokevirtual 162, 3) := by decide +kernel
theorem dL_law_1357 : decode cL_law 1357 = .ok (.if_icmp .eq 64, 3) := by decide +kernel
theorem dL_law_1360 : decode cL_law 1360 = .ok (.iconst 0, 1) := by decide +kernel
theorem dL_law_1361 : decode cL_law 1361 = .ok (.ireturn, 1) := by decide +kernel
theorem dL_law_1362 : decode cL_law 1362 = .ok (.aload_n 1, 1) := by decide +kernel
theorem dL_law_1363 : decode cL_law 1363 = .ok (.aload_n 0, 1) := by decide +kernel
theorem dL_law_1364 : decode cL_law 1364 = .ok (.iload_n 3, 1) := by decide +kernel
theorem dL_law_1365 : decode cL_law 1365 = .ok (.iconst 1, 1) := by decide +kernel
theorem dL_law_1366 : decode cL_law 1366 = .ok (.iadd, 1) := by decide +kernel
theorem dL_law_1367 : decode cL_law 1367 = .ok (.iaload, 1) := by decide +kernel
theorem dL_law_1368 : decode cL_law 1368 = .ok (.invokevirtual 163, 3) := by decide +kernel
theorem dL_law_1371 : decode cL_law 1371 = .ok (.aload_n 2, 1) := by decide +kernel
theorem dL_law_1372 : decode cL_law 1372 = .ok (.aload_n 0, 1) := by decide +kernel
theorem dL_law_1373 : decode cL_law 1373 = .ok (.iload_n 3, 1) := by decide +kernel
theorem dL_law_1374 : decode cL_law 1374 = .ok (.iconst 1, 1) := by decide +kernel
theorem dL_law_1375 : decode cL_law 1375 = .ok (.iadd, 1) := by decide +kernel
theorem dL_law_1376 : decode cL_law 1376 = .ok (.iaload, 1) := by decide +kernel
theorem dL_law_1377 : decode cL_law 1377 = .ok (.invokevirtual 166, 3) := by decide +kernel
theorem dL_law_1380 : decode cL_law 1380 = .ok (.if_icmp .eq 41, 3) := by decide +kernel
theorem dL_law_1383 : decode cL_law 1383 = .ok (.iconst 0, 1) := by decide +kernel
theorem dL_law_1384 : decode cL_law 1384 = .ok (.ireturn, 1) := by decide +kernel
theorem dL_law_1385 : decode cL_law 1385 = .ok (.aload_n 1, 1) := by decide +kernel
theorem dL_law_1386 : decode cL_law 1386 = .ok (.aload_n 0, 1) := by decide +kernel
theorem dL_law_1387 : decode cL_law 1387 = .ok (.iload_n 3, 1) := by decide +kernel
theorem dL_law_1388 : decode cL_law 1388 = .ok (.iconst 1, 1) := by decide +kernel
theorem dL_law_1389 : decode cL_law 1389 = .ok (.iadd, 1) := by decide +kernel
theorem dL_law_1390 : decode cL_law 1390 = .ok (.iaload, 1) := by decide +kernel
theorem dL_law_1391 : decode cL_law 1391 = .ok (.invokevirtual 167, 3) := by decide +kernel
theorem dL_law_1394 : decode cL_law 1394 = .ok (.aload_n 2, 1) := by decide +kernel
theorem dL_law_1395 : decode cL_law 1395 = .ok (.aload_n 0, 1) := by decide +kernel
theorem dL_law_1396 : decode cL_law 1396 = .ok (.iload_n 3, 1) := by decide +kernel
theorem dL_law_1397 : decode cL_law 1397 = .ok (.iconst 1, 1) := by decide +kernel
theorem dL_law_1398 : decode cL_law 1398 = .ok (.iadd, 1) := by decide +kernel
theorem dL_law_1399 : decode cL_law 1399 = .ok (.iaload, 1) := by decide +kernel
theorem dL_law_1400 : decode cL_law 1400 = .ok (.invokevirtual 170, 3) := by decide +kernel
theorem dL_law_1403 : decode cL_law 1403 = .ok (.if_icmp .eq 18, 3) := by decide +kernel
theorem dL_law_1406 : decode cL_law 1406 = .ok (.iconst 0, 1) := by decide +kernel
theorem dL_law_1407 : decode cL_law 1407 = .ok (.ireturn, 1) := by decide +kernel
theorem dL_law_1408 : decode cL_law 1408 = .ok (.aload_n 1, 1) := by decide +kernel
theorem dL_law_1409 : decode cL_law 1409 = .ok (.invokevirtual 171, 3) := by decide +kernel
theorem dL_law_1412 : decode cL_law 1412 = .ok (.aload_n 2, 1) := by decide +kernel
theorem dL_law_1413 : decode cL_law 1413 = .ok (.invokevirtual 174, 3) := by decide +kernel
theorem dL_law_1416 : decode cL_law 1416 = .ok (.if_icmp .eq 5, 3) := by decide +kernel
theorem dL_law_1419 : decode cL_law 1419 = .ok (.iconst 0, 1) := by decide +kernel
theorem dL_law_1420 : decode cL_law 1420 = .ok (.ireturn, 1) := by decide +kernel
theorem dL_law_1421 : decode cL_law 1421 = .ok (.iinc 3 6, 3) := by decide +kernel
theorem dL_law_1424 : decode cL_law 1424 = .ok (.goto (-1406), 3) := by decide +kernel
theorem dL_law_1427 : decode cL_law 1427 = .ok (.iconst 1, 1) := by decide +kernel
theorem dL_law_1428 : decode cL_law 1428 = .ok (.ireturn, 1) := by decide +kernel
abbrev vwCl : List vw_C := [(RX0, TX0, 3), (RX1, TX1, 6), (RX2, TX2, 8), (RX3, TX3, 2), (RX4, TX4, 8), (RX5, TX5, 3), (RX6, TX6, 7), (RX7, TX7, 9), (RX8, TX8, 23)]
