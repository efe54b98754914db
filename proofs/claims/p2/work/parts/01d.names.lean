theorem dX8_drawn_84 : decode cX8_drawn 84 = .ok (.iload 9, 2) := by decide +kernel
theorem dX8_drawn_86 : decode cX8_drawn 86 = .ok (.lload 4, 2) := by decide +kernel
theorem dX8_drawn_88 : decode cX8_drawn 88 = .ok (.ldc2_w 235, 3) := by decide +kernel
theorem dX8_drawn_91 : decode cX8_drawn 91 = .ok (.lrem, 1) := by decide +kernel
theorem dX8_drawn_92 : decode cX8_drawn 92 = .ok (.l2i, 1) := by decide +kernel
theorem dX8_drawn_93 : decode cX8_drawn 93 = .ok (.iload 8, 2) := by decide +kernel
theorem dX8_drawn_95 : decode cX8_drawn 95 = .ok (.invokevirtual 196, 3) := by decide +kernel
theorem dX8_drawn_98 : decode cX8_drawn 98 = .ok (.istore 10, 2) := by decide +kernel
theorem dX8_drawn_100 : decode cX8_drawn 100 = .ok (.iload 6, 2) := by decide +kernel
theorem dX8_drawn_102 : decode cX8_drawn 102 = .ok (.iload 10, 2) := by decide +kernel
theorem dX8_drawn_104 : decode cX8_drawn 104 = .ok (.ifCond .eq 7, 3) := by decide +kernel
theorem dX8_drawn_107 : decode cX8_drawn 107 = .ok (.iconst 1, 1) := by decide +kernel
theorem dX8_drawn_108 : decode cX8_drawn 108 = .ok (.goto 4, 3) := by decide +kernel
theorem dX8_drawn_111 : decode cX8_drawn 111 = .ok (.iconst 0, 1) := by decide +kernel
theorem dX8_drawn_112 : decode cX8_drawn 112 = .ok (.iadd, 1) := by decide +kernel
theorem dX8_drawn_113 : decode cX8_drawn 113 = .ok (.istore 6, 2) := by decide +kernel
theorem dX8_drawn_115 : decode cX8_drawn 115 = .ok (.iload 7, 2) := by decide +kernel
theorem dX8_drawn_117 : decode cX8_drawn 117 = .ok (.iload 10, 2) := by decide +kernel
theorem dX8_drawn_119 : decode cX8_drawn 119 = .ok (.ifCond .eq 7, 3) := by decide +kernel
theorem dX8_drawn_122 : decode cX8_drawn 122 = .ok (.iconst 0, 1) := by decide +kernel
theorem dX8_drawn_123 : decode cX8_drawn 123 = .ok (.goto 7, 3) := by decide +kernel
theorem dX8_drawn_126 : decode cX8_drawn 126 = .ok (.iconst 1, 1) := by decide +kernel
theorem dX8_drawn_127 : decode cX8_drawn 127 = .ok (.iload 9, 2) := by decide +kernel
theorem dX8_drawn_129 : decode cX8_drawn 129 = .ok (.ishl, 1) := by decide +kernel
theorem dX8_drawn_130 : decode cX8_drawn 130 = .ok (.ior, 1) := by decide +kernel
theorem dX8_drawn_131 : decode cX8_drawn 131 = .ok (.istore 7, 2) := by decide +kernel
theorem dX8_drawn_133 : decode cX8_drawn 133 = .ok (.iinc 8 1, 3) := by decide +kernel
theorem dX8_drawn_136 : decode cX8_drawn 136 = .ok (.goto (-84), 3) := by decide +kernel
theorem dX8_drawn_139 : decode cX8_drawn 139 = .ok (.iload_n 3, 1) := by decide +kernel
theorem dX8_drawn_140 : decode cX8_drawn 140 = .ok (.ifCond .ne 8, 3) := by decide +kernel
theorem dX8_drawn_143 : decode cX8_drawn 143 = .ok (.iload 6, 2) := by decide +kernel
theorem dX8_drawn_145 : decode cX8_drawn 145 = .ok (.goto 5, 3) := by decide +kernel
theorem dX8_drawn_148 : decode cX8_drawn 148 = .ok (.iload 7, 2) := by decide +kernel
theorem dX8_drawn_150 : decode cX8_drawn 150 = .ok (.ireturn, 1) := by decide +kernel
set_option maxRecDepth 20000 in
theorem ggX8_image_X8_in : GoodIn wsX8_image wsX8_in := goodIn_r _ [9] (by decide +kernel) (by decide +kernel)
set_option maxRecDepth 20000 in
theorem gX8_image_X8_in : GoodIn wsX8_image (va_wsS RX8 56 yX8_in wsX8_in) := goodIn_app (goodIn_of _ (by decide +kernel)) ggX8_image_X8_in
set_option maxRecDepth 20000 in
theorem ggX8_image_X8_isGate : GoodIn wsX8_image wsX8_isGate := goodIn_r _ [13, 3, 17, 18, 19, 20, 21, 22, 23, 24, 25, 26, 27, 28, 29, 30, 31, 32, 33, 34, 35, 36, 37, 38, 39] (by decide +kernel) (by decide +kernel)
set_option maxRecDepth 20000 in
theorem gX8_image_X8_isGate : GoodIn wsX8_image (wsV RX8 180 RX8 yX8_isGate wsX8_isGate) := goodIn_app (goodIn_of _ (by decide +kernel)) ggX8_image_X8_isGate
set_option maxRecDepth 20000 in
theorem ggX8_image_X8_copies : GoodIn wsX8_image wsX8_copies := goodIn_r _ [16] (by decide +kernel) (by decide +kernel)
set_option maxRecDepth 20000 in
theorem gX8_image_X8_copies : GoodIn wsX8_image (va_wsS RX8 145 yX8_copies wsX8_copies) := goodIn_app (goodIn_of _ (by decide +kernel)) ggX8_image_X8_copies
theorem dX8_image_0 : decode cX8_image 0 = .ok (.iload_n 1, 1) := by decide +kernel
theorem dX8_image_1 : decode cX8_image 1 = .ok (.iconst 0, 1) := by decide +kernel
theorem dX8_image_2 : decode cX8_image 2 = .ok (.iconst 1, 1) := by decide +kernel
theorem dX8_image_3 : decode cX8_image 3 = .ok (.invokestatic 56, 3) := by decide +kernel
theorem dX8_image_6 : decode cX8_image 6 = .ok (.ifCond .ne 6, 3) := by decide +kernel
theorem dX8_image_9 : decode cX8_image 9 = .ok (.ldc 64, 2) := by decide +kernel
theorem dX8_image_11 : decode cX8_image 11 = .ok (.ireturn, 1) := by decide +kernel
theorem dX8_image_12 : decode cX8_image 12 = .ok (.aload_n 0, 1) := by decide +kernel
theorem dX8_image_13 : decode cX8_image 13 = .ok (.invokevirtual 180, 3) := by decide +kernel
theorem dX8_image_16 : decode cX8_image 16 = .ok (.ifCond .ne 6, 3) := by decide +kernel
theorem dX8_image_19 : decode cX8_image 19 = .ok (.ldc 183, 2) := by decide +kernel
theorem dX8_image_21 : decode cX8_image 21 = .ok (.ireturn, 1) := by decide +kernel
theorem dX8_image_22 : decode cX8_image 22 = .ok (.aload_n 0, 1) := by decide +kernel
theorem dX8_image_23 : decode cX8_image 23 = .ok (.getfield 25, 3) := by decide +kernel
theorem dX8_image_26 : decode cX8_image 26 = .ok (.iconst 0, 1) := by decide +kernel
theorem dX8_image_27 : decode cX8_image 27 = .ok (.aload_n 0, 1) := by decide +kernel
theorem dX8_image_28 : decode cX8_image 28 = .ok (.getfield 37, 3) := by decide +kernel
theorem dX8_image_31 : decode cX8_image 31 = .ok (.bipush 65, 2) := by decide +kernel
theorem dX8_image_33 : decode cX8_image 33 = .ok (.iload_n 1, 1) := by decide +kernel
theorem dX8_image_34 : decode cX8_image 34 = .ok (.imul, 1) := by decide +kernel
theorem dX8_image_35 : decode cX8_image 35 = .ok (.invokestatic 145, 3) := by decide +kernel
theorem dX8_image_38 : decode cX8_image 38 = .ok (.aload_n 0, 1) := by decide +kernel
theorem dX8_image_39 : decode cX8_image 39 = .ok (.getfield 40, 3) := by decide +kernel
theorem dX8_image_42 : decode cX8_image 42 = .ok (.iload_n 1, 1) := by decide +kernel
theorem dX8_image_43 : decode cX8_image 43 = .ok (.iconst 1, 1) := by decide +kernel
theorem dX8_image_44 : decode cX8_image 44 = .ok (.bastore, 1) := by decide +kernel
theorem dX8_image_45 : decode cX8_image 45 = .ok (.iconst 1, 1) := by decide +kernel
theorem dX8_image_46 : decode cX8_image 46 = .ok (.ireturn, 1) := by decide +kernel
set_option maxRecDepth 20000 in
theorem ggX8_restore_X8_in : GoodIn wsX8_restore wsX8_in := goodIn_r _ [10] (by decide +kernel) (by decide +kernel)
set_option maxRecDepth 20000 in
theorem gX8_restore_X8_in : GoodIn wsX8_restore (va_wsS RX8 56 yX8_in wsX8_in) := goodIn_app (goodIn_of _ (by decide +kernel)) ggX8_restore_X8_in
set_option maxRecDepth 20000 in
theorem ggX8_restore_X8_copies : GoodIn wsX8_restore wsX8_copies := goodIn_r _ [13] (by decide +kernel) (by decide +kernel)
set_option maxRecDepth 20000 in
theorem gX8_restore_X8_copies : GoodIn wsX8_restore (va_wsS RX8 145 yX8_copies wsX8_copies) := goodIn_app (goodIn_of _ (by decide +kernel)) ggX8_restore_X8_copies
theorem dX8_restore_0 : decode cX8_restore 0 = .ok (.iload_n 1, 1) := by decide +kernel
theorem dX8_restore_1 : decode cX8_restore 1 = .ok (.iconst 0, 1) := by decide +kernel
theorem dX8_restore_2 : decode cX8_restore 2 = .ok (.iconst 1, 1) := by decide +kernel
theorem dX8_restore_3 : decode cX8_restore 3 = .ok (.invokestatic 56, 3) := by decide +kernel
theorem dX8_restore_6 : decode cX8_restore 6 = .ok (.ifCond .ne 6, 3) := by decide +kernel
theorem dX8_restore_9 : decode cX8_restore 9 = .ok (.ldc 64, 2) := by decide +kernel
theorem dX8_restore_11 : decode cX8_restore 11 = .ok (.ireturn, 1) := by decide +kernel
theorem dX8_restore_12 : decode cX8_restore 12 = .ok (.aload_n 0, 1) := by decide +kernel
theorem dX8_restore_13 : decode cX8_restore 13 = .ok (.getfield 40, 3) := by decide +kernel
theorem dX8_restore_16 : decode cX8_restore 16 = .ok (.iload_n 1, 1) := by decide +kernel
theorem dX8_restore_17 : decode cX8_restore 17 = .ok (.baload, 1) := by decide +kernel
theorem dX8_restore_18 : decode cX8_restore 18 = .ok (.ifCond .ne 6, 3) := by decide +kernel
theorem dX8_restore_21 : decode cX8_restore 21 = .ok (.ldc 183, 2) := by decide +kernel
theorem dX8_restore_23 : decode cX8_restore 23 = .ok (.ireturn, 1) := by decide +kernel
theorem dX8_restore_24 : decode cX8_restore 24 = .ok (.aload_n 0, 1) := by decide +kernel
theorem dX8_restore_25 : decode cX8_restore 25 = .ok (.getfield 37, 3) := by decide +kernel
theorem dX8_restore_28 : decode cX8_restore 28 = .ok (.bipush 65, 2) := by decide +kernel
theorem dX8_restore_30 : decode cX8_restore 30 = .ok (.iload_n 1, 1) := by decide +kernel
theorem dX8_restore_31 : decode cX8_restore 31 = .ok (.imul, 1) := by decide +kernel
theorem dX8_restore_32 : decode cX8_restore 32 = .ok (.aload_n 0, 1) := by decide +kernel
theorem dX8_restore_33 : decode cX8_restore 33 = .ok (.getfield 25, 3) := by decide +kernel
theorem dX8_restore_36 : decode cX8_restore 36 = .ok (.iconst 0, 1) := by decide +kernel
theorem dX8_restore_37 : decode cX8_restore 37 = .ok (.invokestatic 145, 3) := by decide +kernel
theorem dX8_restore_40 : decode cX8_restore 40 = .ok (.aload_n 0, 1) := by decide +kernel
theorem dX8_restore_41 : decode cX8_restore 41 = .ok (.iconst 0, 1) := by decide +kernel
theorem dX8_restore_42 : decode cX8_restore 42 = .ok (.putfield 149, 3) := by decide +kernel
theorem dX8_restore_45 : decode cX8_restore 45 = .ok (.iconst 1, 1) := by decide +kernel
theorem dX8_restore_46 : decode cX8_restore 46 = .ok (.ireturn, 1) := by decide +kernel
set_option maxRecDepth 20000 in
theorem ggX8_kind_X8_isGuard : GoodIn wsX8_kind wsX8_isGuard := goodIn_r _ [6, 7, 8, 9, 5, 10, 15, 16, 17, 18, 19, 20, 21, 22, 23, 24, 25, 26, 27, 28, 29, 30, 31, 32, 33, 34, 35, 36, 37] (by decide +kernel) (by decide +kernel)
set_option maxRecDepth 20000 in
theorem gX8_kind_X8_isGuard : GoodIn wsX8_kind (wsV RX8 199 RX8 yX8_isGuard wsX8_isGuard) := goodIn_app (goodIn_of _ (by decide +kernel)) ggX8_kind_X8_isGuard
set_option maxRecDepth 20000 in
theorem ggX8_kind_X8_kindIn : GoodIn wsX8_kind wsX8_kindIn := goodIn_r _ [14, 7, 15, 16, 17, 18, 19, 20, 21, 22, 23, 24, 25, 26, 27, 28, 29, 30, 31, 32, 33, 34, 35, 36, 37] (by decide +kernel) (by decide +kernel)
set_option maxRecDepth 20000 in
theorem gX8_kind_X8_kindIn : GoodIn wsX8_kind (wsV RX8 165 RX8 yX8_kindIn wsX8_kindIn) := goodIn_app (goodIn_of _ (by decide +kernel)) ggX8_kind_X8_kindIn
theorem dX8_kind_0 : decode cX8_kind 0 = .ok (.aload_n 0, 1) := by decide +kernel
theorem dX8_kind_1 : decode cX8_kind 1 = .ok (.iload_n 1, 1) := by decide +kernel
theorem dX8_kind_2 : decode cX8_kind 2 = .ok (.invokevirtual 199, 3) := by decide +kernel
theorem dX8_kind_5 : decode cX8_kind 5 = .ok (.ifCond .eq 11, 3) := by decide +kernel
theorem dX8_kind_8 : decode cX8_kind 8 = .ok (.aload_n 0, 1) := by decide +kernel
theorem dX8_kind_9 : decode cX8_kind 9 = .ok (.iload_n 1, 1) := by decide +kernel
theorem dX8_kind_10 : decode cX8_kind 10 = .ok (.invokevirtual 165, 3) := by decide +kernel
theorem dX8_kind_13 : decode cX8_kind 13 = .ok (.goto 5, 3) := by decide +kernel
theorem dX8_kind_16 : decode cX8_kind 16 = .ok (.ldc 64, 2) := by decide +kernel
theorem dX8_kind_18 : decode cX8_kind 18 = .ok (.ireturn, 1) := by decide +kernel
set_option maxRecDepth 20000 in
theorem ggX8_as_X8_isGuard : GoodIn wsX8_as wsX8_isGuard := goodIn_r _ [6, 7, 8, 9, 5, 10, 25, 26, 27, 28, 29, 30, 31, 32, 33, 34, 35, 36, 37, 38, 39, 40, 41, 42, 43, 44, 45, 46, 47] (by decide +kernel) (by decide +kernel)
set_option maxRecDepth 20000 in
theorem gX8_as_X8_isGuard : GoodIn wsX8_as (wsV RX8 199 RX8 yX8_isGuard wsX8_isGuard) := goodIn_app (goodIn_of _ (by decide +kernel)) ggX8_as_X8_isGuard
set_option maxRecDepth 20000 in
theorem ggX8_as_X8_in : GoodIn wsX8_as wsX8_in := goodIn_r _ [10] (by decide +kernel) (by decide +kernel)
set_option maxRecDepth 20000 in
theorem gX8_as_X8_in : GoodIn wsX8_as (va_wsS RX8 56 yX8_in wsX8_in) := goodIn_app (goodIn_of _ (by decide +kernel)) ggX8_as_X8_in
set_option maxRecDepth 20000 in
theorem ggX8_as_X8_kindIn : GoodIn wsX8_as wsX8_kindIn := goodIn_r _ [14, 7, 25, 26, 27, 28, 29, 30, 31, 32, 33, 34, 35, 36, 37, 38, 39, 40, 41, 42, 43, 44, 45, 46, 47] (by decide +kernel) (by decide +kernel)
set_option maxRecDepth 20000 in
theorem gX8_as_X8_kindIn : GoodIn wsX8_as (wsV RX8 165 RX8 yX8_kindIn wsX8_kindIn) := goodIn_app (goodIn_of _ (by decide +kernel)) ggX8_as_X8_kindIn
set_option maxRecDepth 20000 in
theorem ggX8_as_X8_well : GoodIn wsX8_as wsX8_well := goodIn_r _ [18, 19, 25, 26, 27, 28, 29, 30, 31, 32, 33, 34, 35, 36, 37, 38, 39, 40, 41, 42, 43, 44, 45, 46, 47] (by decide +kernel) (by decide +kernel)
set_option maxRecDepth 20000 in
theorem gX8_as_X8_well : GoodIn wsX8_as (wsV RX8 69 RX8 yX8_well wsX8_well) := goodIn_app (goodIn_of _ (by decide +kernel)) ggX8_as_X8_well
set_option maxRecDepth 20000 in
theorem ggX8_as_X8_found : GoodIn wsX8_as wsX8_found := goodIn_r _ [23, 19, 24, 25, 26, 27, 28, 29, 30, 31, 32, 33, 34, 35, 36, 37, 38, 39, 40, 41, 42, 43, 44, 45, 46, 47] (by decide +kernel) (by decide +kernel)
set_option maxRecDepth 20000 in
theorem gX8_as_X8_found : GoodIn wsX8_as (wsV RX8 65 RX8 yX8_found wsX8_found) := goodIn_app (goodIn_of _ (by decide +kernel)) ggX8_as_X8_found
theorem dX8_as_0 : decode cX8_as 0 = .ok (.aload_n 0, 1) := by decide +kernel
theorem dX8_as_1 : decode cX8_as 1 = .ok (.iload_n 1, 1) := by decide +kernel
theorem dX8_as_2 : decode cX8_as 2 = .ok (.invokevirtual 199, 3) := by decide +kernel
theorem dX8_as_5 : decode cX8_as 5 = .ok (.ifCond .eq 12, 3) := by decide +kernel
theorem dX8_as_8 : decode cX8_as 8 = .ok (.iload_n 2, 1) := by decide +kernel
theorem dX8_as_9 : decode cX8_as 9 = .ok (.iconst 0, 1) := by decide +kernel
theorem dX8_as_10 : decode cX8_as 10 = .ok (.iconst 5, 1) := by decide +kernel
theorem dX8_as_11 : decode cX8_as 11 = .ok (.invokestatic 56, 3) := by decide +kernel
theorem dX8_as_14 : decode cX8_as 14 = .ok (.ifCond .ne 6, 3) := by decide +kernel
theorem dX8_as_17 : decode cX8_as 17 = .ok (.ldc 64, 2) := by decide +kernel
theorem dX8_as_19 : decode cX8_as 19 = .ok (.ireturn, 1) := by decide +kernel
theorem dX8_as_20 : decode cX8_as 20 = .ok (.aload_n 0, 1) := by decide +kernel
theorem dX8_as_21 : decode cX8_as 21 = .ok (.iload_n 1, 1) := by decide +kernel
theorem dX8_as_22 : decode cX8_as 22 = .ok (.invokevirtual 165, 3) := by decide +kernel
theorem dX8_as_25 : decode cX8_as 25 = .ok (.istore_n 3, 1) := by decide +kernel
theorem dX8_as_26 : decode cX8_as 26 = .ok (.iload_n 2, 1) := by decide +kernel
theorem dX8_as_27 : decode cX8_as 27 = .ok (.ifCond .eq 28, 3) := by decide +kernel
theorem dX8_as_30 : decode cX8_as 30 = .ok (.iload_n 2, 1) := by decide +kernel
theorem dX8_as_31 : decode cX8_as 31 = .ok (.iload_n 3, 1) := by decide +kernel
theorem dX8_as_32 : decode cX8_as 32 = .ok (.if_icmp .eq 23, 3) := by decide +kernel
theorem dX8_as_35 : decode cX8_as 35 = .ok (.iload_n 2, 1) := by decide +kernel
theorem dX8_as_36 : decode cX8_as 36 = .ok (.iconst 1, 1) := by decide +kernel
theorem dX8_as_37 : decode cX8_as 37 = .ok (.if_icmp .ne 8, 3) := by decide +kernel
theorem dX8_as_40 : decode cX8_as 40 = .ok (.iload_n 3, 1) := by decide +kernel
theorem dX8_as_41 : decode cX8_as 41 = .ok (.iconst 4, 1) := by decide +kernel
theorem dX8_as_42 : decode cX8_as 42 = .ok (.if_icmp .lt 13, 3) := by decide +kernel
theorem dX8_as_45 : decode cX8_as 45 = .ok (.iload_n 2, 1) := by decide +kernel
theorem dX8_as_46 : decode cX8_as 46 = .ok (.iconst 4, 1) := by decide +kernel
theorem dX8_as_47 : decode cX8_as 47 = .ok (.if_icmp .ne 12, 3) := by decide +kernel
theorem dX8_as_50 : decode cX8_as 50 = .ok (.iload_n 3, 1) := by decide +kernel
theorem dX8_as_51 : decode cX8_as 51 = .ok (.iconst 5, 1) := by decide +kernel
theorem dX8_as_52 : decode cX8_as 52 = .ok (.if_icmp .ne 7, 3) := by decide +kernel
theorem dX8_as_55 : decode cX8_as 55 = .ok (.iconst 1, 1) := by decide +kernel
theorem dX8_as_56 : decode cX8_as 56 = .ok (.goto 4, 3) := by decide +kernel
theorem dX8_as_59 : decode cX8_as 59 = .ok (.iconst 0, 1) := by decide +kernel
theorem dX8_as_60 : decode cX8_as 60 = .ok (.istore 4, 2) := by decide +kernel
theorem dX8_as_62 : decode cX8_as 62 = .ok (.iload 4, 2) := by decide +kernel
theorem dX8_as_64 : decode cX8_as 64 = .ok (.ifCond .eq 11, 3) := by decide +kernel
theorem dX8_as_67 : decode cX8_as 67 = .ok (.aload_n 0, 1) := by decide +kernel
theorem dX8_as_68 : decode cX8_as 68 = .ok (.iload_n 1, 1) := by decide +kernel
theorem dX8_as_69 : decode cX8_as 69 = .ok (.invokevirtual 69, 3) := by decide +kernel
theorem dX8_as_72 : decode cX8_as 72 = .ok (.goto 8, 3) := by decide +kernel
theorem dX8_as_75 : decode cX8_as 75 = .ok (.aload_n 0, 1) := by decide +kernel
theorem dX8_as_76 : decode cX8_as 76 = .ok (.iconst 3, 1) := by decide +kernel
theorem dX8_as_77 : decode cX8_as 77 = .ok (.invokevirtual 65, 3) := by decide +kernel
theorem dX8_as_80 : decode cX8_as 80 = .ok (.ireturn, 1) := by decide +kernel
theorem dX8_begins_0 : decode cX8_begins 0 = .ok (.aload_n 0, 1) := by decide +kernel
theorem dX8_begins_1 : decode cX8_begins 1 = .ok (.getfield 237, 3) := by decide +kernel
theorem dX8_begins_4 : decode cX8_begins 4 = .ok (.bipush 16, 2) := by decide +kernel
theorem dX8_begins_6 : decode cX8_begins 6 = .ok (.if_icmp .ge 23, 3) := by decide +kernel
theorem dX8_begins_9 : decode cX8_begins 9 = .ok (.aload_n 0, 1) := by decide +kernel
theorem dX8_begins_10 : decode cX8_begins 10 = .ok (.getfield 47, 3) := by decide +kernel
theorem dX8_begins_13 : decode cX8_begins 13 = .ok (.aload_n 0, 1) := by decide +kernel
theorem dX8_begins_14 : decode cX8_begins 14 = .ok (.getfield 237, 3) := by decide +kernel
theorem dX8_begins_17 : decode cX8_begins 17 = .ok (.iload_n 1, 1) := by decide +kernel
theorem dX8_begins_18 : decode cX8_begins 18 = .ok (.iastore, 1) := by decide +kernel
theorem dX8_begins_19 : decode cX8_begins 19 = .ok (.aload_n 0, 1) := by decide +kernel
theorem dX8_begins_20 : decode cX8_begins 20 = .ok (.dup, 1) := by decide +kernel
theorem dX8_begins_21 : decode cX8_begins 21 = .ok (.getfield 237, 3) := by decide +kernel
theorem dX8_begins_24 : decode cX8_begins 24 = .ok (.iconst 1, 1) := by decide +kernel
theorem dX8_begins_25 : decode cX8_begins 25 = .ok (.iadd, 1) := by decide +kernel
theorem dX8_begins_26 : decode cX8_begins 26 = .ok (.putfield 237, 3) := by decide +kernel
theorem dX8_begins_29 : decode cX8_begins 29 = .ok (.return_, 1) := by decide +kernel
set_option maxRecDepth 20000 in
theorem ggX8_keenMark_X8_kindIn : GoodIn wsX8_keenMark wsX8_kindIn := goodIn_r _ [6, 1, 13, 14, 15, 16, 17, 18, 19, 20, 21, 22, 23, 24, 25, 26, 27, 28, 29, 30, 31, 32, 33, 34, 35] (by decide +kernel) (by decide +kernel)
set_option maxRecDepth 20000 in
theorem gX8_keenMark_X8_kindIn : GoodIn wsX8_keenMark (wsV RX8 165 RX8 yX8_kindIn wsX8_kindIn) := goodIn_app (goodIn_of _ (by decide +kernel)) ggX8_keenMark_X8_kindIn
set_option maxRecDepth 20000 in
theorem ggX8_keenMark_X8_begins : GoodIn wsX8_keenMark wsX8_begins := goodIn_r _ [10, 11, 12, 13, 14, 15, 16, 17, 18, 19, 20, 21, 22, 23, 24, 25, 26, 27, 28, 29, 30, 31, 32, 33, 34, 35] (by decide +kernel) (by decide +kernel)
set_option maxRecDepth 20000 in
theorem gX8_keenMark_X8_begins : GoodIn wsX8_keenMark (wsV RX8 240 RX8 yX8_begins wsX8_begins) := goodIn_app (goodIn_of _ (by decide +kernel)) ggX8_keenMark_X8_begins
theorem dX8_keenMark_0 : decode cX8_keenMark 0 = .ok (.aload_n 0, 1) := by decide +kernel
theorem dX8_keenMark_1 : decode cX8_keenMark 1 = .ok (.iload_n 1, 1) := by decide +kernel
theorem dX8_keenMark_2 : decode cX8_keenMark 2 = .ok (.invokevirtual 165, 3) := by decide +kernel
theorem dX8_keenMark_5 : decode cX8_keenMark 5 = .ok (.istore_n 2, 1) := by decide +kernel
theorem dX8_keenMark_6 : decode cX8_keenMark 6 = .ok (.iload_n 2, 1) := by decide +kernel
theorem dX8_keenMark_7 : decode cX8_keenMark 7 = .ok (.iconst 1, 1) := by decide +kernel
theorem dX8_keenMark_8 : decode cX8_keenMark 8 = .ok (.if_icmp .eq 19, 3) := by decide +kernel
theorem dX8_keenMark_11 : decode cX8_keenMark 11 = .ok (.aload_n 0, 1) := by decide +kernel
theorem dX8_keenMark_12 : decode cX8_keenMark 12 = .ok (.iload_n 2, 1) := by decide +kernel
theorem dX8_keenMark_13 : decode cX8_keenMark 13 = .ok (.iconst 2, 1) := by decide +kernel
theorem dX8_keenMark_14 : decode cX8_keenMark 14 = .ok (.if_icmp .ne 8, 3) := by decide +kernel
theorem dX8_keenMark_17 : decode cX8_keenMark 17 = .ok (.bipush 24, 2) := by decide +kernel
theorem dX8_keenMark_19 : decode cX8_keenMark 19 = .ok (.goto 5, 3) := by decide +kernel
theorem dX8_keenMark_22 : decode cX8_keenMark 22 = .ok (.bipush 22, 2) := by decide +kernel
theorem dX8_keenMark_24 : decode cX8_keenMark 24 = .ok (.invokevirtual 240, 3) := by decide +kernel
theorem dX8_keenMark_27 : decode cX8_keenMark 27 = .ok (.aload_n 0, 1) := by decide +kernel
theorem dX8_keenMark_28 : decode cX8_keenMark 28 = .ok (.bipush 21, 2) := by decide +kernel
theorem dX8_keenMark_30 : decode cX8_keenMark 30 = .ok (.invokevirtual 240, 3) := by decide +kernel
theorem dX8_keenMark_33 : decode cX8_keenMark 33 = .ok (.aload_n 0, 1) := by decide +kernel
theorem dX8_keenMark_34 : decode cX8_keenMark 34 = .ok (.bipush 20, 2) := by decide +kernel
theorem dX8_keenMark_36 : decode cX8_keenMark 36 = .ok (.invokevirtual 240, 3) := by decide +kernel
theorem dX8_keenMark_39 : decode cX8_keenMark 39 = .ok (.iload_n 1, 1) := by decide +kernel
theorem dX8_keenMark_40 : decode cX8_keenMark 40 = .ok (.aload_n 0, 1) := by decide +kernel
theorem dX8_keenMark_41 : decode cX8_keenMark 41 = .ok (.getfield 25, 3) := by decide +kernel
theorem dX8_keenMark_44 : decode cX8_keenMark 44 = .ok (.bipush 26, 2) := by decide +kernel
theorem dX8_keenMark_46 : decode cX8_keenMark 46 = .ok (.iconst 3, 1) := by decide +kernel
theorem dX8_keenMark_47 : decode cX8_keenMark 47 = .ok (.iload_n 1, 1) := by decide +kernel
theorem dX8_keenMark_48 : decode cX8_keenMark 48 = .ok (.imul, 1) := by decide +kernel
theorem dX8_keenMark_49 : decode cX8_keenMark 49 = .ok (.iadd, 1) := by decide +kernel
theorem dX8_keenMark_50 : decode cX8_keenMark 50 = .ok (.iconst 2, 1) := by decide +kernel
theorem dX8_keenMark_51 : decode cX8_keenMark 51 = .ok (.iadd, 1) := by decide +kernel
theorem dX8_keenMark_52 : decode cX8_keenMark 52 = .ok (.iaload, 1) := by decide +kernel
theorem dX8_keenMark_53 : decode cX8_keenMark 53 = .ok (.iadd, 1) := by decide +kernel
theorem dX8_keenMark_54 : decode cX8_keenMark 54 = .ok (.istore_n 3, 1) := by decide +kernel
theorem dX8_keenMark_55 : decode cX8_keenMark 55 = .ok (.iload_n 2, 1) := by decide +kernel
theorem dX8_keenMark_56 : decode cX8_keenMark 56 = .ok (.iconst 2, 1) := by decide +kernel
theorem dX8_keenMark_57 : decode cX8_keenMark 57 = .ok (.if_icmp .ne 9, 3) := by decide +kernel
theorem dX8_keenMark_60 : decode cX8_keenMark 60 = .ok (.iconst 2, 1) := by decide +kernel
theorem dX8_keenMark_61 : decode cX8_keenMark 61 = .ok (.iload_n 3, 1) := by decide +kernel
theorem dX8_keenMark_62 : decode cX8_keenMark 62 = .ok (.imul, 1) := by decide +kernel
theorem dX8_keenMark_63 : decode cX8_keenMark 63 = .ok (.goto 17, 3) := by decide +kernel
theorem dX8_keenMark_66 : decode cX8_keenMark 66 = .ok (.iload_n 2, 1) := by decide +kernel
theorem dX8_keenMark_67 : decode cX8_keenMark 67 = .ok (.iconst 3, 1) := by decide +kernel
theorem dX8_keenMark_68 : decode cX8_keenMark 68 = .ok (.if_icmp .ne 11, 3) := by decide +kernel
theorem dX8_keenMark_71 : decode cX8_keenMark 71 = .ok (.iload_n 3, 1) := by decide +kernel
theorem dX8_keenMark_72 : decode cX8_keenMark 72 = .ok (.sipush 1000, 3) := by decide +kernel
theorem dX8_keenMark_75 : decode cX8_keenMark 75 = .ok (.isub, 1) := by decide +kernel
theorem dX8_keenMark_76 : decode cX8_keenMark 76 = .ok (.goto 4, 3) := by decide +kernel
theorem dX8_keenMark_79 : decode cX8_keenMark 79 = .ok (.iload_n 3, 1) := by decide +kernel
theorem dX8_keenMark_80 : decode cX8_keenMark 80 = .ok (.ireturn, 1) := by decide +kernel
set_option maxRecDepth 20000 in
theorem ggX8_deafSize_X8_kindIn : GoodIn wsX8_deafSize wsX8_kindIn := goodIn_r _ [6, 1, 13, 14, 15, 16, 17, 18, 19, 20, 21, 22, 23, 24, 25, 26, 27, 28, 29, 30, 31, 32, 33, 34, 35] (by decide +kernel) (by decide +kernel)
set_option maxRecDepth 20000 in
theorem gX8_deafSize_X8_kindIn : GoodIn wsX8_deafSize (wsV RX8 165 RX8 yX8_kindIn wsX8_kindIn) := goodIn_app (goodIn_of _ (by decide +kernel)) ggX8_deafSize_X8_kindIn
set_option maxRecDepth 20000 in
theorem ggX8_deafSize_X8_begins : GoodIn wsX8_deafSize wsX8_begins := goodIn_r _ [10, 11, 12, 13, 14, 15, 16, 17, 18, 19, 20, 21, 22, 23, 24, 25, 26, 27, 28, 29, 30, 31, 32, 33, 34, 35] (by decide +kernel) (by decide +kernel)
set_option maxRecDepth 20000 in
theorem gX8_deafSize_X8_begins : GoodIn wsX8_deafSize (wsV RX8 240 RX8 yX8_begins wsX8_begins) := goodIn_app (goodIn_of _ (by decide +kernel)) ggX8_deafSize_X8_begins
theorem dX8_deafSize_0 : decode cX8_deafSize 0 = .ok (.aload_n 0, 1) := by decide +kernel
theorem dX8_deafSize_1 : decode cX8_deafSize 1 = .ok (.iload_n 1, 1) := by decide +kernel
theorem dX8_deafSize_2 : decode cX8_deafSize 2 = .ok (.invokevirtual 165, 3) := by decide +kernel
theorem dX8_deafSize_5 : decode cX8_deafSize 5 = .ok (.iconst 5, 1) := by decide +kernel
theorem dX8_deafSize_6 : decode cX8_deafSize 6 = .ok (.if_icmp .ne 7, 3) := by decide +kernel
theorem dX8_deafSize_9 : decode cX8_deafSize 9 = .ok (.iconst 1, 1) := by decide +kernel
theorem dX8_deafSize_10 : decode cX8_deafSize 10 = .ok (.goto 4, 3) := by decide +kernel
theorem dX8_deafSize_13 : decode cX8_deafSize 13 = .ok (.iconst 0, 1) := by decide +kernel
theorem dX8_deafSize_14 : decode cX8_deafSize 14 = .ok (.istore_n 2, 1) := by decide +kernel
theorem dX8_deafSize_15 : decode cX8_deafSize 15 = .ok (.iload_n 2, 1) := by decide +kernel
theorem dX8_deafSize_16 : decode cX8_deafSize 16 = .ok (.ifCond .eq 9, 3) := by decide +kernel
theorem dX8_deafSize_19 : decode cX8_deafSize 19 = .ok (.aload_n 0, 1) := by decide +kernel
theorem dX8_deafSize_20 : decode cX8_deafSize 20 = .ok (.bipush 14, 2) := by decide +kernel
theorem dX8_deafSize_22 : decode cX8_deafSize 22 = .ok (.invokevirtual 240, 3) := by decide +kernel
theorem dX8_deafSize_25 : decode cX8_deafSize 25 = .ok (.aload_n 0, 1) := by decide +kernel
theorem dX8_deafSize_26 : decode cX8_deafSize 26 = .ok (.bipush 13, 2) := by decide +kernel
theorem dX8_deafSize_28 : decode cX8_deafSize 28 = .ok (.invokevirtual 240, 3) := by decide +kernel
theorem dX8_deafSize_31 : decode cX8_deafSize 31 = .ok (.aload_n 0, 1) := by decide +kernel
theorem dX8_deafSize_32 : decode cX8_deafSize 32 = .ok (.bipush 10, 2) := by decide +kernel
theorem dX8_deafSize_34 : decode cX8_deafSize 34 = .ok (.invokevirtual 240, 3) := by decide +kernel
theorem dX8_deafSize_37 : decode cX8_deafSize 37 = .ok (.aload_n 0, 1) := by decide +kernel
theorem dX8_deafSize_38 : decode cX8_deafSize 38 = .ok (.getfield 25, 3) := by decide +kernel
theorem dX8_deafSize_41 : decode cX8_deafSize 41 = .ok (.bipush 26, 2) := by decide +kernel
theorem dX8_deafSize_43 : decode cX8_deafSize 43 = .ok (.iconst 3, 1) := by decide +kernel
theorem dX8_deafSize_44 : decode cX8_deafSize 44 = .ok (.iload_n 1, 1) := by decide +kernel
theorem dX8_deafSize_45 : decode cX8_deafSize 45 = .ok (.imul, 1) := by decide +kernel
theorem dX8_deafSize_46 : decode cX8_deafSize 46 = .ok (.iadd, 1) := by decide +kernel
theorem dX8_deafSize_47 : decode cX8_deafSize 47 = .ok (.iconst 1, 1) := by decide +kernel
theorem dX8_deafSize_48 : decode cX8_deafSize 48 = .ok (.iadd, 1) := by decide +kernel
theorem dX8_deafSize_49 : decode cX8_deafSize 49 = .ok (.iaload, 1) := by decide +kernel
theorem dX8_deafSize_50 : decode cX8_deafSize 50 = .ok (.bipush 100, 2) := by decide +kernel
theorem dX8_deafSize_52 : decode cX8_deafSize 52 = .ok (.isub, 1) := by decide +kernel
theorem dX8_deafSize_53 : decode cX8_deafSize 53 = .ok (.istore_n 3, 1) := by decide +kernel
theorem dX8_deafSize_54 : decode cX8_deafSize 54 = .ok (.iload_n 2, 1) := by decide +kernel
theorem dX8_deafSize_55 : decode cX8_deafSize 55 = .ok (.ifCond .eq 9, 3) := by decide +kernel
theorem dX8_deafSize_58 : decode cX8_deafSize 58 = .ok (.iconst 2, 1) := by decide +kernel
theorem dX8_deafSize_59 : decode cX8_deafSize 59 = .ok (.iload_n 3, 1) := by decide +kernel
theorem dX8_deafSize_60 : decode cX8_deafSize 60 = .ok (.imul, 1) := by decide +kernel
theorem dX8_deafSize_61 : decode cX8_deafSize 61 = .ok (.goto 4, 3) := by decide +kernel
theorem dX8_deafSize_64 : decode cX8_deafSize 64 = .ok (.iload_n 3, 1) := by decide +kernel
theorem dX8_deafSize_65 : decode cX8_deafSize 65 = .ok (.ireturn, 1) := by decide +kernel
set_option maxRecDepth 20000 in
theorem ggX8_keenSize_X8_kindIn : GoodIn wsX8_keenSize wsX8_kindIn := goodIn_r _ [6, 1, 17, 18, 19, 20, 21, 22, 23, 24, 25, 26, 27, 28, 29, 30, 31, 32, 33, 34, 35, 36, 37, 38, 39] (by decide +kernel) (by decide +kernel)
set_option maxRecDepth 20000 in
theorem gX8_keenSize_X8_kindIn : GoodIn wsX8_keenSize (wsV RX8 165 RX8 yX8_kindIn wsX8_kindIn) := goodIn_app (goodIn_of _ (by decide +kernel)) ggX8_keenSize_X8_kindIn
set_option maxRecDepth 20000 in
theorem ggX8_keenSize_X8_begins : GoodIn wsX8_keenSize wsX8_begins := goodIn_r _ [10, 11, 12, 17, 18, 19, 20, 21, 22, 23, 24, 25, 26, 27, 28, 29, 30, 31, 32, 33, 34, 35, 36, 37, 38, 39] (by decide +kernel) (by decide +kernel)
set_option maxRecDepth 20000 in
theorem gX8_keenSize_X8_begins : GoodIn wsX8_keenSize (wsV RX8 240 RX8 yX8_begins wsX8_begins) := goodIn_app (goodIn_of _ (by decide +kernel)) ggX8_keenSize_X8_begins
set_option maxRecDepth 20000 in
theorem ggX8_keenSize_X8_keenMark : GoodIn wsX8_keenSize wsX8_keenMark := goodIn_r _ [16, 1, 2, 3, 4, 5, 6, 7, 8, 9, 10, 11, 12, 17, 18, 19, 20, 21, 22, 23, 24, 25, 26, 27, 28, 29, 30, 31, 32, 33, 34, 35, 36, 37, 38, 39] (by decide +kernel) (by decide +kernel)
set_option maxRecDepth 20000 in
theorem gX8_keenSize_X8_keenMark : GoodIn wsX8_keenSize (wsV RX8 244 RX8 yX8_keenMark wsX8_keenMark) := goodIn_app (goodIn_of _ (by decide +kernel)) ggX8_keenSize_X8_keenMark
theorem dX8_keenSize_0 : decode cX8_keenSize 0 = .ok (.aload_n 0, 1) := by decide +kernel
theorem dX8_keenSize_1 : decode cX8_keenSize 1 = .ok (.iload_n 1, 1) := by decide +kernel
theorem dX8_keenSize_2 : decode cX8_keenSize 2 = .ok (.invokevirtual 165, 3) := by decide +kernel
theorem dX8_keenSize_5 : decode cX8_keenSize 5 = .ok (.iconst 2, 1) := by decide +kernel
theorem dX8_keenSize_6 : decode cX8_keenSize 6 = .ok (.if_icmp .ne 7, 3) := by decide +kernel
theorem dX8_keenSize_9 : decode cX8_keenSize 9 = .ok (.iconst 1, 1) := by decide +kernel
theorem dX8_keenSize_10 : decode cX8_keenSize 10 = .ok (.goto 4, 3) := by decide +kernel
theorem dX8_keenSize_13 : decode cX8_keenSize 13 = .ok (.iconst 0, 1) := by decide +kernel
theorem dX8_keenSize_14 : decode cX8_keenSize 14 = .ok (.istore_n 2, 1) := by decide +kernel
theorem dX8_keenSize_15 : decode cX8_keenSize 15 = .ok (.iload_n 2, 1) := by decide +kernel
theorem dX8_keenSize_16 : decode cX8_keenSize 16 = .ok (.ifCond .eq 9, 3) := by decide +kernel
theorem dX8_keenSize_19 : decode cX8_keenSize 19 = .ok (.aload_n 0, 1) := by decide +kernel
theorem dX8_keenSize_20 : decode cX8_keenSize 20 = .ok (.bipush 12, 2) := by decide +kernel
theorem dX8_keenSize_22 : decode cX8_keenSize 22 = .ok (.invokevirtual 240, 3) := by decide +kernel
theorem dX8_keenSize_25 : decode cX8_keenSize 25 = .ok (.aload_n 0, 1) := by decide +kernel
theorem dX8_keenSize_26 : decode cX8_keenSize 26 = .ok (.bipush 11, 2) := by decide +kernel
theorem dX8_keenSize_28 : decode cX8_keenSize 28 = .ok (.invokevirtual 240, 3) := by decide +kernel
theorem dX8_keenSize_31 : decode cX8_keenSize 31 = .ok (.aload_n 0, 1) := by decide +kernel
theorem dX8_keenSize_32 : decode cX8_keenSize 32 = .ok (.bipush 10, 2) := by decide +kernel
theorem dX8_keenSize_34 : decode cX8_keenSize 34 = .ok (.invokevirtual 240, 3) := by decide +kernel
theorem dX8_keenSize_37 : decode cX8_keenSize 37 = .ok (.aload_n 0, 1) := by decide +kernel
theorem dX8_keenSize_38 : decode cX8_keenSize 38 = .ok (.getfield 25, 3) := by decide +kernel
theorem dX8_keenSize_41 : decode cX8_keenSize 41 = .ok (.bipush 26, 2) := by decide +kernel
theorem dX8_keenSize_43 : decode cX8_keenSize 43 = .ok (.iconst 3, 1) := by decide +kernel
theorem dX8_keenSize_44 : decode cX8_keenSize 44 = .ok (.iload_n 1, 1) := by decide +kernel
theorem dX8_keenSize_45 : decode cX8_keenSize 45 = .ok (.imul, 1) := by decide +kernel
theorem dX8_keenSize_46 : decode cX8_keenSize 46 = .ok (.iadd, 1) := by decide +kernel
theorem dX8_keenSize_47 : decode cX8_keenSize 47 = .ok (.iconst 1, 1) := by decide +kernel
theorem dX8_keenSize_48 : decode cX8_keenSize 48 = .ok (.iadd, 1) := by decide +kernel
theorem dX8_keenSize_49 : decode cX8_keenSize 49 = .ok (.iaload, 1) := by decide +kernel
theorem dX8_keenSize_50 : decode cX8_keenSize 50 = .ok (.aload_n 0, 1) := by decide +kernel
theorem dX8_keenSize_51 : decode cX8_keenSize 51 = .ok (.iload_n 1, 1) := by decide +kernel
theorem dX8_keenSize_52 : decode cX8_keenSize 52 = .ok (.invokevirtual 244, 3) := by decide +kernel
theorem dX8_keenSize_55 : decode cX8_keenSize 55 = .ok (.iadd, 1) := by decide +kernel
theorem dX8_keenSize_56 : decode cX8_keenSize 56 = .ok (.istore_n 3, 1) := by decide +kernel
theorem dX8_keenSize_57 : decode cX8_keenSize 57 = .ok (.iload_n 2, 1) := by decide +kernel
theorem dX8_keenSize_58 : decode cX8_keenSize 58 = .ok (.ifCond .eq 8, 3) := by decide +kernel
theorem dX8_keenSize_61 : decode cX8_keenSize 61 = .ok (.iload_n 3, 1) := by decide +kernel
theorem dX8_keenSize_62 : decode cX8_keenSize 62 = .ok (.ineg, 1) := by decide +kernel
theorem dX8_keenSize_63 : decode cX8_keenSize 63 = .ok (.goto 4, 3) := by decide +kernel
theorem dX8_keenSize_66 : decode cX8_keenSize 66 = .ok (.iload_n 3, 1) := by decide +kernel
theorem dX8_keenSize_67 : decode cX8_keenSize 67 = .ok (.ireturn, 1) := by decide +kernel
set_option maxRecDepth 20000 in
theorem ggX8_deafMark_X8_begins : GoodIn wsX8_deafMark wsX8_begins := goodIn_r _ [5, 6, 7, 17, 18, 19, 20, 21, 22, 23, 24, 25, 26, 27, 28, 29, 30, 31, 32, 33, 34, 35, 36, 37, 38, 39] (by decide +kernel) (by decide +kernel)
set_option maxRecDepth 20000 in
theorem gX8_deafMark_X8_begins : GoodIn wsX8_deafMark (wsV RX8 240 RX8 yX8_begins wsX8_begins) := goodIn_app (goodIn_of _ (by decide +kernel)) ggX8_deafMark_X8_begins
set_option maxRecDepth 20000 in
theorem ggX8_deafMark_X8_deafSize : GoodIn wsX8_deafMark wsX8_deafSize := goodIn_r _ [11, 12, 13, 14, 15, 4, 16, 1, 2, 3, 5, 6, 7, 17, 18, 19, 20, 21, 22, 23, 24, 25, 26, 27, 28, 29, 30, 31, 32, 33, 34, 35, 36, 37, 38, 39] (by decide +kernel) (by decide +kernel)
set_option maxRecDepth 20000 in
theorem gX8_deafMark_X8_deafSize : GoodIn wsX8_deafMark (wsV RX8 247 RX8 yX8_deafSize wsX8_deafSize) := goodIn_app (goodIn_of _ (by decide +kernel)) ggX8_deafMark_X8_deafSize
theorem dX8_deafMark_0 : decode cX8_deafMark 0 = .ok (.aload_n 0, 1) := by decide +kernel
theorem dX8_deafMark_1 : decode cX8_deafMark 1 = .ok (.bipush 23, 2) := by decide +kernel
theorem dX8_deafMark_3 : decode cX8_deafMark 3 = .ok (.invokevirtual 240, 3) := by decide +kernel
theorem dX8_deafMark_6 : decode cX8_deafMark 6 = .ok (.aload_n 0, 1) := by decide +kernel
theorem dX8_deafMark_7 : decode cX8_deafMark 7 = .ok (.bipush 20, 2) := by decide +kernel
theorem dX8_deafMark_9 : decode cX8_deafMark 9 = .ok (.invokevirtual 240, 3) := by decide +kernel
theorem dX8_deafMark_12 : decode cX8_deafMark 12 = .ok (.iload_n 1, 1) := by decide +kernel
theorem dX8_deafMark_13 : decode cX8_deafMark 13 = .ok (.aload_n 0, 1) := by decide +kernel
theorem dX8_deafMark_14 : decode cX8_deafMark 14 = .ok (.iload_n 1, 1) := by decide +kernel
theorem dX8_deafMark_15 : decode cX8_deafMark 15 = .ok (.invokevirtual 247, 3) := by decide +kernel
theorem dX8_deafMark_18 : decode cX8_deafMark 18 = .ok (.isub, 1) := by decide +kernel
theorem dX8_deafMark_19 : decode cX8_deafMark 19 = .ok (.ireturn, 1) := by decide +kernel
set_option maxRecDepth 20000 in
theorem ggX8_ask_X8_isGuard : GoodIn wsX8_ask wsX8_isGuard := goodIn_r _ [7, 8, 9, 10, 6, 11, 37, 38, 39, 40, 41, 42, 43, 44, 45, 46, 47, 48, 49, 50, 51, 52, 53, 54, 55, 56, 57, 58, 59] (by decide +kernel) (by decide +kernel)
set_option maxRecDepth 20000 in
theorem gX8_ask_X8_isGuard : GoodIn wsX8_ask (wsV RX8 199 RX8 yX8_isGuard wsX8_isGuard) := goodIn_app (goodIn_of _ (by decide +kernel)) ggX8_ask_X8_isGuard
set_option maxRecDepth 20000 in
theorem ggX8_ask_X8_in : GoodIn wsX8_ask wsX8_in := goodIn_r _ [11] (by decide +kernel) (by decide +kernel)
set_option maxRecDepth 20000 in
theorem gX8_ask_X8_in : GoodIn wsX8_ask (va_wsS RX8 56 yX8_in wsX8_in) := goodIn_app (goodIn_of _ (by decide +kernel)) ggX8_ask_X8_in
set_option maxRecDepth 20000 in
theorem ggX8_ask_X8_kindIn : GoodIn wsX8_ask wsX8_kindIn := goodIn_r _ [15, 8, 37, 38, 39, 40, 41, 42, 43, 44, 45, 46, 47, 48, 49, 50, 51, 52, 53, 54, 55, 56, 57, 58, 59] (by decide +kernel) (by decide +kernel)
set_option maxRecDepth 20000 in
theorem gX8_ask_X8_kindIn : GoodIn wsX8_ask (wsV RX8 165 RX8 yX8_kindIn wsX8_kindIn) := goodIn_app (goodIn_of _ (by decide +kernel)) ggX8_ask_X8_kindIn
set_option maxRecDepth 20000 in
theorem ggX8_ask_X8_deafSize : GoodIn wsX8_ask wsX8_deafSize := goodIn_r _ [19, 8, 12, 13, 14, 6, 15, 20, 21, 22, 23, 2, 24, 37, 38, 39, 40, 41, 42, 43, 44, 45, 46, 47, 48, 49, 50, 51, 52, 53, 54, 55, 56, 57, 58, 59] (by decide +kernel) (by decide +kernel)
set_option maxRecDepth 20000 in
theorem gX8_ask_X8_deafSize : GoodIn wsX8_ask (wsV RX8 247 RX8 yX8_deafSize wsX8_deafSize) := goodIn_app (goodIn_of _ (by decide +kernel)) ggX8_ask_X8_deafSize
set_option maxRecDepth 20000 in
theorem ggX8_ask_X8_keenSize : GoodIn wsX8_ask wsX8_keenSize := goodIn_r _ [28, 8, 12, 13, 14, 6, 15, 20, 21, 22, 23, 2, 24, 29, 30, 31, 32, 37, 38, 39, 40, 41, 42, 43, 44, 45, 46, 47, 48, 49, 50, 51, 52, 53, 54, 55, 56, 57, 58, 59] (by decide +kernel) (by decide +kernel)
set_option maxRecDepth 20000 in
theorem gX8_ask_X8_keenSize : GoodIn wsX8_ask (wsV RX8 250 RX8 yX8_keenSize wsX8_keenSize) := goodIn_app (goodIn_of _ (by decide +kernel)) ggX8_ask_X8_keenSize
set_option maxRecDepth 20000 in
theorem ggX8_ask_X8_deafMark : GoodIn wsX8_ask wsX8_deafMark := goodIn_r _ [36, 20, 21, 22, 6, 23, 2, 24, 16, 17, 18, 19, 8, 12, 13, 14, 15, 37, 38, 39, 40, 41, 42, 43, 44, 45, 46, 47, 48, 49, 50, 51, 52, 53, 54, 55, 56, 57, 58, 59] (by decide +kernel) (by decide +kernel)
set_option maxRecDepth 20000 in
theorem gX8_ask_X8_deafMark : GoodIn wsX8_ask (wsV RX8 253 RX8 yX8_deafMark wsX8_deafMark) := goodIn_app (goodIn_of _ (by decide +kernel)) ggX8_ask_X8_deafMark
set_option maxRecDepth 20000 in
theorem ggX8_ask_X8_keenMark : GoodIn wsX8_ask wsX8_keenMark := goodIn_r _ [32, 8, 12, 13, 14, 6, 15, 20, 21, 22, 23, 2, 24, 37, 38, 39, 40, 41, 42, 43, 44, 45, 46, 47, 48, 49, 50, 51, 52, 53, 54, 55, 56, 57, 58, 59] (by decide +kernel) (by decide +kernel)
set_option maxRecDepth 20000 in
theorem gX8_ask_X8_keenMark : GoodIn wsX8_ask (wsV RX8 244 RX8 yX8_keenMark wsX8_keenMark) := goodIn_app (goodIn_of _ (by decide +kernel)) ggX8_ask_X8_keenMark
theorem dX8_ask_0 : decode cX8_ask 0 = .ok (.aload_n 0, 1) := by decide +kernel
theorem dX8_ask_1 : decode cX8_ask 1 = .ok (.iload_n 1, 1) := by decide +kernel
theorem dX8_ask_2 : decode cX8_ask 2 = .ok (.invokevirtual 199, 3) := by decide +kernel
theorem dX8_ask_5 : decode cX8_ask 5 = .ok (.ifCond .eq 12, 3) := by decide +kernel
theorem dX8_ask_8 : decode cX8_ask 8 = .ok (.iload_n 2, 1) := by decide +kernel
theorem dX8_ask_9 : decode cX8_ask 9 = .ok (.iconst 0, 1) := by decide +kernel
theorem dX8_ask_10 : decode cX8_ask 10 = .ok (.iconst 1, 1) := by decide +kernel
theorem dX8_ask_11 : decode cX8_ask 11 = .ok (.invokestatic 56, 3) := by decide +kernel
theorem dX8_ask_14 : decode cX8_ask 14 = .ok (.ifCond .ne 6, 3) := by decide +kernel
theorem dX8_ask_17 : decode cX8_ask 17 = .ok (.ldc 64, 2) := by decide +kernel
theorem dX8_ask_19 : decode cX8_ask 19 = .ok (.ireturn, 1) := by decide +kernel
theorem dX8_ask_20 : decode cX8_ask 20 = .ok (.aload_n 0, 1) := by decide +kernel
theorem dX8_ask_21 : decode cX8_ask 21 = .ok (.iconst 0, 1) := by decide +kernel
theorem dX8_ask_22 : decode cX8_ask 22 = .ok (.putfield 237, 3) := by decide +kernel
theorem dX8_ask_25 : decode cX8_ask 25 = .ok (.aload_n 0, 1) := by decide +kernel
theorem dX8_ask_26 : decode cX8_ask 26 = .ok (.iload_n 1, 1) := by decide +kernel
theorem dX8_ask_27 : decode cX8_ask 27 = .ok (.invokevirtual 165, 3) := by decide +kernel
theorem dX8_ask_30 : decode cX8_ask 30 = .ok (.iconst 4, 1) := by decide +kernel
theorem dX8_ask_31 : decode cX8_ask 31 = .ok (.if_icmp .lt 7, 3) := by decide +kernel
theorem dX8_ask_34 : decode cX8_ask 34 = .ok (.iconst 1, 1) := by decide +kernel
theorem dX8_ask_35 : decode cX8_ask 35 = .ok (.goto 4, 3) := by decide +kernel
theorem dX8_ask_38 : decode cX8_ask 38 = .ok (.iconst 0, 1) := by decide +kernel
theorem dX8_ask_39 : decode cX8_ask 39 = .ok (.istore_n 3, 1) := by decide +kernel
theorem dX8_ask_40 : decode cX8_ask 40 = .ok (.iload_n 2, 1) := by decide +kernel
theorem dX8_ask_41 : decode cX8_ask 41 = .ok (.ifCond .ne 21, 3) := by decide +kernel
theorem dX8_ask_44 : decode cX8_ask 44 = .ok (.iload_n 3, 1) := by decide +kernel
theorem dX8_ask_45 : decode cX8_ask 45 = .ok (.ifCond .eq 11, 3) := by decide +kernel
theorem dX8_ask_48 : decode cX8_ask 48 = .ok (.aload_n 0, 1) := by decide +kernel
theorem dX8_ask_49 : decode cX8_ask 49 = .ok (.iload_n 1, 1) := by decide +kernel
theorem dX8_ask_50 : decode cX8_ask 50 = .ok (.invokevirtual 247, 3) := by decide +kernel
theorem dX8_ask_53 : decode cX8_ask 53 = .ok (.goto 8, 3) := by decide +kernel
theorem dX8_ask_56 : decode cX8_ask 56 = .ok (.aload_n 0, 1) := by decide +kernel
theorem dX8_ask_57 : decode cX8_ask 57 = .ok (.iload_n 1, 1) := by decide +kernel
theorem dX8_ask_58 : decode cX8_ask 58 = .ok (.invokevirtual 250, 3) := by decide +kernel
theorem dX8_ask_61 : decode cX8_ask 61 = .ok (.ireturn, 1) := by decide +kernel
theorem dX8_ask_62 : decode cX8_ask 62 = .ok (.iload_n 3, 1) := by decide +kernel
theorem dX8_ask_63 : decode cX8_ask 63 = .ok (.ifCond .eq 11, 3) := by decide +kernel
theorem dX8_ask_66 : decode cX8_ask 66 = .ok (.aload_n 0, 1) := by decide +kernel
theorem dX8_ask_67 : decode cX8_ask 67 = .ok (.iload_n 1, 1) := by decide +kernel
theorem dX8_ask_68 : decode cX8_ask 68 = .ok (.invokevirtual 253, 3) := by decide +kernel
theorem dX8_ask_71 : decode cX8_ask 71 = .ok (.goto 8, 3) := by decide +kernel
theorem dX8_ask_74 : decode cX8_ask 74 = .ok (.aload_n 0, 1) := by decide +kernel
theorem dX8_ask_75 : decode cX8_ask 75 = .ok (.iload_n 1, 1) := by decide +kernel
theorem dX8_ask_76 : decode cX8_ask 76 = .ok (.invokevirtual 244, 3) := by decide +kernel
theorem dX8_ask_79 : decode cX8_ask 79 = .ok (.ireturn, 1) := by decide +kernel
set_option maxRecDepth 20000 in
theorem ggX8_trace_X8_in : GoodIn wsX8_trace wsX8_in := goodIn_r _ [7] (by decide +kernel) (by decide +kernel)
set_option maxRecDepth 20000 in
theorem gX8_trace_X8_in : GoodIn wsX8_trace (va_wsS RX8 56 yX8_in wsX8_in) := goodIn_app (goodIn_of _ (by decide +kernel)) ggX8_trace_X8_in
theorem dX8_trace_0 : decode cX8_trace 0 = .ok (.iload_n 1, 1) := by decide +kernel
theorem dX8_trace_1 : decode cX8_trace 1 = .ok (.iconst 0, 1) := by decide +kernel
theorem dX8_trace_2 : decode cX8_trace 2 = .ok (.aload_n 0, 1) := by decide +kernel
theorem dX8_trace_3 : decode cX8_trace 3 = .ok (.getfield 237, 3) := by decide +kernel
theorem dX8_trace_6 : decode cX8_trace 6 = .ok (.iconst 1, 1) := by decide +kernel
theorem dX8_trace_7 : decode cX8_trace 7 = .ok (.isub, 1) := by decide +kernel
theorem dX8_trace_8 : decode cX8_trace 8 = .ok (.invokestatic 56, 3) := by decide +kernel
theorem dX8_trace_11 : decode cX8_trace 11 = .ok (.ifCond .eq 12, 3) := by decide +kernel
theorem dX8_trace_14 : decode cX8_trace 14 = .ok (.aload_n 0, 1) := by decide +kernel
theorem dX8_trace_15 : decode cX8_trace 15 = .ok (.getfield 47, 3) := by decide +kernel
theorem dX8_trace_18 : decode cX8_trace 18 = .ok (.iload_n 1, 1) := by decide +kernel
theorem dX8_trace_19 : decode cX8_trace 19 = .ok (.iaload, 1) := by decide +kernel
theorem dX8_trace_20 : decode cX8_trace 20 = .ok (.goto 5, 3) := by decide +kernel
theorem dX8_trace_23 : decode cX8_trace 23 = .ok (.ldc 50, 2) := by decide +kernel
theorem dX8_trace_25 : decode cX8_trace 25 = .ok (.ireturn, 1) := by decide +kernel
set_option maxRecDepth 20000 in
theorem ggX8_count_X8_isMissing : GoodIn wsX8_count wsX8_isMissing := goodIn_r _ [9, 10, 11, 12, 13, 14, 15, 16, 17, 18, 19, 20, 21, 22, 23, 24, 25, 26, 27, 28, 29, 30, 31, 32, 33, 34] (by decide +kernel) (by decide +kernel)
set_option maxRecDepth 20000 in
theorem gX8_count_X8_isMissing : GoodIn wsX8_count (wsV RX8 72 RX8 yX8_isMissing wsX8_isMissing) := goodIn_app (goodIn_of _ (by decide +kernel)) ggX8_count_X8_isMissing
theorem dX8_count_0 : decode cX8_count 0 = .ok (.iconst 0, 1) := by decide +kernel
theorem dX8_count_1 : decode cX8_count 1 = .ok (.istore_n 2, 1) := by decide +kernel
theorem dX8_count_2 : decode cX8_count 2 = .ok (.iload_n 1, 1) := by decide +kernel
theorem dX8_count_3 : decode cX8_count 3 = .ok (.tableswitch 175 0 9 #[53, 85, 92, 99, 106, 114, 122, 127, 132, 139], 53) := by decide +kernel
theorem dX8_count_56 : decode cX8_count 56 = .ok (.iconst 0, 1) := by decide +kernel
theorem dX8_count_57 : decode cX8_count 57 = .ok (.istore_n 3, 1) := by decide +kernel
theorem dX8_count_58 : decode cX8_count 58 = .ok (.iload_n 3, 1) := by decide +kernel
theorem dX8_count_59 : decode cX8_count 59 = .ok (.bipush 8, 2) := by decide +kernel
theorem dX8_count_61 : decode cX8_count 61 = .ok (.if_icmp .ge 25, 3) := by decide +kernel
theorem dX8_count_64 : decode cX8_count 64 = .ok (.iload_n 2, 1) := by decide +kernel
theorem dX8_count_65 : decode cX8_count 65 = .ok (.aload_n 0, 1) := by decide +kernel
theorem dX8_count_66 : decode cX8_count 66 = .ok (.iload_n 3, 1) := by decide +kernel
theorem dX8_count_67 : decode cX8_count 67 = .ok (.invokevirtual 72, 3) := by decide +kernel
theorem dX8_count_70 : decode cX8_count 70 = .ok (.ifCond .eq 7, 3) := by decide +kernel
theorem dX8_count_73 : decode cX8_count 73 = .ok (.iconst 0, 1) := by decide +kernel
theorem dX8_count_74 : decode cX8_count 74 = .ok (.goto 4, 3) := by decide +kernel
theorem dX8_count_77 : decode cX8_count 77 = .ok (.iconst 1, 1) := by decide +kernel
theorem dX8_count_78 : decode cX8_count 78 = .ok (.iadd, 1) := by decide +kernel
theorem dX8_count_79 : decode cX8_count 79 = .ok (.istore_n 2, 1) := by decide +kernel
theorem dX8_count_80 : decode cX8_count 80 = .ok (.iinc 3 1, 3) := by decide +kernel
theorem dX8_count_83 : decode cX8_count 83 = .ok (.goto (-25), 3) := by decide +kernel
theorem dX8_count_86 : decode cX8_count 86 = .ok (.iload_n 2, 1) := by decide +kernel
theorem dX8_count_87 : decode cX8_count 87 = .ok (.ireturn, 1) := by decide +kernel
theorem dX8_count_88 : decode cX8_count 88 = .ok (.aload_n 0, 1) := by decide +kernel
theorem dX8_count_89 : decode cX8_count 89 = .ok (.getfield 25, 3) := by decide +kernel
theorem dX8_count_92 : decode cX8_count 92 = .ok (.iconst 3, 1) := by decide +kernel
theorem dX8_count_93 : decode cX8_count 93 = .ok (.iaload, 1) := by decide +kernel
theorem dX8_count_94 : decode cX8_count 94 = .ok (.ireturn, 1) := by decide +kernel
theorem dX8_count_95 : decode cX8_count 95 = .ok (.aload_n 0, 1) := by decide +kernel
theorem dX8_count_96 : decode cX8_count 96 = .ok (.getfield 25, 3) := by decide +kernel
theorem dX8_count_99 : decode cX8_count 99 = .ok (.iconst 4, 1) := by decide +kernel
theorem dX8_count_100 : decode cX8_count 100 = .ok (.iaload, 1) := by decide +kernel
theorem dX8_count_101 : decode cX8_count 101 = .ok (.ireturn, 1) := by decide +kernel
theorem dX8_count_102 : decode cX8_count 102 = .ok (.aload_n 0, 1) := by decide +kernel
theorem dX8_count_103 : decode cX8_count 103 = .ok (.getfield 25, 3) := by decide +kernel
theorem dX8_count_106 : decode cX8_count 106 = .ok (.iconst 5, 1) := by decide +kernel
theorem dX8_count_107 : decode cX8_count 107 = .ok (.iaload, 1) := by decide +kernel
theorem dX8_count_108 : decode cX8_count 108 = .ok (.ireturn, 1) := by decide +kernel
theorem dX8_count_109 : decode cX8_count 109 = .ok (.aload_n 0, 1) := by decide +kernel
theorem dX8_count_110 : decode cX8_count 110 = .ok (.getfield 25, 3) := by decide +kernel
theorem dX8_count_113 : decode cX8_count 113 = .ok (.bipush 7, 2) := by decide +kernel
theorem dX8_count_115 : decode cX8_count 115 = .ok (.iaload, 1) := by decide +kernel
theorem dX8_count_116 : decode cX8_count 116 = .ok (.ireturn, 1) := by decide +kernel
theorem dX8_count_117 : decode cX8_count 117 = .ok (.aload_n 0, 1) := by decide +kernel
theorem dX8_count_118 : decode cX8_count 118 = .ok (.getfield 25, 3) := by decide +kernel
theorem dX8_count_121 : decode cX8_count 121 = .ok (.bipush 6, 2) := by decide +kernel
theorem dX8_count_123 : decode cX8_count 123 = .ok (.iaload, 1) := by decide +kernel
theorem dX8_count_124 : decode cX8_count 124 = .ok (.ireturn, 1) := by decide +kernel
theorem dX8_count_125 : decode cX8_count 125 = .ok (.aload_n 0, 1) := by decide +kernel
theorem dX8_count_126 : decode cX8_count 126 = .ok (.getfield 149, 3) := by decide +kernel
theorem dX8_count_129 : decode cX8_count 129 = .ok (.ireturn, 1) := by decide +kernel
theorem dX8_count_130 : decode cX8_count 130 = .ok (.aload_n 0, 1) := by decide +kernel
theorem dX8_count_131 : decode cX8_count 131 = .ok (.getfield 82, 3) := by decide +kernel
theorem dX8_count_134 : decode cX8_count 134 = .ok (.ireturn, 1) := by decide +kernel
theorem dX8_count_135 : decode cX8_count 135 = .ok (.aload_n 0, 1) := by decide +kernel
theorem dX8_count_136 : decode cX8_count 136 = .ok (.getfield 25, 3) := by decide +kernel
theorem dX8_count_139 : decode cX8_count 139 = .ok (.iconst 0, 1) := by decide +kernel
theorem dX8_count_140 : decode cX8_count 140 = .ok (.iaload, 1) := by decide +kernel
theorem dX8_count_141 : decode cX8_count 141 = .ok (.ireturn, 1) := by decide +kernel
theorem dX8_count_142 : decode cX8_count 142 = .ok (.iconst 0, 1) := by decide +kernel
theorem dX8_count_143 : decode cX8_count 143 = .ok (.istore_n 3, 1) := by decide +kernel
theorem dX8_count_144 : decode cX8_count 144 = .ok (.iload_n 3, 1) := by decide +kernel
theorem dX8_count_145 : decode cX8_count 145 = .ok (.aload_n 0, 1) := by decide +kernel
theorem dX8_count_146 : decode cX8_count 146 = .ok (.getfield 25, 3) := by decide +kernel
theorem dX8_count_149 : decode cX8_count 149 = .ok (.iconst 4, 1) := by decide +kernel
theorem dX8_count_150 : decode cX8_count 150 = .ok (.iaload, 1) := by decide +kernel
theorem dX8_count_151 : decode cX8_count 151 = .ok (.if_icmp .ge 25, 3) := by decide +kernel
theorem dX8_count_154 : decode cX8_count 154 = .ok (.iload_n 2, 1) := by decide +kernel
theorem dX8_count_155 : decode cX8_count 155 = .ok (.aload_n 0, 1) := by decide +kernel
theorem dX8_count_156 : decode cX8_count 156 = .ok (.getfield 25, 3) := by decide +kernel
theorem dX8_count_159 : decode cX8_count 159 = .ok (.bipush 26, 2) := by decide +kernel
theorem dX8_count_161 : decode cX8_count 161 = .ok (.iconst 3, 1) := by decide +kernel
theorem dX8_count_162 : decode cX8_count 162 = .ok (.iload_n 3, 1) := by decide +kernel
theorem dX8_count_163 : decode cX8_count 163 = .ok (.imul, 1) := by decide +kernel
theorem dX8_count_164 : decode cX8_count 164 = .ok (.iadd, 1) := by decide +kernel
theorem dX8_count_165 : decode cX8_count 165 = .ok (.iconst 2, 1) := by decide +kernel
theorem dX8_count_166 : decode cX8_count 166 = .ok (.iadd, 1) := by decide +kernel
theorem dX8_count_167 : decode cX8_count 167 = .ok (.iaload, 1) := by decide +kernel
theorem dX8_count_168 : decode cX8_count 168 = .ok (.iadd, 1) := by decide +kernel
theorem dX8_count_169 : decode cX8_count 169 = .ok (.istore_n 2, 1) := by decide +kernel
theorem dX8_count_170 : decode cX8_count 170 = .ok (.iinc 3 1, 3) := by decide +kernel
theorem dX8_count_173 : decode cX8_count 173 = .ok (.goto (-29), 3) := by decide +kernel
theorem dX8_count_176 : decode cX8_count 176 = .ok (.iload_n 2, 1) := by decide +kernel
theorem dX8_count_177 : decode cX8_count 177 = .ok (.ireturn, 1) := by decide +kernel
theorem dX8_count_178 : decode cX8_count 178 = .ok (.ldc 64, 2) := by decide +kernel
theorem dX8_count_180 : decode cX8_count 180 = .ok (.ireturn, 1) := by decide +kernel
theorem dX8_status_0 : decode cX8_status 0 = .ok (.aload_n 0, 1) := by decide +kernel
theorem dX8_status_1 : decode cX8_status 1 = .ok (.getfield 51, 3) := by decide +kernel
theorem dX8_status_4 : decode cX8_status 4 = .ok (.ireturn, 1) := by decide +kernel
theorem dJ6_bitCount_0f7a4_0 : decode cJ6_bitCount_0f7a4 0 = .ok (.iload_n 0, 1) := by decide +kernel
theorem dJ6_bitCount_0f7a4_1 : decode cJ6_bitCount_0f7a4 1 = .ok (.iload_n 0, 1) := by decide +kernel
theorem dJ6_bitCount_0f7a4_2 : decode cJ6_bitCount_0f7a4 2 = .ok (.iconst 1, 1) := by decide +kernel
theorem dJ6_bitCount_0f7a4_3 : decode cJ6_bitCount_0f7a4 3 = .ok (.iushr, 1) := by decide +kernel
theorem dJ6_bitCount_0f7a4_4 : decode cJ6_bitCount_0f7a4 4 = .ok (.ldc_w 265, 3) := by decide +kernel
theorem dJ6_bitCount_0f7a4_7 : decode cJ6_bitCount_0f7a4 7 = .ok (.iand, 1) := by decide +kernel
theorem dJ6_bitCount_0f7a4_8 : decode cJ6_bitCount_0f7a4 8 = .ok (.isub, 1) := by decide +kernel
theorem dJ6_bitCount_0f7a4_9 : decode cJ6_bitCount_0f7a4 9 = .ok (.istore_n 0, 1) := by decide +kernel
theorem dJ6_bitCount_0f7a4_10 : decode cJ6_bitCount_0f7a4 10 = .ok (.iload_n 0, 1) := by decide +kernel
theorem dJ6_bitCount_0f7a4_11 : decode cJ6_bitCount_0f7a4 11 = .ok (.ldc_w 266, 3) := by decide +kernel
theorem dJ6_bitCount_0f7a4_14 : decode cJ6_bitCount_0f7a4 14 = .ok (.iand, 1) := by decide +kernel
theorem dJ6_bitCount_0f7a4_15 : decode cJ6_bitCount_0f7a4 15 = .ok (.iload_n 0, 1) := by decide +kernel
theorem dJ6_bitCount_0f7a4_16 : decode cJ6_bitCount_0f7a4 16 = .ok (.iconst 2, 1) := by decide +kernel
theorem dJ6_bitCount_0f7a4_17 : decode cJ6_bitCount_0f7a4 17 = .ok (.iushr, 1) := by decide +kernel
theorem dJ6_bitCount_0f7a4_18 : decode cJ6_bitCount_0f7a4 18 = .ok (.ldc_w 266, 3) := by decide +kernel
theorem dJ6_bitCount_0f7a4_21 : decode cJ6_bitCount_0f7a4 21 = .ok (.iand, 1) := by decide +kernel
theorem dJ6_bitCount_0f7a4_22 : decode cJ6_bitCount_0f7a4 22 = .ok (.iadd, 1) := by decide +kernel
theorem dJ6_bitCount_0f7a4_23 : decode cJ6_bitCount_0f7a4 23 = .ok (.istore_n 0, 1) := by decide +kernel
theorem dJ6_bitCount_0f7a4_24 : decode cJ6_bitCount_0f7a4 24 = .ok (.iload_n 0, 1) := by decide +kernel
theorem dJ6_bitCount_0f7a4_25 : decode cJ6_bitCount_0f7a4 25 = .ok (.iload_n 0, 1) := by decide +kernel
theorem dJ6_bitCount_0f7a4_26 : decode cJ6_bitCount_0f7a4 26 = .ok (.iconst 4, 1) := by decide +kernel
theorem dJ6_bitCount_0f7a4_27 : decode cJ6_bitCount_0f7a4 27 = .ok (.iushr, 1) := by decide +kernel
theorem dJ6_bitCount_0f7a4_28 : decode cJ6_bitCount_0f7a4 28 = .ok (.iadd, 1) := by decide +kernel
theorem dJ6_bitCount_0f7a4_29 : decode cJ6_bitCount_0f7a4 29 = .ok (.ldc_w 267, 3) := by decide +kernel
theorem dJ6_bitCount_0f7a4_32 : decode cJ6_bitCount_0f7a4 32 = .ok (.iand, 1) := by decide +kernel
theorem dJ6_bitCount_0f7a4_33 : decode cJ6_bitCount_0f7a4 33 = .ok (.istore_n 0, 1) := by decide +kernel
theorem dJ6_bitCount_0f7a4_34 : decode cJ6_bitCount_0f7a4 34 = .ok (.iload_n 0, 1) := by decide +kernel
theorem dJ6_bitCount_0f7a4_35 : decode cJ6_bitCount_0f7a4 35 = .ok (.iload_n 0, 1) := by decide +kernel
theorem dJ6_bitCount_0f7a4_36 : decode cJ6_bitCount_0f7a4 36 = .ok (.bipush 8, 2) := by decide +kernel
theorem dJ6_bitCount_0f7a4_38 : decode cJ6_bitCount_0f7a4 38 = .ok (.iushr, 1) := by decide +kernel
theorem dJ6_bitCount_0f7a4_39 : decode cJ6_bitCount_0f7a4 39 = .ok (.iadd, 1) := by decide +kernel
theorem dJ6_bitCount_0f7a4_40 : decode cJ6_bitCount_0f7a4 40 = .ok (.istore_n 0, 1) := by decide +kernel
theorem dJ6_bitCount_0f7a4_41 : decode cJ6_bitCount_0f7a4 41 = .ok (.iload_n 0, 1) := by decide +kernel
theorem dJ6_bitCount_0f7a4_42 : decode cJ6_bitCount_0f7a4 42 = .ok (.iload_n 0, 1) := by decide +kernel
theorem dJ6_bitCount_0f7a4_43 : decode cJ6_bitCount_0f7a4 43 = .ok (.bipush 16, 2) := by decide +kernel
theorem dJ6_bitCount_0f7a4_45 : decode cJ6_bitCount_0f7a4 45 = .ok (.iushr, 1) := by decide +kernel
theorem dJ6_bitCount_0f7a4_46 : decode cJ6_bitCount_0f7a4 46 = .ok (.iadd, 1) := by decide +kernel
theorem dJ6_bitCount_0f7a4_47 : decode cJ6_bitCount_0f7a4 47 = .ok (.istore_n 0, 1) := by decide +kernel
theorem dJ6_bitCount_0f7a4_48 : decode cJ6_bitCount_0f7a4 48 = .ok (.iload_n 0, 1) := by decide +kernel
theorem dJ6_bitCount_0f7a4_49 : decode cJ6_bitCount_0f7a4 49 = .ok (.bipush 63, 2) := by decide +kernel
theorem dJ6_bitCount_0f7a4_51 : decode cJ6_bitCount_0f7a4 51 = .ok (.iand, 1) := by decide +kernel
theorem dJ6_bitCount_0f7a4_52 : decode cJ6_bitCount_0f7a4 52 = .ok (.ireturn, 1) := by decide +kernel
theorem dJ9_max_7cf53_0 : decode cJ9_max_7cf53 0 = .ok (.iload_n 0, 1) := by decide +kernel
theorem dJ9_max_7cf53_1 : decode cJ9_max_7cf53 1 = .ok (.iload_n 1, 1) := by decide +kernel
theorem dJ9_max_7cf53_2 : decode cJ9_max_7cf53 2 = .ok (.if_icmp .lt 7, 3) := by decide +kernel
theorem dJ9_max_7cf53_5 : decode cJ9_max_7cf53 5 = .ok (.iload_n 0, 1) := by decide +kernel
theorem dJ9_max_7cf53_6 : decode cJ9_max_7cf53 6 = .ok (.goto 4, 3) := by decide +kernel
theorem dJ9_max_7cf53_9 : decode cJ9_max_7cf53 9 = .ok (.iload_n 1, 1) := by decide +kernel
theorem dJ9_max_7cf53_10 : decode cJ9_max_7cf53 10 = .ok (.ireturn, 1) := by decide +kernel
theorem dJ9_min_7cf53_0 : decode cJ9_min_7cf53 0 = .ok (.iload_n 0, 1) := by decide +kernel
theorem dJ9_min_7cf53_1 : decode cJ9_min_7cf53 1 = .ok (.iload_n 1, 1) := by decide +kernel
theorem dJ9_min_7cf53_2 : decode cJ9_min_7cf53 2 = .ok (.if_icmp .gt 7, 3) := by decide +kernel
theorem dJ9_min_7cf53_5 : decode cJ9_min_7cf53 5 = .ok (.iload_n 0, 1) := by decide +kernel
theorem dJ9_min_7cf53_6 : decode cJ9_min_7cf53 6 = .ok (.goto 4, 3) := by decide +kernel
theorem dJ9_min_7cf53_9 : decode cJ9_min_7cf53 9 = .ok (.iload_n 1, 1) := by decide +kernel
theorem dJ9_min_7cf53_10 : decode cJ9_min_7cf53 10 = .ok (.ireturn, 1) := by decide +kernel
abbrev vwCl : List vw_C := [(RX0, TX0, 3), (RX1, TX1, 6), (RX2, TX2, 8), (RX3, TX3, 2), (RX4, TX4, 8), (RX5, TX5, 3), (RX6, TX6, 7), (RX7, TX7, 9), (RX8, TX8, 23)]

