set_option maxRecDepth 20000 in
theorem gX7_drawn_X7_noGate : GoodIn wsX7_drawn (wsV RX7 133 RX7 yX7_noGate wsX7_noGate) := goodIn_app (goodIn_of _ (by decide +kernel)) ggX7_drawn_X7_noGate
set_option maxRecDepth 20000 in
theorem ggX7_drawn_X7_rest : GoodIn wsX7_drawn wsX7_rest := goodIn_r _ [15] (by decide +kernel) (by decide +kernel)
set_option maxRecDepth 20000 in
theorem gX7_drawn_X7_rest : GoodIn wsX7_drawn (va_wsS RX7 304 yX7_rest wsX7_rest) := goodIn_app (goodIn_of _ (by decide +kernel)) ggX7_drawn_X7_rest
set_option maxRecDepth 20000 in
theorem ggX7_drawn_X2_catches : GoodIn wsX7_drawn wsX2_catches := goodIn_r _ [20, 21, 22, 23, 24, 25, 19, 26, 27, 28, 29, 30, 31, 32, 33, 34, 14, 11, 15, 35, 36, 37, 38, 39, 40, 41, 42, 43, 44, 45, 46, 47, 48, 49, 50, 51, 52, 53, 54, 55, 56, 57, 58, 59, 60, 61, 62, 72, 73, 74, 75, 76, 77, 78, 79, 80, 81, 82, 83, 84, 85, 86, 87] (by decide +kernel) (by decide +kernel)
set_option maxRecDepth 20000 in
theorem gX7_drawn_X2_catches : GoodIn wsX7_drawn (wsV RX7 168 RX2 yX2_catches wsX2_catches) := goodIn_app (goodIn_of _ (by decide +kernel)) ggX7_drawn_X2_catches
theorem dX7_drawn_0 : decode cX7_drawn 0 = .ok (.aload_n 0, 1) := by decide +kernel
theorem dX7_drawn_1 : decode cX7_drawn 1 = .ok (.invokevirtual 133, 3) := by decide +kernel
theorem dX7_drawn_4 : decode cX7_drawn 4 = .ok (.ifCond .eq 6, 3) := by decide +kernel
theorem dX7_drawn_7 : decode cX7_drawn 7 = .ok (.ldc 136, 2) := by decide +kernel
theorem dX7_drawn_9 : decode cX7_drawn 9 = .ok (.ireturn, 1) := by decide +kernel
theorem dX7_drawn_10 : decode cX7_drawn 10 = .ok (.iload_n 1, 1) := by decide +kernel
theorem dX7_drawn_11 : decode cX7_drawn 11 = .ok (.ifCond .lt 30, 3) := by decide +kernel
theorem dX7_drawn_14 : decode cX7_drawn 14 = .ok (.iload_n 1, 1) := by decide +kernel
theorem dX7_drawn_15 : decode cX7_drawn 15 = .ok (.bipush 60, 2) := by decide +kernel
theorem dX7_drawn_17 : decode cX7_drawn 17 = .ok (.if_icmp .gt 24, 3) := by decide +kernel
theorem dX7_drawn_20 : decode cX7_drawn 20 = .ok (.iload_n 2, 1) := by decide +kernel
theorem dX7_drawn_21 : decode cX7_drawn 21 = .ok (.iconst 1, 1) := by decide +kernel
theorem dX7_drawn_22 : decode cX7_drawn 22 = .ok (.if_icmp .lt 19, 3) := by decide +kernel
theorem dX7_drawn_25 : decode cX7_drawn 25 = .ok (.iload_n 2, 1) := by decide +kernel
theorem dX7_drawn_26 : decode cX7_drawn 26 = .ok (.ldc_w 299, 3) := by decide +kernel
theorem dX7_drawn_29 : decode cX7_drawn 29 = .ok (.if_icmp .gt 12, 3) := by decide +kernel
theorem dX7_drawn_32 : decode cX7_drawn 32 = .ok (.iload_n 3, 1) := by decide +kernel
theorem dX7_drawn_33 : decode cX7_drawn 33 = .ok (.ifCond .lt 8, 3) := by decide +kernel
theorem dX7_drawn_36 : decode cX7_drawn 36 = .ok (.iload_n 3, 1) := by decide +kernel
theorem dX7_drawn_37 : decode cX7_drawn 37 = .ok (.iconst 1, 1) := by decide +kernel
theorem dX7_drawn_38 : decode cX7_drawn 38 = .ok (.if_icmp .le 6, 3) := by decide +kernel
theorem dX7_drawn_41 : decode cX7_drawn 41 = .ok (.ldc 59, 2) := by decide +kernel
theorem dX7_drawn_43 : decode cX7_drawn 43 = .ok (.ireturn, 1) := by decide +kernel
theorem dX7_drawn_44 : decode cX7_drawn 44 = .ok (.iload_n 2, 1) := by decide +kernel
theorem dX7_drawn_45 : decode cX7_drawn 45 = .ok (.i2l, 1) := by decide +kernel
theorem dX7_drawn_46 : decode cX7_drawn 46 = .ok (.lstore 4, 2) := by decide +kernel
theorem dX7_drawn_48 : decode cX7_drawn 48 = .ok (.iconst 0, 1) := by decide +kernel
theorem dX7_drawn_49 : decode cX7_drawn 49 = .ok (.istore 6, 2) := by decide +kernel
theorem dX7_drawn_51 : decode cX7_drawn 51 = .ok (.iconst 0, 1) := by decide +kernel
theorem dX7_drawn_52 : decode cX7_drawn 52 = .ok (.istore 7, 2) := by decide +kernel
theorem dX7_drawn_54 : decode cX7_drawn 54 = .ok (.iconst 0, 1) := by decide +kernel
theorem dX7_drawn_55 : decode cX7_drawn 55 = .ok (.istore 8, 2) := by decide +kernel
theorem dX7_drawn_57 : decode cX7_drawn 57 = .ok (.iload 8, 2) := by decide +kernel
theorem dX7_drawn_59 : decode cX7_drawn 59 = .ok (.iload_n 1, 1) := by decide +kernel
theorem dX7_drawn_60 : decode cX7_drawn 60 = .ok (.if_icmp .ge 71, 3) := by decide +kernel
theorem dX7_drawn_63 : decode cX7_drawn 63 = .ok (.lload 4, 2) := by decide +kernel
theorem dX7_drawn_65 : decode cX7_drawn 65 = .ok (.ldc2_w 300, 3) := by decide +kernel
theorem dX7_drawn_68 : decode cX7_drawn 68 = .ok (.lmul, 1) := by decide +kernel
theorem dX7_drawn_69 : decode cX7_drawn 69 = .ok (.ldc2_w 302, 3) := by decide +kernel
theorem dX7_drawn_72 : decode cX7_drawn 72 = .ok (.lrem, 1) := by decide +kernel
theorem dX7_drawn_73 : decode cX7_drawn 73 = .ok (.lstore 4, 2) := by decide +kernel
theorem dX7_drawn_75 : decode cX7_drawn 75 = .ok (.lload 4, 2) := by decide +kernel
theorem dX7_drawn_77 : decode cX7_drawn 77 = .ok (.l2i, 1) := by decide +kernel
theorem dX7_drawn_78 : decode cX7_drawn 78 = .ok (.aload_n 0, 1) := by decide +kernel
theorem dX7_drawn_79 : decode cX7_drawn 79 = .ok (.getfield 25, 3) := by decide +kernel
theorem dX7_drawn_82 : decode cX7_drawn 82 = .ok (.getfield 130, 3) := by decide +kernel
theorem dX7_drawn_85 : decode cX7_drawn 85 = .ok (.invokestatic 304, 3) := by decide +kernel
theorem dX7_drawn_88 : decode cX7_drawn 88 = .ok (.istore 9, 2) := by decide +kernel
theorem dX7_drawn_90 : decode cX7_drawn 90 = .ok (.aload_n 0, 1) := by decide +kernel
theorem dX7_drawn_91 : decode cX7_drawn 91 = .ok (.getfield 25, 3) := by decide +kernel
theorem dX7_drawn_94 : decode cX7_drawn 94 = .ok (.iload 9, 2) := by decide +kernel
theorem dX7_drawn_96 : decode cX7_drawn 96 = .ok (.lload 4, 2) := by decide +kernel
theorem dX7_drawn_98 : decode cX7_drawn 98 = .ok (.l2i, 1) := by decide +kernel
theorem dX7_drawn_99 : decode cX7_drawn 99 = .ok (.bipush 6, 2) := by decide +kernel
theorem dX7_drawn_101 : decode cX7_drawn 101 = .ok (.irem, 1) := by decide +kernel
theorem dX7_drawn_102 : decode cX7_drawn 102 = .ok (.iload 8, 2) := by decide +kernel
theorem dX7_drawn_104 : decode cX7_drawn 104 = .ok (.invokevirtual 168, 3) := by decide +kernel
theorem dX7_drawn_107 : decode cX7_drawn 107 = .ok (.ifCond .eq 9, 3) := by decide +kernel
theorem dX7_drawn_110 : decode cX7_drawn 110 = .ok (.iinc 6 1, 3) := by decide +kernel
theorem dX7_drawn_113 : decode cX7_drawn 113 = .ok (.goto 12, 3) := by decide +kernel
theorem dX7_drawn_116 : decode cX7_drawn 116 = .ok (.iload 7, 2) := by decide +kernel
theorem dX7_drawn_118 : decode cX7_drawn 118 = .ok (.iconst 1, 1) := by decide +kernel
theorem dX7_drawn_119 : decode cX7_drawn 119 = .ok (.iload 9, 2) := by decide +kernel
theorem dX7_drawn_121 : decode cX7_drawn 121 = .ok (.ishl, 1) := by decide +kernel
theorem dX7_drawn_122 : decode cX7_drawn 122 = .ok (.ior, 1) := by decide +kernel
theorem dX7_drawn_123 : decode cX7_drawn 123 = .ok (.istore 7, 2) := by decide +kernel
theorem dX7_drawn_125 : decode cX7_drawn 125 = .ok (.iinc 8 1, 3) := by decide +kernel
theorem dX7_drawn_128 : decode cX7_drawn 128 = .ok (.goto (-71), 3) := by decide +kernel
theorem dX7_drawn_131 : decode cX7_drawn 131 = .ok (.iload_n 3, 1) := by decide +kernel
theorem dX7_drawn_132 : decode cX7_drawn 132 = .ok (.ifCond .ne 8, 3) := by decide +kernel
theorem dX7_drawn_135 : decode cX7_drawn 135 = .ok (.iload 6, 2) := by decide +kernel
theorem dX7_drawn_137 : decode cX7_drawn 137 = .ok (.goto 5, 3) := by decide +kernel
theorem dX7_drawn_140 : decode cX7_drawn 140 = .ok (.iload 7, 2) := by decide +kernel
theorem dX7_drawn_142 : decode cX7_drawn 142 = .ok (.ireturn, 1) := by decide +kernel
set_option maxRecDepth 20000 in
theorem ggX7_image_X7_noGate : GoodIn wsX7_image wsX7_noGate := goodIn_r _ [9, 4, 10, 42, 43, 44, 45, 46, 47, 48, 49, 50, 51, 52, 53, 54, 55, 56, 57, 58] (by decide +kernel) (by decide +kernel)
set_option maxRecDepth 20000 in
theorem gX7_image_X7_noGate : GoodIn wsX7_image (wsV RX7 133 RX7 yX7_noGate wsX7_noGate) := goodIn_app (goodIn_of _ (by decide +kernel)) ggX7_image_X7_noGate
set_option maxRecDepth 20000 in
theorem ggX7_image_X2_become : GoodIn wsX7_image wsX2_become := goodIn_r _ [15, 16, 17, 18, 19, 20, 21, 22, 23, 24, 25, 26, 27, 28, 29, 30, 31, 32, 33, 34, 35, 36, 37, 38, 39, 40, 41, 51, 52, 53, 54, 55, 56, 57, 58, 59, 60, 61, 62, 63, 64, 65, 66] (by decide +kernel) (by decide +kernel)
set_option maxRecDepth 20000 in
theorem gX7_image_X2_become : GoodIn wsX7_image (wsV RX7 123 RX2 yX2_become wsX2_become) := goodIn_app (goodIn_of _ (by decide +kernel)) ggX7_image_X2_become
theorem dX7_image_0 : decode cX7_image 0 = .ok (.iload_n 1, 1) := by decide +kernel
theorem dX7_image_1 : decode cX7_image 1 = .ok (.ifCond .lt 8, 3) := by decide +kernel
theorem dX7_image_4 : decode cX7_image 4 = .ok (.iload_n 1, 1) := by decide +kernel
theorem dX7_image_5 : decode cX7_image 5 = .ok (.iconst 2, 1) := by decide +kernel
theorem dX7_image_6 : decode cX7_image 6 = .ok (.if_icmp .lt 6, 3) := by decide +kernel
theorem dX7_image_9 : decode cX7_image 9 = .ok (.ldc 59, 2) := by decide +kernel
theorem dX7_image_11 : decode cX7_image 11 = .ok (.ireturn, 1) := by decide +kernel
theorem dX7_image_12 : decode cX7_image 12 = .ok (.aload_n 0, 1) := by decide +kernel
theorem dX7_image_13 : decode cX7_image 13 = .ok (.invokevirtual 133, 3) := by decide +kernel
theorem dX7_image_16 : decode cX7_image 16 = .ok (.ifCond .eq 6, 3) := by decide +kernel
theorem dX7_image_19 : decode cX7_image 19 = .ok (.ldc 136, 2) := by decide +kernel
theorem dX7_image_21 : decode cX7_image 21 = .ok (.ireturn, 1) := by decide +kernel
theorem dX7_image_22 : decode cX7_image 22 = .ok (.aload_n 0, 1) := by decide +kernel
theorem dX7_image_23 : decode cX7_image 23 = .ok (.getfield 36, 3) := by decide +kernel
theorem dX7_image_26 : decode cX7_image 26 = .ok (.iload_n 1, 1) := by decide +kernel
theorem dX7_image_27 : decode cX7_image 27 = .ok (.aaload, 1) := by decide +kernel
theorem dX7_image_28 : decode cX7_image 28 = .ok (.aload_n 0, 1) := by decide +kernel
theorem dX7_image_29 : decode cX7_image 29 = .ok (.getfield 25, 3) := by decide +kernel
theorem dX7_image_32 : decode cX7_image 32 = .ok (.invokevirtual 123, 3) := by decide +kernel
theorem dX7_image_35 : decode cX7_image 35 = .ok (.iconst 1, 1) := by decide +kernel
theorem dX7_image_36 : decode cX7_image 36 = .ok (.ireturn, 1) := by decide +kernel
set_option maxRecDepth 20000 in
theorem ggX7_restore_X2_become : GoodIn wsX7_restore wsX2_become := goodIn_r _ [11, 12, 13, 14, 15, 16, 17, 18, 19, 20, 21, 22, 23, 24, 25, 26, 27, 28, 29, 30, 31, 32, 33, 34, 35, 36, 37, 53, 54, 55, 56, 57, 58, 59, 60, 61, 62, 63, 64, 65, 66, 67, 68] (by decide +kernel) (by decide +kernel)
set_option maxRecDepth 20000 in
theorem gX7_restore_X2_become : GoodIn wsX7_restore (wsV RX7 123 RX2 yX2_become wsX2_become) := goodIn_app (goodIn_of _ (by decide +kernel)) ggX7_restore_X2_become
set_option maxRecDepth 20000 in
theorem ggX7_restore_X0_forget : GoodIn wsX7_restore wsX0_forget := goodIn_r _ [42, 43, 69, 70, 71] (by decide +kernel) (by decide +kernel)
set_option maxRecDepth 20000 in
theorem gX7_restore_X0_forget : GoodIn wsX7_restore (wsV RX7 127 RX0 yX0_forget wsX0_forget) := goodIn_app (goodIn_of _ (by decide +kernel)) ggX7_restore_X0_forget
theorem dX7_restore_0 : decode cX7_restore 0 = .ok (.iload_n 1, 1) := by decide +kernel
theorem dX7_restore_1 : decode cX7_restore 1 = .ok (.ifCond .lt 8, 3) := by decide +kernel
theorem dX7_restore_4 : decode cX7_restore 4 = .ok (.iload_n 1, 1) := by decide +kernel
theorem dX7_restore_5 : decode cX7_restore 5 = .ok (.iconst 2, 1) := by decide +kernel
theorem dX7_restore_6 : decode cX7_restore 6 = .ok (.if_icmp .lt 6, 3) := by decide +kernel
theorem dX7_restore_9 : decode cX7_restore 9 = .ok (.ldc 59, 2) := by decide +kernel
theorem dX7_restore_11 : decode cX7_restore 11 = .ok (.ireturn, 1) := by decide +kernel
theorem dX7_restore_12 : decode cX7_restore 12 = .ok (.aload_n 0, 1) := by decide +kernel
theorem dX7_restore_13 : decode cX7_restore 13 = .ok (.getfield 36, 3) := by decide +kernel
theorem dX7_restore_16 : decode cX7_restore 16 = .ok (.iload_n 1, 1) := by decide +kernel
theorem dX7_restore_17 : decode cX7_restore 17 = .ok (.aaload, 1) := by decide +kernel
theorem dX7_restore_18 : decode cX7_restore 18 = .ok (.getfield 130, 3) := by decide +kernel
theorem dX7_restore_21 : decode cX7_restore 21 = .ok (.ifCond .ne 6, 3) := by decide +kernel
theorem dX7_restore_24 : decode cX7_restore 24 = .ok (.ldc 136, 2) := by decide +kernel
theorem dX7_restore_26 : decode cX7_restore 26 = .ok (.ireturn, 1) := by decide +kernel
theorem dX7_restore_27 : decode cX7_restore 27 = .ok (.aload_n 0, 1) := by decide +kernel
theorem dX7_restore_28 : decode cX7_restore 28 = .ok (.getfield 25, 3) := by decide +kernel
theorem dX7_restore_31 : decode cX7_restore 31 = .ok (.aload_n 0, 1) := by decide +kernel
theorem dX7_restore_32 : decode cX7_restore 32 = .ok (.getfield 36, 3) := by decide +kernel
theorem dX7_restore_35 : decode cX7_restore 35 = .ok (.iload_n 1, 1) := by decide +kernel
theorem dX7_restore_36 : decode cX7_restore 36 = .ok (.aaload, 1) := by decide +kernel
theorem dX7_restore_37 : decode cX7_restore 37 = .ok (.invokevirtual 123, 3) := by decide +kernel
theorem dX7_restore_40 : decode cX7_restore 40 = .ok (.aload_n 0, 1) := by decide +kernel
theorem dX7_restore_41 : decode cX7_restore 41 = .ok (.getfield 32, 3) := by decide +kernel
theorem dX7_restore_44 : decode cX7_restore 44 = .ok (.invokevirtual 127, 3) := by decide +kernel
theorem dX7_restore_47 : decode cX7_restore 47 = .ok (.iconst 1, 1) := by decide +kernel
theorem dX7_restore_48 : decode cX7_restore 48 = .ok (.ireturn, 1) := by decide +kernel
set_option maxRecDepth 20000 in
theorem ggX7_kind_X7_isGuard : GoodIn wsX7_kind wsX7_isGuard := goodIn_r _ [8, 1, 9, 10, 11, 12, 13, 14, 15, 16, 17, 18, 19, 20, 21, 22, 23, 24, 25, 26] (by decide +kernel) (by decide +kernel)
set_option maxRecDepth 20000 in
theorem gX7_kind_X7_isGuard : GoodIn wsX7_kind (wsV RX7 187 RX7 yX7_isGuard wsX7_isGuard) := goodIn_app (goodIn_of _ (by decide +kernel)) ggX7_kind_X7_isGuard
theorem dX7_kind_0 : decode cX7_kind 0 = .ok (.aload_n 0, 1) := by decide +kernel
theorem dX7_kind_1 : decode cX7_kind 1 = .ok (.iload_n 1, 1) := by decide +kernel
theorem dX7_kind_2 : decode cX7_kind 2 = .ok (.invokevirtual 187, 3) := by decide +kernel
theorem dX7_kind_5 : decode cX7_kind 5 = .ok (.ifCond .eq 15, 3) := by decide +kernel
theorem dX7_kind_8 : decode cX7_kind 8 = .ok (.aload_n 0, 1) := by decide +kernel
theorem dX7_kind_9 : decode cX7_kind 9 = .ok (.getfield 25, 3) := by decide +kernel
theorem dX7_kind_12 : decode cX7_kind 12 = .ok (.getfield 278, 3) := by decide +kernel
theorem dX7_kind_15 : decode cX7_kind 15 = .ok (.iload_n 1, 1) := by decide +kernel
theorem dX7_kind_16 : decode cX7_kind 16 = .ok (.iaload, 1) := by decide +kernel
theorem dX7_kind_17 : decode cX7_kind 17 = .ok (.goto 5, 3) := by decide +kernel
theorem dX7_kind_20 : decode cX7_kind 20 = .ok (.ldc 59, 2) := by decide +kernel
theorem dX7_kind_22 : decode cX7_kind 22 = .ok (.ireturn, 1) := by decide +kernel
set_option maxRecDepth 20000 in
theorem ggX7_as_X7_isGuard : GoodIn wsX7_as wsX7_isGuard := goodIn_r _ [8, 2, 9, 25, 26, 27, 28, 29, 30, 31, 32, 33, 34, 35, 36, 37, 38, 39, 40, 41] (by decide +kernel) (by decide +kernel)
set_option maxRecDepth 20000 in
theorem gX7_as_X7_isGuard : GoodIn wsX7_as (wsV RX7 187 RX7 yX7_isGuard wsX7_isGuard) := goodIn_app (goodIn_of _ (by decide +kernel)) ggX7_as_X7_isGuard
set_option maxRecDepth 20000 in
theorem ggX7_as_X1_isA : GoodIn wsX7_as wsX1_isA := goodIn_r _ [13, 14] (by decide +kernel) (by decide +kernel)
set_option maxRecDepth 20000 in
theorem gX7_as_X1_isA : GoodIn wsX7_as (va_wsS RX7 307 yX1_isA wsX1_isA) := goodIn_app (goodIn_of _ (by decide +kernel)) ggX7_as_X1_isA
set_option maxRecDepth 20000 in
theorem ggX7_as_X7_unfound : GoodIn wsX7_as wsX7_unfound := goodIn_r _ [18, 19, 25, 26, 27, 28, 29, 30, 31, 32, 33] (by decide +kernel) (by decide +kernel)
set_option maxRecDepth 20000 in
theorem gX7_as_X7_unfound : GoodIn wsX7_as (wsV RX7 68 RX7 yX7_unfound wsX7_unfound) := goodIn_app (goodIn_of _ (by decide +kernel)) ggX7_as_X7_unfound
set_option maxRecDepth 20000 in
theorem ggX7_as_X7_found : GoodIn wsX7_as wsX7_found := goodIn_r _ [23, 19, 24, 25, 26, 27, 28, 29, 30, 31, 32, 33] (by decide +kernel) (by decide +kernel)
set_option maxRecDepth 20000 in
theorem gX7_as_X7_found : GoodIn wsX7_as (wsV RX7 60 RX7 yX7_found wsX7_found) := goodIn_app (goodIn_of _ (by decide +kernel)) ggX7_as_X7_found
theorem dX7_as_0 : decode cX7_as 0 = .ok (.aload_n 0, 1) := by decide +kernel
theorem dX7_as_1 : decode cX7_as 1 = .ok (.iload_n 1, 1) := by decide +kernel
theorem dX7_as_2 : decode cX7_as 2 = .ok (.invokevirtual 187, 3) := by decide +kernel
theorem dX7_as_5 : decode cX7_as 5 = .ok (.ifCond .eq 12, 3) := by decide +kernel
theorem dX7_as_8 : decode cX7_as 8 = .ok (.iload_n 2, 1) := by decide +kernel
theorem dX7_as_9 : decode cX7_as 9 = .ok (.ifCond .lt 8, 3) := by decide +kernel
theorem dX7_as_12 : decode cX7_as 12 = .ok (.iload_n 2, 1) := by decide +kernel
theorem dX7_as_13 : decode cX7_as 13 = .ok (.iconst 5, 1) := by decide +kernel
theorem dX7_as_14 : decode cX7_as 14 = .ok (.if_icmp .le 6, 3) := by decide +kernel
theorem dX7_as_17 : decode cX7_as 17 = .ok (.ldc 59, 2) := by decide +kernel
theorem dX7_as_19 : decode cX7_as 19 = .ok (.ireturn, 1) := by decide +kernel
theorem dX7_as_20 : decode cX7_as 20 = .ok (.aload_n 0, 1) := by decide +kernel
theorem dX7_as_21 : decode cX7_as 21 = .ok (.getfield 25, 3) := by decide +kernel
theorem dX7_as_24 : decode cX7_as 24 = .ok (.getfield 278, 3) := by decide +kernel
theorem dX7_as_27 : decode cX7_as 27 = .ok (.iload_n 1, 1) := by decide +kernel
theorem dX7_as_28 : decode cX7_as 28 = .ok (.iaload, 1) := by decide +kernel
theorem dX7_as_29 : decode cX7_as 29 = .ok (.iload_n 2, 1) := by decide +kernel
theorem dX7_as_30 : decode cX7_as 30 = .ok (.invokestatic 307, 3) := by decide +kernel
theorem dX7_as_33 : decode cX7_as 33 = .ok (.ifCond .eq 11, 3) := by decide +kernel
theorem dX7_as_36 : decode cX7_as 36 = .ok (.aload_n 0, 1) := by decide +kernel
theorem dX7_as_37 : decode cX7_as 37 = .ok (.iload_n 1, 1) := by decide +kernel
theorem dX7_as_38 : decode cX7_as 38 = .ok (.invokevirtual 68, 3) := by decide +kernel
theorem dX7_as_41 : decode cX7_as 41 = .ok (.goto 8, 3) := by decide +kernel
theorem dX7_as_44 : decode cX7_as 44 = .ok (.aload_n 0, 1) := by decide +kernel
theorem dX7_as_45 : decode cX7_as 45 = .ok (.iconst 3, 1) := by decide +kernel
theorem dX7_as_46 : decode cX7_as 46 = .ok (.invokevirtual 60, 3) := by decide +kernel
theorem dX7_as_49 : decode cX7_as 49 = .ok (.ireturn, 1) := by decide +kernel
set_option maxRecDepth 20000 in
theorem ggX7_ask_X7_isGuard : GoodIn wsX7_ask wsX7_isGuard := goodIn_r _ [12, 3, 13, 46, 47, 48, 49, 50, 51, 52, 53, 54, 55, 56, 57, 58, 59, 60, 61, 62] (by decide +kernel) (by decide +kernel)
set_option maxRecDepth 20000 in
theorem gX7_ask_X7_isGuard : GoodIn wsX7_ask (wsV RX7 187 RX7 yX7_isGuard wsX7_isGuard) := goodIn_app (goodIn_of _ (by decide +kernel)) ggX7_ask_X7_isGuard
set_option maxRecDepth 20000 in
theorem ggX7_ask_X1_turnTo : GoodIn wsX7_ask wsX1_turnTo := goodIn_r _ [18, 19, 20, 21, 22, 23, 71, 72, 73, 74, 75, 76] (by decide +kernel) (by decide +kernel)
set_option maxRecDepth 20000 in
theorem gX7_ask_X1_turnTo : GoodIn wsX7_ask (wsV RX7 310 RX1 yX1_turnTo wsX1_turnTo) := goodIn_app (goodIn_of _ (by decide +kernel)) ggX7_ask_X1_turnTo
set_option maxRecDepth 20000 in
theorem ggX7_ask_X1_answer : GoodIn wsX7_ask wsX1_answer := goodIn_r _ [27, 28, 29, 30, 17, 31, 32, 20, 33, 34, 35, 36, 37, 38, 39, 40, 21, 19, 22, 41, 42, 43, 44, 23, 45, 71, 72, 73, 74, 75, 76] (by decide +kernel) (by decide +kernel)
set_option maxRecDepth 20000 in
theorem gX7_ask_X1_answer : GoodIn wsX7_ask (wsV RX7 314 RX1 yX1_answer wsX1_answer) := goodIn_app (goodIn_of _ (by decide +kernel)) ggX7_ask_X1_answer
theorem dX7_ask_0 : decode cX7_ask 0 = .ok (.aload_n 0, 1) := by decide +kernel
theorem dX7_ask_1 : decode cX7_ask 1 = .ok (.iload_n 1, 1) := by decide +kernel
theorem dX7_ask_2 : decode cX7_ask 2 = .ok (.invokevirtual 187, 3) := by decide +kernel
theorem dX7_ask_5 : decode cX7_ask 5 = .ok (.ifCond .eq 12, 3) := by decide +kernel
theorem dX7_ask_8 : decode cX7_ask 8 = .ok (.iload_n 2, 1) := by decide +kernel
theorem dX7_ask_9 : decode cX7_ask 9 = .ok (.ifCond .lt 8, 3) := by decide +kernel
theorem dX7_ask_12 : decode cX7_ask 12 = .ok (.iload_n 2, 1) := by decide +kernel
theorem dX7_ask_13 : decode cX7_ask 13 = .ok (.iconst 1, 1) := by decide +kernel
theorem dX7_ask_14 : decode cX7_ask 14 = .ok (.if_icmp .le 6, 3) := by decide +kernel
theorem dX7_ask_17 : decode cX7_ask 17 = .ok (.ldc 59, 2) := by decide +kernel
theorem dX7_ask_19 : decode cX7_ask 19 = .ok (.ireturn, 1) := by decide +kernel
theorem dX7_ask_20 : decode cX7_ask 20 = .ok (.aload_n 0, 1) := by decide +kernel
theorem dX7_ask_21 : decode cX7_ask 21 = .ok (.getfield 50, 3) := by decide +kernel
theorem dX7_ask_24 : decode cX7_ask 24 = .ok (.iload_n 1, 1) := by decide +kernel
theorem dX7_ask_25 : decode cX7_ask 25 = .ok (.aload_n 0, 1) := by decide +kernel
theorem dX7_ask_26 : decode cX7_ask 26 = .ok (.getfield 25, 3) := by decide +kernel
theorem dX7_ask_29 : decode cX7_ask 29 = .ok (.getfield 278, 3) := by decide +kernel
theorem dX7_ask_32 : decode cX7_ask 32 = .ok (.iload_n 1, 1) := by decide +kernel
theorem dX7_ask_33 : decode cX7_ask 33 = .ok (.iaload, 1) := by decide +kernel
theorem dX7_ask_34 : decode cX7_ask 34 = .ok (.aload_n 0, 1) := by decide +kernel
theorem dX7_ask_35 : decode cX7_ask 35 = .ok (.getfield 25, 3) := by decide +kernel
theorem dX7_ask_38 : decode cX7_ask 38 = .ok (.getfield 209, 3) := by decide +kernel
theorem dX7_ask_41 : decode cX7_ask 41 = .ok (.iload_n 1, 1) := by decide +kernel
theorem dX7_ask_42 : decode cX7_ask 42 = .ok (.iaload, 1) := by decide +kernel
theorem dX7_ask_43 : decode cX7_ask 43 = .ok (.aload_n 0, 1) := by decide +kernel
theorem dX7_ask_44 : decode cX7_ask 44 = .ok (.getfield 25, 3) := by decide +kernel
theorem dX7_ask_47 : decode cX7_ask 47 = .ok (.getfield 137, 3) := by decide +kernel
theorem dX7_ask_50 : decode cX7_ask 50 = .ok (.getfield 212, 3) := by decide +kernel
theorem dX7_ask_53 : decode cX7_ask 53 = .ok (.iload_n 1, 1) := by decide +kernel
theorem dX7_ask_54 : decode cX7_ask 54 = .ok (.iaload, 1) := by decide +kernel
theorem dX7_ask_55 : decode cX7_ask 55 = .ok (.invokevirtual 310, 3) := by decide +kernel
theorem dX7_ask_58 : decode cX7_ask 58 = .ok (.aload_n 0, 1) := by decide +kernel
theorem dX7_ask_59 : decode cX7_ask 59 = .ok (.getfield 50, 3) := by decide +kernel
theorem dX7_ask_62 : decode cX7_ask 62 = .ok (.iload_n 2, 1) := by decide +kernel
theorem dX7_ask_63 : decode cX7_ask 63 = .ok (.invokevirtual 314, 3) := by decide +kernel
theorem dX7_ask_66 : decode cX7_ask 66 = .ok (.ireturn, 1) := by decide +kernel
theorem dX7_trace_0 : decode cX7_trace 0 = .ok (.iload_n 1, 1) := by decide +kernel
theorem dX7_trace_1 : decode cX7_trace 1 = .ok (.ifCond .lt 14, 3) := by decide +kernel
theorem dX7_trace_4 : decode cX7_trace 4 = .ok (.iload_n 1, 1) := by decide +kernel
theorem dX7_trace_5 : decode cX7_trace 5 = .ok (.aload_n 0, 1) := by decide +kernel
theorem dX7_trace_6 : decode cX7_trace 6 = .ok (.getfield 50, 3) := by decide +kernel
theorem dX7_trace_9 : decode cX7_trace 9 = .ok (.getfield 317, 3) := by decide +kernel
theorem dX7_trace_12 : decode cX7_trace 12 = .ok (.if_icmp .lt 8, 3) := by decide +kernel
theorem dX7_trace_15 : decode cX7_trace 15 = .ok (.ldc 175, 2) := by decide +kernel
theorem dX7_trace_17 : decode cX7_trace 17 = .ok (.goto 12, 3) := by decide +kernel
theorem dX7_trace_20 : decode cX7_trace 20 = .ok (.aload_n 0, 1) := by decide +kernel
theorem dX7_trace_21 : decode cX7_trace 21 = .ok (.getfield 50, 3) := by decide +kernel
theorem dX7_trace_24 : decode cX7_trace 24 = .ok (.getfield 320, 3) := by decide +kernel
theorem dX7_trace_27 : decode cX7_trace 27 = .ok (.iload_n 1, 1) := by decide +kernel
theorem dX7_trace_28 : decode cX7_trace 28 = .ok (.iaload, 1) := by decide +kernel
theorem dX7_trace_29 : decode cX7_trace 29 = .ok (.ireturn, 1) := by decide +kernel
set_option maxRecDepth 20000 in
theorem ggX7_count_X7_rowsThere : GoodIn wsX7_count wsX7_rowsThere := goodIn_r _ [18, 19, 20, 27, 28, 29, 30, 31, 32, 33, 34, 35, 62, 63, 64] (by decide +kernel) (by decide +kernel)
set_option maxRecDepth 20000 in
theorem gX7_count_X7_rowsThere : GoodIn wsX7_count (wsV RX7 323 RX7 yX7_rowsThere wsX7_rowsThere) := goodIn_app (goodIn_of _ (by decide +kernel)) ggX7_count_X7_rowsThere
set_option maxRecDepth 20000 in
theorem ggX7_count_X4_tookInAll : GoodIn wsX7_count wsX4_tookInAll := goodIn_r _ [25, 26, 44, 45, 46, 47, 48, 49, 50, 51] (by decide +kernel) (by decide +kernel)
set_option maxRecDepth 20000 in
theorem gX7_count_X4_tookInAll : GoodIn wsX7_count (wsV RX7 330 RX4 yX4_tookInAll wsX4_tookInAll) := goodIn_app (goodIn_of _ (by decide +kernel)) ggX7_count_X4_tookInAll
theorem dX7_count_0 : decode cX7_count 0 = .ok (.iload_n 1, 1) := by decide +kernel
theorem dX7_count_1 : decode cX7_count 1 = .ok (.tableswitch 147 0 9 #[55, 60, 68, 76, 87, 98, 109, 117, 125, 136], 55) := by decide +kernel
theorem dX7_count_56 : decode cX7_count 56 = .ok (.aload_n 0, 1) := by decide +kernel
theorem dX7_count_57 : decode cX7_count 57 = .ok (.invokevirtual 323, 3) := by decide +kernel
theorem dX7_count_60 : decode cX7_count 60 = .ok (.ireturn, 1) := by decide +kernel
theorem dX7_count_61 : decode cX7_count 61 = .ok (.aload_n 0, 1) := by decide +kernel
theorem dX7_count_62 : decode cX7_count 62 = .ok (.getfield 25, 3) := by decide +kernel
theorem dX7_count_65 : decode cX7_count 65 = .ok (.getfield 130, 3) := by decide +kernel
theorem dX7_count_68 : decode cX7_count 68 = .ok (.ireturn, 1) := by decide +kernel
theorem dX7_count_69 : decode cX7_count 69 = .ok (.aload_n 0, 1) := by decide +kernel
theorem dX7_count_70 : decode cX7_count 70 = .ok (.getfield 25, 3) := by decide +kernel
theorem dX7_count_73 : decode cX7_count 73 = .ok (.getfield 327, 3) := by decide +kernel
theorem dX7_count_76 : decode cX7_count 76 = .ok (.ireturn, 1) := by decide +kernel
theorem dX7_count_77 : decode cX7_count 77 = .ok (.aload_n 0, 1) := by decide +kernel
theorem dX7_count_78 : decode cX7_count 78 = .ok (.getfield 25, 3) := by decide +kernel
theorem dX7_count_81 : decode cX7_count 81 = .ok (.getfield 137, 3) := by decide +kernel
theorem dX7_count_84 : decode cX7_count 84 = .ok (.getfield 141, 3) := by decide +kernel
theorem dX7_count_87 : decode cX7_count 87 = .ok (.ireturn, 1) := by decide +kernel
theorem dX7_count_88 : decode cX7_count 88 = .ok (.aload_n 0, 1) := by decide +kernel
theorem dX7_count_89 : decode cX7_count 89 = .ok (.getfield 25, 3) := by decide +kernel
theorem dX7_count_92 : decode cX7_count 92 = .ok (.getfield 137, 3) := by decide +kernel
theorem dX7_count_95 : decode cX7_count 95 = .ok (.getfield 162, 3) := by decide +kernel
theorem dX7_count_98 : decode cX7_count 98 = .ok (.ireturn, 1) := by decide +kernel
theorem dX7_count_99 : decode cX7_count 99 = .ok (.aload_n 0, 1) := by decide +kernel
theorem dX7_count_100 : decode cX7_count 100 = .ok (.getfield 25, 3) := by decide +kernel
theorem dX7_count_103 : decode cX7_count 103 = .ok (.getfield 137, 3) := by decide +kernel
theorem dX7_count_106 : decode cX7_count 106 = .ok (.getfield 190, 3) := by decide +kernel
theorem dX7_count_109 : decode cX7_count 109 = .ok (.ireturn, 1) := by decide +kernel
theorem dX7_count_110 : decode cX7_count 110 = .ok (.aload_n 0, 1) := by decide +kernel
theorem dX7_count_111 : decode cX7_count 111 = .ok (.getfield 32, 3) := by decide +kernel
theorem dX7_count_114 : decode cX7_count 114 = .ok (.getfield 197, 3) := by decide +kernel
theorem dX7_count_117 : decode cX7_count 117 = .ok (.ireturn, 1) := by decide +kernel
theorem dX7_count_118 : decode cX7_count 118 = .ok (.aload_n 0, 1) := by decide +kernel
theorem dX7_count_119 : decode cX7_count 119 = .ok (.getfield 18, 3) := by decide +kernel
theorem dX7_count_122 : decode cX7_count 122 = .ok (.getfield 102, 3) := by decide +kernel
theorem dX7_count_125 : decode cX7_count 125 = .ok (.ireturn, 1) := by decide +kernel
theorem dX7_count_126 : decode cX7_count 126 = .ok (.aload_n 0, 1) := by decide +kernel
theorem dX7_count_127 : decode cX7_count 127 = .ok (.getfield 25, 3) := by decide +kernel
theorem dX7_count_130 : decode cX7_count 130 = .ok (.getfield 137, 3) := by decide +kernel
theorem dX7_count_133 : decode cX7_count 133 = .ok (.getfield 184, 3) := by decide +kernel
theorem dX7_count_136 : decode cX7_count 136 = .ok (.ireturn, 1) := by decide +kernel
theorem dX7_count_137 : decode cX7_count 137 = .ok (.aload_n 0, 1) := by decide +kernel
theorem dX7_count_138 : decode cX7_count 138 = .ok (.getfield 25, 3) := by decide +kernel
theorem dX7_count_141 : decode cX7_count 141 = .ok (.getfield 137, 3) := by decide +kernel
theorem dX7_count_144 : decode cX7_count 144 = .ok (.invokevirtual 330, 3) := by decide +kernel
theorem dX7_count_147 : decode cX7_count 147 = .ok (.ireturn, 1) := by decide +kernel
theorem dX7_count_148 : decode cX7_count 148 = .ok (.ldc 59, 2) := by decide +kernel
theorem dX7_count_150 : decode cX7_count 150 = .ok (.ireturn, 1) := by decide +kernel
theorem dX7_status_0 : decode cX7_status 0 = .ok (.aload_n 0, 1) := by decide +kernel
theorem dX7_status_1 : decode cX7_status 1 = .ok (.getfield 333, 3) := by decide +kernel
theorem dX7_status_4 : decode cX7_status 4 = .ok (.ireturn, 1) := by decide +kernel
theorem dX7_found_0 : decode cX7_found 0 = .ok (.aload_n 0, 1) := by decide +kernel
theorem dX7_found_1 : decode cX7_found 1 = .ok (.iload_n 1, 1) := by decide +kernel
theorem dX7_found_2 : decode cX7_found 2 = .ok (.putfield 333, 3) := by decide +kernel
theorem dX7_found_5 : decode cX7_found 5 = .ok (.ldc_w 336, 3) := by decide +kernel
theorem dX7_found_8 : decode cX7_found 8 = .ok (.iload_n 1, 1) := by decide +kernel
theorem dX7_found_9 : decode cX7_found 9 = .ok (.isub, 1) := by decide +kernel
theorem dX7_found_10 : decode cX7_found 10 = .ok (.ireturn, 1) := by decide +kernel
theorem dX7_unfound_0 : decode cX7_unfound 0 = .ok (.aload_n 0, 1) := by decide +kernel
theorem dX7_unfound_1 : decode cX7_unfound 1 = .ok (.iconst 0, 1) := by decide +kernel
theorem dX7_unfound_2 : decode cX7_unfound 2 = .ok (.putfield 333, 3) := by decide +kernel
theorem dX7_unfound_5 : decode cX7_unfound 5 = .ok (.iload_n 1, 1) := by decide +kernel
theorem dX7_unfound_6 : decode cX7_unfound 6 = .ok (.ireturn, 1) := by decide +kernel
theorem dX7_noGate_0 : decode cX7_noGate 0 = .ok (.aload_n 0, 1) := by decide +kernel
theorem dX7_noGate_1 : decode cX7_noGate 1 = .ok (.getfield 25, 3) := by decide +kernel
theorem dX7_noGate_4 : decode cX7_noGate 4 = .ok (.getfield 130, 3) := by decide +kernel
theorem dX7_noGate_7 : decode cX7_noGate 7 = .ok (.ifCond .ne 7, 3) := by decide +kernel
theorem dX7_noGate_10 : decode cX7_noGate 10 = .ok (.iconst 1, 1) := by decide +kernel
theorem dX7_noGate_11 : decode cX7_noGate 11 = .ok (.goto 4, 3) := by decide +kernel
theorem dX7_noGate_14 : decode cX7_noGate 14 = .ok (.iconst 0, 1) := by decide +kernel
theorem dX7_noGate_15 : decode cX7_noGate 15 = .ok (.ireturn, 1) := by decide +kernel
theorem dX7_isRow_0 : decode cX7_isRow 0 = .ok (.iload_n 1, 1) := by decide +kernel
theorem dX7_isRow_1 : decode cX7_isRow 1 = .ok (.ifCond .lt 13, 3) := by decide +kernel
theorem dX7_isRow_4 : decode cX7_isRow 4 = .ok (.iload_n 1, 1) := by decide +kernel
theorem dX7_isRow_5 : decode cX7_isRow 5 = .ok (.bipush 8, 2) := by decide +kernel
theorem dX7_isRow_7 : decode cX7_isRow 7 = .ok (.if_icmp .ge 7, 3) := by decide +kernel
theorem dX7_isRow_10 : decode cX7_isRow 10 = .ok (.iconst 1, 1) := by decide +kernel
theorem dX7_isRow_11 : decode cX7_isRow 11 = .ok (.goto 4, 3) := by decide +kernel
theorem dX7_isRow_14 : decode cX7_isRow 14 = .ok (.iconst 0, 1) := by decide +kernel
theorem dX7_isRow_15 : decode cX7_isRow 15 = .ok (.ireturn, 1) := by decide +kernel
theorem dX7_isWord_0 : decode cX7_isWord 0 = .ok (.iload_n 1, 1) := by decide +kernel
theorem dX7_isWord_1 : decode cX7_isWord 1 = .ok (.ifCond .lt 18, 3) := by decide +kernel
theorem dX7_isWord_4 : decode cX7_isWord 4 = .ok (.iload_n 1, 1) := by decide +kernel
theorem dX7_isWord_5 : decode cX7_isWord 5 = .ok (.aload_n 0, 1) := by decide +kernel
theorem dX7_isWord_6 : decode cX7_isWord 6 = .ok (.getfield 25, 3) := by decide +kernel
theorem dX7_isWord_9 : decode cX7_isWord 9 = .ok (.getfield 130, 3) := by decide +kernel
theorem dX7_isWord_12 : decode cX7_isWord 12 = .ok (.if_icmp .ge 7, 3) := by decide +kernel
theorem dX7_isWord_15 : decode cX7_isWord 15 = .ok (.iconst 1, 1) := by decide +kernel
theorem dX7_isWord_16 : decode cX7_isWord 16 = .ok (.goto 4, 3) := by decide +kernel
theorem dX7_isWord_19 : decode cX7_isWord 19 = .ok (.iconst 0, 1) := by decide +kernel
theorem dX7_isWord_20 : decode cX7_isWord 20 = .ok (.ireturn, 1) := by decide +kernel
theorem dX7_areWords_0 : decode cX7_areWords 0 = .ok (.iload_n 1, 1) := by decide +kernel
theorem dX7_areWords_1 : decode cX7_areWords 1 = .ok (.ifCond .lt 20, 3) := by decide +kernel
theorem dX7_areWords_4 : decode cX7_areWords 4 = .ok (.iload_n 1, 1) := by decide +kernel
theorem dX7_areWords_5 : decode cX7_areWords 5 = .ok (.iconst 1, 1) := by decide +kernel
theorem dX7_areWords_6 : decode cX7_areWords 6 = .ok (.aload_n 0, 1) := by decide +kernel
theorem dX7_areWords_7 : decode cX7_areWords 7 = .ok (.getfield 25, 3) := by decide +kernel
theorem dX7_areWords_10 : decode cX7_areWords 10 = .ok (.getfield 130, 3) := by decide +kernel
theorem dX7_areWords_13 : decode cX7_areWords 13 = .ok (.ishl, 1) := by decide +kernel
theorem dX7_areWords_14 : decode cX7_areWords 14 = .ok (.if_icmp .ge 7, 3) := by decide +kernel
theorem dX7_areWords_17 : decode cX7_areWords 17 = .ok (.iconst 1, 1) := by decide +kernel
theorem dX7_areWords_18 : decode cX7_areWords 18 = .ok (.goto 4, 3) := by decide +kernel
theorem dX7_areWords_21 : decode cX7_areWords 21 = .ok (.iconst 0, 1) := by decide +kernel
theorem dX7_areWords_22 : decode cX7_areWords 22 = .ok (.ireturn, 1) := by decide +kernel
theorem dX7_isGuard_0 : decode cX7_isGuard 0 = .ok (.iload_n 1, 1) := by decide +kernel
theorem dX7_isGuard_1 : decode cX7_isGuard 1 = .ok (.ifCond .lt 18, 3) := by decide +kernel
theorem dX7_isGuard_4 : decode cX7_isGuard 4 = .ok (.iload_n 1, 1) := by decide +kernel
theorem dX7_isGuard_5 : decode cX7_isGuard 5 = .ok (.aload_n 0, 1) := by decide +kernel
theorem dX7_isGuard_6 : decode cX7_isGuard 6 = .ok (.getfield 25, 3) := by decide +kernel
theorem dX7_isGuard_9 : decode cX7_isGuard 9 = .ok (.getfield 327, 3) := by decide +kernel
theorem dX7_isGuard_12 : decode cX7_isGuard 12 = .ok (.if_icmp .ge 7, 3) := by decide +kernel
theorem dX7_isGuard_15 : decode cX7_isGuard 15 = .ok (.iconst 1, 1) := by decide +kernel
theorem dX7_isGuard_16 : decode cX7_isGuard 16 = .ok (.goto 4, 3) := by decide +kernel
theorem dX7_isGuard_19 : decode cX7_isGuard 19 = .ok (.iconst 0, 1) := by decide +kernel
theorem dX7_isGuard_20 : decode cX7_isGuard 20 = .ok (.ireturn, 1) := by decide +kernel
theorem dX7_isHour_0 : decode cX7_isHour 0 = .ok (.iload_n 1, 1) := by decide +kernel
theorem dX7_isHour_1 : decode cX7_isHour 1 = .ok (.ifCond .lt 13, 3) := by decide +kernel
theorem dX7_isHour_4 : decode cX7_isHour 4 = .ok (.iload_n 1, 1) := by decide +kernel
theorem dX7_isHour_5 : decode cX7_isHour 5 = .ok (.bipush 6, 2) := by decide +kernel
theorem dX7_isHour_7 : decode cX7_isHour 7 = .ok (.if_icmp .ge 7, 3) := by decide +kernel
theorem dX7_isHour_10 : decode cX7_isHour 10 = .ok (.iconst 1, 1) := by decide +kernel
theorem dX7_isHour_11 : decode cX7_isHour 11 = .ok (.goto 4, 3) := by decide +kernel
theorem dX7_isHour_14 : decode cX7_isHour 14 = .ok (.iconst 0, 1) := by decide +kernel
theorem dX7_isHour_15 : decode cX7_isHour 15 = .ok (.ireturn, 1) := by decide +kernel
theorem dX7_isAhead_0 : decode cX7_isAhead 0 = .ok (.iload_n 1, 1) := by decide +kernel
theorem dX7_isAhead_1 : decode cX7_isAhead 1 = .ok (.ifCond .lt 13, 3) := by decide +kernel
theorem dX7_isAhead_4 : decode cX7_isAhead 4 = .ok (.iload_n 1, 1) := by decide +kernel
theorem dX7_isAhead_5 : decode cX7_isAhead 5 = .ok (.bipush 60, 2) := by decide +kernel
theorem dX7_isAhead_7 : decode cX7_isAhead 7 = .ok (.if_icmp .gt 7, 3) := by decide +kernel
theorem dX7_isAhead_10 : decode cX7_isAhead 10 = .ok (.iconst 1, 1) := by decide +kernel
theorem dX7_isAhead_11 : decode cX7_isAhead 11 = .ok (.goto 4, 3) := by decide +kernel
theorem dX7_isAhead_14 : decode cX7_isAhead 14 = .ok (.iconst 0, 1) := by decide +kernel
theorem dX7_isAhead_15 : decode cX7_isAhead 15 = .ok (.ireturn, 1) := by decide +kernel
theorem dX7_rowsThere_0 : decode cX7_rowsThere 0 = .ok (.iconst 0, 1) := by decide +kernel
theorem dX7_rowsThere_1 : decode cX7_rowsThere 1 = .ok (.istore_n 1, 1) := by decide +kernel
theorem dX7_rowsThere_2 : decode cX7_rowsThere 2 = .ok (.iconst 0, 1) := by decide +kernel
theorem dX7_rowsThere_3 : decode cX7_rowsThere 3 = .ok (.istore_n 2, 1) := by decide +kernel
theorem dX7_rowsThere_4 : decode cX7_rowsThere 4 = .ok (.iload_n 2, 1) := by decide +kernel
theorem dX7_rowsThere_5 : decode cX7_rowsThere 5 = .ok (.bipush 8, 2) := by decide +kernel
theorem dX7_rowsThere_7 : decode cX7_rowsThere 7 = .ok (.if_icmp .ge 25, 3) := by decide +kernel
theorem dX7_rowsThere_10 : decode cX7_rowsThere 10 = .ok (.aload_n 0, 1) := by decide +kernel
theorem dX7_rowsThere_11 : decode cX7_rowsThere 11 = .ok (.getfield 11, 3) := by decide +kernel
theorem dX7_rowsThere_14 : decode cX7_rowsThere 14 = .ok (.iload_n 2, 1) := by decide +kernel
theorem dX7_rowsThere_15 : decode cX7_rowsThere 15 = .ok (.aaload, 1) := by decide +kernel
theorem dX7_rowsThere_16 : decode cX7_rowsThere 16 = .ok (.getfield 78, 3) := by decide +kernel
theorem dX7_rowsThere_19 : decode cX7_rowsThere 19 = .ok (.iconst (-1), 1) := by decide +kernel
theorem dX7_rowsThere_20 : decode cX7_rowsThere 20 = .ok (.if_icmp .eq 6, 3) := by decide +kernel
theorem dX7_rowsThere_23 : decode cX7_rowsThere 23 = .ok (.iinc 1 1, 3) := by decide +kernel
theorem dX7_rowsThere_26 : decode cX7_rowsThere 26 = .ok (.iinc 2 1, 3) := by decide +kernel
theorem dX7_rowsThere_29 : decode cX7_rowsThere 29 = .ok (.goto (-25), 3) := by decide +kernel
theorem dX7_rowsThere_32 : decode cX7_rowsThere 32 = .ok (.iload_n 1, 1) := by decide +kernel
theorem dX7_rowsThere_33 : decode cX7_rowsThere 33 = .ok (.ireturn, 1) := by decide +kernel
set_option maxRecDepth 20000 in
theorem ggX7_hourOfLast_X7_isWord : GoodIn wsX7_hourOfLast wsX7_isWord := goodIn_r _ [8, 2, 9, 67, 68, 69, 70, 71, 72, 73, 74, 75, 76, 77, 78, 79, 80, 81, 82, 83] (by decide +kernel) (by decide +kernel)
set_option maxRecDepth 20000 in
theorem gX7_hourOfLast_X7_isWord : GoodIn wsX7_hourOfLast (wsV RX7 156 RX7 yX7_isWord wsX7_isWord) := goodIn_app (goodIn_of _ (by decide +kernel)) ggX7_hourOfLast_X7_isWord
set_option maxRecDepth 20000 in
theorem ggX7_hourOfLast_X2_hourIn : GoodIn wsX7_hourOfLast wsX2_hourIn := goodIn_r _ [14, 15, 16, 17, 18, 13, 19, 20, 21, 22, 23, 24, 25, 26, 27, 28, 29, 30, 31, 32, 33, 34, 7, 35, 36, 37, 38, 39, 40, 41, 42, 43, 44, 45, 46, 47, 48, 49, 50, 51, 52, 53, 54, 55, 56, 57, 58, 59, 60, 61, 62, 63, 76, 77, 78, 79, 80, 81, 82, 83, 84, 85, 86, 87, 88, 89, 90, 91] (by decide +kernel) (by decide +kernel)
set_option maxRecDepth 20000 in
theorem gX7_hourOfLast_X2_hourIn : GoodIn wsX7_hourOfLast (wsV RX7 337 RX2 yX2_hourIn wsX2_hourIn) := goodIn_app (goodIn_of _ (by decide +kernel)) ggX7_hourOfLast_X2_hourIn
theorem dX7_hourOfLast_0 : decode cX7_hourOfLast 0 = .ok (.iconst (-1), 1) := by decide +kernel
theorem dX7_hourOfLast_1 : decode cX7_hourOfLast 1 = .ok (.istore 4, 2) := by decide +kernel
theorem dX7_hourOfLast_3 : decode cX7_hourOfLast 3 = .ok (.iconst 0, 1) := by decide +kernel
theorem dX7_hourOfLast_4 : decode cX7_hourOfLast 4 = .ok (.istore 5, 2) := by decide +kernel
theorem dX7_hourOfLast_6 : decode cX7_hourOfLast 6 = .ok (.iload 5, 2) := by decide +kernel
theorem dX7_hourOfLast_8 : decode cX7_hourOfLast 8 = .ok (.iload_n 3, 1) := by decide +kernel
theorem dX7_hourOfLast_9 : decode cX7_hourOfLast 9 = .ok (.if_icmp .ge 59, 3) := by decide +kernel
theorem dX7_hourOfLast_12 : decode cX7_hourOfLast 12 = .ok (.aload_n 1, 1) := by decide +kernel
theorem dX7_hourOfLast_13 : decode cX7_hourOfLast 13 = .ok (.getfield 86, 3) := by decide +kernel
theorem dX7_hourOfLast_16 : decode cX7_hourOfLast 16 = .ok (.iload_n 2, 1) := by decide +kernel
theorem dX7_hourOfLast_17 : decode cX7_hourOfLast 17 = .ok (.iload 5, 2) := by decide +kernel
theorem dX7_hourOfLast_19 : decode cX7_hourOfLast 19 = .ok (.iadd, 1) := by decide +kernel
theorem dX7_hourOfLast_20 : decode cX7_hourOfLast 20 = .ok (.iaload, 1) := by decide +kernel
theorem dX7_hourOfLast_21 : decode cX7_hourOfLast 21 = .ok (.istore 6, 2) := by decide +kernel
theorem dX7_hourOfLast_23 : decode cX7_hourOfLast 23 = .ok (.aload_n 0, 1) := by decide +kernel
theorem dX7_hourOfLast_24 : decode cX7_hourOfLast 24 = .ok (.iload 6, 2) := by decide +kernel
theorem dX7_hourOfLast_26 : decode cX7_hourOfLast 26 = .ok (.invokevirtual 156, 3) := by decide +kernel
theorem dX7_hourOfLast_29 : decode cX7_hourOfLast 29 = .ok (.ifCond .eq 19, 3) := by decide +kernel
theorem dX7_hourOfLast_32 : decode cX7_hourOfLast 32 = .ok (.aload_n 0, 1) := by decide +kernel
theorem dX7_hourOfLast_33 : decode cX7_hourOfLast 33 = .ok (.getfield 25, 3) := by decide +kernel
theorem dX7_hourOfLast_36 : decode cX7_hourOfLast 36 = .ok (.iload 6, 2) := by decide +kernel
theorem dX7_hourOfLast_38 : decode cX7_hourOfLast 38 = .ok (.iload 4, 2) := by decide +kernel
theorem dX7_hourOfLast_40 : decode cX7_hourOfLast 40 = .ok (.iconst 1, 1) := by decide +kernel
theorem dX7_hourOfLast_41 : decode cX7_hourOfLast 41 = .ok (.iadd, 1) := by decide +kernel
theorem dX7_hourOfLast_42 : decode cX7_hourOfLast 42 = .ok (.invokevirtual 337, 3) := by decide +kernel
theorem dX7_hourOfLast_45 : decode cX7_hourOfLast 45 = .ok (.goto 5, 3) := by decide +kernel
theorem dX7_hourOfLast_48 : decode cX7_hourOfLast 48 = .ok (.ldc 175, 2) := by decide +kernel
theorem dX7_hourOfLast_50 : decode cX7_hourOfLast 50 = .ok (.istore 4, 2) := by decide +kernel
theorem dX7_hourOfLast_52 : decode cX7_hourOfLast 52 = .ok (.iload 4, 2) := by decide +kernel
theorem dX7_hourOfLast_54 : decode cX7_hourOfLast 54 = .ok (.ldc 175, 2) := by decide +kernel
theorem dX7_hourOfLast_56 : decode cX7_hourOfLast 56 = .ok (.if_icmp .ne 6, 3) := by decide +kernel
theorem dX7_hourOfLast_59 : decode cX7_hourOfLast 59 = .ok (.ldc 175, 2) := by decide +kernel
theorem dX7_hourOfLast_61 : decode cX7_hourOfLast 61 = .ok (.ireturn, 1) := by decide +kernel
theorem dX7_hourOfLast_62 : decode cX7_hourOfLast 62 = .ok (.iinc 5 1, 3) := by decide +kernel
theorem dX7_hourOfLast_65 : decode cX7_hourOfLast 65 = .ok (.goto (-59), 3) := by decide +kernel
theorem dX7_hourOfLast_68 : decode cX7_hourOfLast 68 = .ok (.iload 4, 2) := by decide +kernel
theorem dX7_hourOfLast_70 : decode cX7_hourOfLast 70 = .ok (.ireturn, 1) := by decide +kernel
set_option maxRecDepth 20000 in
theorem ggX7_rulesThatTell_X2_secretBy : GoodIn wsX7_rulesThatTell wsX2_secretBy := goodIn_r _ [12, 13, 14, 15, 16, 29, 30, 31, 32, 33, 34, 35, 36] (by decide +kernel) (by decide +kernel)
set_option maxRecDepth 20000 in
theorem gX7_rulesThatTell_X2_secretBy : GoodIn wsX7_rulesThatTell (wsV RX7 346 RX2 yX2_secretBy wsX2_secretBy) := goodIn_app (goodIn_of _ (by decide +kernel)) ggX7_rulesThatTell_X2_secretBy
set_option maxRecDepth 20000 in
theorem ggX7_rulesThatTell_X7_bit : GoodIn wsX7_rulesThatTell wsX7_bit := goodIn_r _ [19] (by decide +kernel) (by decide +kernel)
set_option maxRecDepth 20000 in
theorem gX7_rulesThatTell_X7_bit : GoodIn wsX7_rulesThatTell (va_wsS RX7 180 yX7_bit wsX7_bit) := goodIn_app (goodIn_of _ (by decide +kernel)) ggX7_rulesThatTell_X7_bit
theorem dX7_rulesThatTell_0 : decode cX7_rulesThatTell 0 = .ok (.iload 4, 2) := by decide +kernel
theorem dX7_rulesThatTell_2 : decode cX7_rulesThatTell 2 = .ok (.iconst 2, 1) := by decide +kernel
theorem dX7_rulesThatTell_3 : decode cX7_rulesThatTell 3 = .ok (.if_icmp .ne 8, 3) := by decide +kernel
theorem dX7_rulesThatTell_6 : decode cX7_rulesThatTell 6 = .ok (.bipush 6, 2) := by decide +kernel
theorem dX7_rulesThatTell_8 : decode cX7_rulesThatTell 8 = .ok (.goto 16, 3) := by decide +kernel
theorem dX7_rulesThatTell_11 : decode cX7_rulesThatTell 11 = .ok (.iload 4, 2) := by decide +kernel
theorem dX7_rulesThatTell_13 : decode cX7_rulesThatTell 13 = .ok (.iconst 1, 1) := by decide +kernel
theorem dX7_rulesThatTell_14 : decode cX7_rulesThatTell 14 = .ok (.if_icmp .ne 8, 3) := by decide +kernel
theorem dX7_rulesThatTell_17 : decode cX7_rulesThatTell 17 = .ok (.bipush 9, 2) := by decide +kernel
theorem dX7_rulesThatTell_19 : decode cX7_rulesThatTell 19 = .ok (.goto 5, 3) := by decide +kernel
theorem dX7_rulesThatTell_22 : decode cX7_rulesThatTell 22 = .ok (.bipush 9, 2) := by decide +kernel
theorem dX7_rulesThatTell_24 : decode cX7_rulesThatTell 24 = .ok (.istore 5, 2) := by decide +kernel
theorem dX7_rulesThatTell_26 : decode cX7_rulesThatTell 26 = .ok (.iconst 0, 1) := by decide +kernel
theorem dX7_rulesThatTell_27 : decode cX7_rulesThatTell 27 = .ok (.istore 6, 2) := by decide +kernel
theorem dX7_rulesThatTell_29 : decode cX7_rulesThatTell 29 = .ok (.iconst 0, 1) := by decide +kernel
theorem dX7_rulesThatTell_30 : decode cX7_rulesThatTell 30 = .ok (.istore 7, 2) := by decide +kernel
theorem dX7_rulesThatTell_32 : decode cX7_rulesThatTell 32 = .ok (.iload 7, 2) := by decide +kernel
theorem dX7_rulesThatTell_34 : decode cX7_rulesThatTell 34 = .ok (.iload 5, 2) := by decide +kernel
theorem dX7_rulesThatTell_36 : decode cX7_rulesThatTell 36 = .ok (.if_icmp .gt 152, 3) := by decide +kernel
theorem dX7_rulesThatTell_39 : decode cX7_rulesThatTell 39 = .ok (.iload 4, 2) := by decide +kernel
theorem dX7_rulesThatTell_41 : decode cX7_rulesThatTell 41 = .ok (.ifCond .ne 8, 3) := by decide +kernel
theorem dX7_rulesThatTell_44 : decode cX7_rulesThatTell 44 = .ok (.iload 7, 2) := by decide +kernel
theorem dX7_rulesThatTell_46 : decode cX7_rulesThatTell 46 = .ok (.goto 13, 3) := by decide +kernel
theorem dX7_rulesThatTell_49 : decode cX7_rulesThatTell 49 = .ok (.aload_n 0, 1) := by decide +kernel
theorem dX7_rulesThatTell_50 : decode cX7_rulesThatTell 50 = .ok (.getfield 25, 3) := by decide +kernel
theorem dX7_rulesThatTell_53 : decode cX7_rulesThatTell 53 = .ok (.getfield 137, 3) := by decide +kernel
theorem dX7_rulesThatTell_56 : decode cX7_rulesThatTell 56 = .ok (.getfield 184, 3) := by decide +kernel
theorem dX7_rulesThatTell_59 : decode cX7_rulesThatTell 59 = .ok (.istore 8, 2) := by decide +kernel
theorem dX7_rulesThatTell_61 : decode cX7_rulesThatTell 61 = .ok (.iload 4, 2) := by decide +kernel
theorem dX7_rulesThatTell_63 : decode cX7_rulesThatTell 63 = .ok (.iconst 1, 1) := by decide +kernel
theorem dX7_rulesThatTell_64 : decode cX7_rulesThatTell 64 = .ok (.if_icmp .ne 8, 3) := by decide +kernel
theorem dX7_rulesThatTell_67 : decode cX7_rulesThatTell 67 = .ok (.iload 7, 2) := by decide +kernel
theorem dX7_rulesThatTell_69 : decode cX7_rulesThatTell 69 = .ok (.goto 10, 3) := by decide +kernel
theorem dX7_rulesThatTell_72 : decode cX7_rulesThatTell 72 = .ok (.aload_n 0, 1) := by decide +kernel
theorem dX7_rulesThatTell_73 : decode cX7_rulesThatTell 73 = .ok (.getfield 25, 3) := by decide +kernel
theorem dX7_rulesThatTell_76 : decode cX7_rulesThatTell 76 = .ok (.getfield 340, 3) := by decide +kernel
theorem dX7_rulesThatTell_79 : decode cX7_rulesThatTell 79 = .ok (.istore 9, 2) := by decide +kernel
theorem dX7_rulesThatTell_81 : decode cX7_rulesThatTell 81 = .ok (.iload 4, 2) := by decide +kernel
theorem dX7_rulesThatTell_83 : decode cX7_rulesThatTell 83 = .ok (.iconst 2, 1) := by decide +kernel
theorem dX7_rulesThatTell_84 : decode cX7_rulesThatTell 84 = .ok (.if_icmp .ne 8, 3) := by decide +kernel
theorem dX7_rulesThatTell_87 : decode cX7_rulesThatTell 87 = .ok (.iload 7, 2) := by decide +kernel
theorem dX7_rulesThatTell_89 : decode cX7_rulesThatTell 89 = .ok (.goto 10, 3) := by decide +kernel
theorem dX7_rulesThatTell_92 : decode cX7_rulesThatTell 92 = .ok (.aload_n 0, 1) := by decide +kernel
theorem dX7_rulesThatTell_93 : decode cX7_rulesThatTell 93 = .ok (.getfield 25, 3) := by decide +kernel
theorem dX7_rulesThatTell_96 : decode cX7_rulesThatTell 96 = .ok (.getfield 343, 3) := by decide +kernel
theorem dX7_rulesThatTell_99 : decode cX7_rulesThatTell 99 = .ok (.istore 10, 2) := by decide +kernel
theorem dX7_rulesThatTell_101 : decode cX7_rulesThatTell 101 = .ok (.iconst 1, 1) := by decide +kernel
theorem dX7_rulesThatTell_102 : decode cX7_rulesThatTell 102 = .ok (.istore 11, 2) := by decide +kernel
theorem dX7_rulesThatTell_104 : decode cX7_rulesThatTell 104 = .ok (.iconst 0, 1) := by decide +kernel
theorem dX7_rulesThatTell_105 : decode cX7_rulesThatTell 105 = .ok (.istore 12, 2) := by decide +kernel
theorem dX7_rulesThatTell_107 : decode cX7_rulesThatTell 107 = .ok (.iload 12, 2) := by decide +kernel
theorem dX7_rulesThatTell_109 : decode cX7_rulesThatTell 109 = .ok (.iload_n 3, 1) := by decide +kernel
theorem dX7_rulesThatTell_110 : decode cX7_rulesThatTell 110 = .ok (.if_icmp .ge 59, 3) := by decide +kernel
theorem dX7_rulesThatTell_113 : decode cX7_rulesThatTell 113 = .ok (.iload 11, 2) := by decide +kernel
theorem dX7_rulesThatTell_115 : decode cX7_rulesThatTell 115 = .ok (.ifCond .eq 54, 3) := by decide +kernel
theorem dX7_rulesThatTell_118 : decode cX7_rulesThatTell 118 = .ok (.aload_n 0, 1) := by decide +kernel
theorem dX7_rulesThatTell_119 : decode cX7_rulesThatTell 119 = .ok (.getfield 25, 3) := by decide +kernel
theorem dX7_rulesThatTell_122 : decode cX7_rulesThatTell 122 = .ok (.iload 8, 2) := by decide +kernel
theorem dX7_rulesThatTell_124 : decode cX7_rulesThatTell 124 = .ok (.iload 9, 2) := by decide +kernel
theorem dX7_rulesThatTell_126 : decode cX7_rulesThatTell 126 = .ok (.iload 10, 2) := by decide +kernel
theorem dX7_rulesThatTell_128 : decode cX7_rulesThatTell 128 = .ok (.aload_n 0, 1) := by decide +kernel
theorem dX7_rulesThatTell_129 : decode cX7_rulesThatTell 129 = .ok (.getfield 25, 3) := by decide +kernel
theorem dX7_rulesThatTell_132 : decode cX7_rulesThatTell 132 = .ok (.getfield 137, 3) := by decide +kernel
theorem dX7_rulesThatTell_135 : decode cX7_rulesThatTell 135 = .ok (.getfield 141, 3) := by decide +kernel
theorem dX7_rulesThatTell_138 : decode cX7_rulesThatTell 138 = .ok (.iload 12, 2) := by decide +kernel
theorem dX7_rulesThatTell_140 : decode cX7_rulesThatTell 140 = .ok (.iadd, 1) := by decide +kernel
theorem dX7_rulesThatTell_141 : decode cX7_rulesThatTell 141 = .ok (.invokevirtual 346, 3) := by decide +kernel
theorem dX7_rulesThatTell_144 : decode cX7_rulesThatTell 144 = .ok (.aload_n 1, 1) := by decide +kernel
theorem dX7_rulesThatTell_145 : decode cX7_rulesThatTell 145 = .ok (.getfield 86, 3) := by decide +kernel
theorem dX7_rulesThatTell_148 : decode cX7_rulesThatTell 148 = .ok (.iload_n 2, 1) := by decide +kernel
theorem dX7_rulesThatTell_149 : decode cX7_rulesThatTell 149 = .ok (.iload 12, 2) := by decide +kernel
theorem dX7_rulesThatTell_151 : decode cX7_rulesThatTell 151 = .ok (.iadd, 1) := by decide +kernel
theorem dX7_rulesThatTell_152 : decode cX7_rulesThatTell 152 = .ok (.iaload, 1) := by decide +kernel
theorem dX7_rulesThatTell_153 : decode cX7_rulesThatTell 153 = .ok (.if_icmp .ne 7, 3) := by decide +kernel
theorem dX7_rulesThatTell_156 : decode cX7_rulesThatTell 156 = .ok (.iconst 1, 1) := by decide +kernel
theorem dX7_rulesThatTell_157 : decode cX7_rulesThatTell 157 = .ok (.goto 4, 3) := by decide +kernel
theorem dX7_rulesThatTell_160 : decode cX7_rulesThatTell 160 = .ok (.iconst 0, 1) := by decide +kernel
theorem dX7_rulesThatTell_161 : decode cX7_rulesThatTell 161 = .ok (.istore 11, 2) := by decide +kernel
theorem dX7_rulesThatTell_163 : decode cX7_rulesThatTell 163 = .ok (.iinc 12 1, 3) := by decide +kernel
theorem dX7_rulesThatTell_166 : decode cX7_rulesThatTell 166 = .ok (.goto (-59), 3) := by decide +kernel
theorem dX7_rulesThatTell_169 : decode cX7_rulesThatTell 169 = .ok (.iload 6, 2) := by decide +kernel
theorem dX7_rulesThatTell_171 : decode cX7_rulesThatTell 171 = .ok (.iload 11, 2) := by decide +kernel
theorem dX7_rulesThatTell_173 : decode cX7_rulesThatTell 173 = .ok (.invokestatic 180, 3) := by decide +kernel
theorem dX7_rulesThatTell_176 : decode cX7_rulesThatTell 176 = .ok (.iload 7, 2) := by decide +kernel
theorem dX7_rulesThatTell_178 : decode cX7_rulesThatTell 178 = .ok (.ishl, 1) := by decide +kernel
theorem dX7_rulesThatTell_179 : decode cX7_rulesThatTell 179 = .ok (.ior, 1) := by decide +kernel
theorem dX7_rulesThatTell_180 : decode cX7_rulesThatTell 180 = .ok (.istore 6, 2) := by decide +kernel
theorem dX7_rulesThatTell_182 : decode cX7_rulesThatTell 182 = .ok (.iinc 7 1, 3) := by decide +kernel
theorem dX7_rulesThatTell_185 : decode cX7_rulesThatTell 185 = .ok (.goto (-153), 3) := by decide +kernel
theorem dX7_rulesThatTell_188 : decode cX7_rulesThatTell 188 = .ok (.iload 6, 2) := by decide +kernel
theorem dX7_rulesThatTell_190 : decode cX7_rulesThatTell 190 = .ok (.ireturn, 1) := by decide +kernel
set_option maxRecDepth 20000 in
theorem ggX7_kindsThatFit_X2_secretIn : GoodIn wsX7_kindsThatFit wsX2_secretIn := goodIn_r _ [6, 7, 8, 9, 10, 11, 12, 13, 14, 5, 15, 16, 17, 18, 19, 53, 54, 55, 56, 57, 58, 59, 60, 61, 62, 63, 64, 65, 66, 67, 68] (by decide +kernel) (by decide +kernel)
set_option maxRecDepth 20000 in
theorem gX7_kindsThatFit_X2_secretIn : GoodIn wsX7_kindsThatFit (wsV RX7 153 RX2 yX2_secretIn wsX2_secretIn) := goodIn_app (goodIn_of _ (by decide +kernel)) ggX7_kindsThatFit_X2_secretIn
set_option maxRecDepth 20000 in
theorem ggX7_kindsThatFit_X7_fitsTold : GoodIn wsX7_kindsThatFit wsX7_fitsTold := goodIn_r _ [23, 1, 24, 25, 26, 27, 28, 29, 30, 5, 31, 32, 33, 34, 35, 36, 37, 38, 39, 40, 41, 42, 18, 43, 44, 45, 46, 47, 48, 49, 50, 51, 52, 53, 54, 55, 56, 57, 58, 59, 60, 61, 62, 63, 64, 65, 66, 67, 68, 69, 70, 71] (by decide +kernel) (by decide +kernel)
set_option maxRecDepth 20000 in
theorem gX7_kindsThatFit_X7_fitsTold : GoodIn wsX7_kindsThatFit (wsV RX7 350 RX7 yX7_fitsTold wsX7_fitsTold) := goodIn_app (goodIn_of _ (by decide +kernel)) ggX7_kindsThatFit_X7_fitsTold
set_option maxRecDepth 20000 in
theorem ggX7_kindsThatFit_X7_bit : GoodIn wsX7_kindsThatFit wsX7_bit := goodIn_r _ [43] (by decide +kernel) (by decide +kernel)
set_option maxRecDepth 20000 in
theorem gX7_kindsThatFit_X7_bit : GoodIn wsX7_kindsThatFit (va_wsS RX7 180 yX7_bit wsX7_bit) := goodIn_app (goodIn_of _ (by decide +kernel)) ggX7_kindsThatFit_X7_bit
theorem dX7_kindsThatFit_0 : decode cX7_kindsThatFit 0 = .ok (.aload_n 0, 1) := by decide +kernel
theorem dX7_kindsThatFit_1 : decode cX7_kindsThatFit 1 = .ok (.getfield 25, 3) := by decide +kernel
theorem dX7_kindsThatFit_4 : decode cX7_kindsThatFit 4 = .ok (.iconst 0, 1) := by decide +kernel
theorem dX7_kindsThatFit_5 : decode cX7_kindsThatFit 5 = .ok (.invokevirtual 153, 3) := by decide +kernel
theorem dX7_kindsThatFit_8 : decode cX7_kindsThatFit 8 = .ok (.istore_n 3, 1) := by decide +kernel
theorem dX7_kindsThatFit_9 : decode cX7_kindsThatFit 9 = .ok (.iconst 0, 1) := by decide +kernel
theorem dX7_kindsThatFit_10 : decode cX7_kindsThatFit 10 = .ok (.istore 4, 2) := by decide +kernel
theorem dX7_kindsThatFit_12 : decode cX7_kindsThatFit 12 = .ok (.iconst 1, 1) := by decide +kernel
theorem dX7_kindsThatFit_13 : decode cX7_kindsThatFit 13 = .ok (.istore 5, 2) := by decide +kernel
theorem dX7_kindsThatFit_15 : decode cX7_kindsThatFit 15 = .ok (.iload 5, 2) := by decide +kernel
theorem dX7_kindsThatFit_17 : decode cX7_kindsThatFit 17 = .ok (.iconst 5, 1) := by decide +kernel
theorem dX7_kindsThatFit_18 : decode cX7_kindsThatFit 18 = .ok (.if_icmp .gt 29, 3) := by decide +kernel
theorem dX7_kindsThatFit_21 : decode cX7_kindsThatFit 21 = .ok (.iload 4, 2) := by decide +kernel
theorem dX7_kindsThatFit_23 : decode cX7_kindsThatFit 23 = .ok (.aload_n 0, 1) := by decide +kernel
theorem dX7_kindsThatFit_24 : decode cX7_kindsThatFit 24 = .ok (.iload 5, 2) := by decide +kernel
theorem dX7_kindsThatFit_26 : decode cX7_kindsThatFit 26 = .ok (.iload_n 3, 1) := by decide +kernel
theorem dX7_kindsThatFit_27 : decode cX7_kindsThatFit 27 = .ok (.aload_n 1, 1) := by decide +kernel
theorem dX7_kindsThatFit_28 : decode cX7_kindsThatFit 28 = .ok (.iload_n 2, 1) := by decide +kernel
theorem dX7_kindsThatFit_29 : decode cX7_kindsThatFit 29 = .ok (.invokevirtual 350, 3) := by decide +kernel
theorem dX7_kindsThatFit_32 : decode cX7_kindsThatFit 32 = .ok (.invokestatic 180, 3) := by decide +kernel
theorem dX7_kindsThatFit_35 : decode cX7_kindsThatFit 35 = .ok (.iload 5, 2) := by decide +kernel
theorem dX7_kindsThatFit_37 : decode cX7_kindsThatFit 37 = .ok (.ishl, 1) := by decide +kernel
theorem dX7_kindsThatFit_38 : decode cX7_kindsThatFit 38 = .ok (.ior, 1) := by decide +kernel
theorem dX7_kindsThatFit_39 : decode cX7_kindsThatFit 39 = .ok (.istore 4, 2) := by decide +kernel
theorem dX7_kindsThatFit_41 : decode cX7_kindsThatFit 41 = .ok (.iinc 5 1, 3) := by decide +kernel
theorem dX7_kindsThatFit_44 : decode cX7_kindsThatFit 44 = .ok (.goto (-29), 3) := by decide +kernel
theorem dX7_kindsThatFit_47 : decode cX7_kindsThatFit 47 = .ok (.iload 4, 2) := by decide +kernel
theorem dX7_kindsThatFit_49 : decode cX7_kindsThatFit 49 = .ok (.ireturn, 1) := by decide +kernel
set_option maxRecDepth 20000 in
theorem ggX7_secretsThatFit_X7_fitsTold : GoodIn wsX7_secretsThatFit wsX7_fitsTold := goodIn_r _ [7, 1, 2, 8, 9, 10, 11, 12, 13, 14, 15, 16, 17, 18, 19, 20, 21, 22, 23, 24, 25, 26, 6, 27, 28, 29, 30, 31, 32, 33, 34, 35, 36, 37, 38, 39, 40, 41, 42, 43, 44, 45, 46, 47, 48, 49, 50, 51, 52, 53, 54, 55] (by decide +kernel) (by decide +kernel)
set_option maxRecDepth 20000 in
theorem gX7_secretsThatFit_X7_fitsTold : GoodIn wsX7_secretsThatFit (wsV RX7 350 RX7 yX7_fitsTold wsX7_fitsTold) := goodIn_app (goodIn_of _ (by decide +kernel)) ggX7_secretsThatFit_X7_fitsTold
set_option maxRecDepth 20000 in
theorem ggX7_secretsThatFit_X7_bit : GoodIn wsX7_secretsThatFit wsX7_bit := goodIn_r _ [27] (by decide +kernel) (by decide +kernel)
set_option maxRecDepth 20000 in
theorem gX7_secretsThatFit_X7_bit : GoodIn wsX7_secretsThatFit (va_wsS RX7 180 yX7_bit wsX7_bit) := goodIn_app (goodIn_of _ (by decide +kernel)) ggX7_secretsThatFit_X7_bit
theorem dX7_secretsThatFit_0 : decode cX7_secretsThatFit 0 = .ok (.iconst 0, 1) := by decide +kernel
theorem dX7_secretsThatFit_1 : decode cX7_secretsThatFit 1 = .ok (.istore 4, 2) := by decide +kernel
theorem dX7_secretsThatFit_3 : decode cX7_secretsThatFit 3 = .ok (.iconst 0, 1) := by decide +kernel
theorem dX7_secretsThatFit_4 : decode cX7_secretsThatFit 4 = .ok (.istore 5, 2) := by decide +kernel
theorem dX7_secretsThatFit_6 : decode cX7_secretsThatFit 6 = .ok (.iload 5, 2) := by decide +kernel
theorem dX7_secretsThatFit_8 : decode cX7_secretsThatFit 8 = .ok (.aload_n 0, 1) := by decide +kernel
theorem dX7_secretsThatFit_9 : decode cX7_secretsThatFit 9 = .ok (.getfield 25, 3) := by decide +kernel
theorem dX7_secretsThatFit_12 : decode cX7_secretsThatFit 12 = .ok (.getfield 130, 3) := by decide +kernel
theorem dX7_secretsThatFit_15 : decode cX7_secretsThatFit 15 = .ok (.if_icmp .ge 29, 3) := by decide +kernel
theorem dX7_secretsThatFit_18 : decode cX7_secretsThatFit 18 = .ok (.iload 4, 2) := by decide +kernel
theorem dX7_secretsThatFit_20 : decode cX7_secretsThatFit 20 = .ok (.aload_n 0, 1) := by decide +kernel
theorem dX7_secretsThatFit_21 : decode cX7_secretsThatFit 21 = .ok (.iload_n 1, 1) := by decide +kernel
theorem dX7_secretsThatFit_22 : decode cX7_secretsThatFit 22 = .ok (.iload 5, 2) := by decide +kernel
theorem dX7_secretsThatFit_24 : decode cX7_secretsThatFit 24 = .ok (.aload_n 2, 1) := by decide +kernel
theorem dX7_secretsThatFit_25 : decode cX7_secretsThatFit 25 = .ok (.iload_n 3, 1) := by decide +kernel
theorem dX7_secretsThatFit_26 : decode cX7_secretsThatFit 26 = .ok (.invokevirtual 350, 3) := by decide +kernel
theorem dX7_secretsThatFit_29 : decode cX7_secretsThatFit 29 = .ok (.invokestatic 180, 3) := by decide +kernel
theorem dX7_secretsThatFit_32 : decode cX7_secretsThatFit 32 = .ok (.iload 5, 2) := by decide +kernel
theorem dX7_secretsThatFit_34 : decode cX7_secretsThatFit 34 = .ok (.ishl, 1) := by decide +kernel
theorem dX7_secretsThatFit_35 : decode cX7_secretsThatFit 35 = .ok (.ior, 1) := by decide +kernel
theorem dX7_secretsThatFit_36 : decode cX7_secretsThatFit 36 = .ok (.istore 4, 2) := by decide +kernel
theorem dX7_secretsThatFit_38 : decode cX7_secretsThatFit 38 = .ok (.iinc 5 1, 3) := by decide +kernel
theorem dX7_secretsThatFit_41 : decode cX7_secretsThatFit 41 = .ok (.goto (-35), 3) := by decide +kernel
theorem dX7_secretsThatFit_44 : decode cX7_secretsThatFit 44 = .ok (.iload 4, 2) := by decide +kernel
theorem dX7_secretsThatFit_46 : decode cX7_secretsThatFit 46 = .ok (.ireturn, 1) := by decide +kernel
set_option maxRecDepth 20000 in
theorem ggX7_fitsTold_X2_wouldTake : GoodIn wsX7_fitsTold wsX2_wouldTake := goodIn_r _ [10, 11, 12, 13, 9, 14, 15, 16, 17, 18, 19, 33, 34, 35, 36, 37, 38, 39, 40] (by decide +kernel) (by decide +kernel)
set_option maxRecDepth 20000 in
theorem gX7_fitsTold_X2_wouldTake : GoodIn wsX7_fitsTold (wsV RX7 354 RX2 yX2_wouldTake wsX2_wouldTake) := goodIn_app (goodIn_of _ (by decide +kernel)) ggX7_fitsTold_X2_wouldTake
set_option maxRecDepth 20000 in
theorem ggX7_fitsTold_X7_bit : GoodIn wsX7_fitsTold wsX7_bit := goodIn_r _ [23] (by decide +kernel) (by decide +kernel)
set_option maxRecDepth 20000 in
theorem gX7_fitsTold_X7_bit : GoodIn wsX7_fitsTold (va_wsS RX7 180 yX7_bit wsX7_bit) := goodIn_app (goodIn_of _ (by decide +kernel)) ggX7_fitsTold_X7_bit
theorem dX7_fitsTold_0 : decode cX7_fitsTold 0 = .ok (.iconst 0, 1) := by decide +kernel
theorem dX7_fitsTold_1 : decode cX7_fitsTold 1 = .ok (.istore 5, 2) := by decide +kernel
theorem dX7_fitsTold_3 : decode cX7_fitsTold 3 = .ok (.iload 5, 2) := by decide +kernel
theorem dX7_fitsTold_5 : decode cX7_fitsTold 5 = .ok (.aload_n 0, 1) := by decide +kernel
theorem dX7_fitsTold_6 : decode cX7_fitsTold 6 = .ok (.getfield 25, 3) := by decide +kernel
theorem dX7_fitsTold_9 : decode cX7_fitsTold 9 = .ok (.getfield 130, 3) := by decide +kernel
theorem dX7_fitsTold_12 : decode cX7_fitsTold 12 = .ok (.if_icmp .ge 48, 3) := by decide +kernel
theorem dX7_fitsTold_15 : decode cX7_fitsTold 15 = .ok (.aload_n 0, 1) := by decide +kernel
theorem dX7_fitsTold_16 : decode cX7_fitsTold 16 = .ok (.getfield 25, 3) := by decide +kernel
theorem dX7_fitsTold_19 : decode cX7_fitsTold 19 = .ok (.iload_n 1, 1) := by decide +kernel
theorem dX7_fitsTold_20 : decode cX7_fitsTold 20 = .ok (.iload 5, 2) := by decide +kernel
theorem dX7_fitsTold_22 : decode cX7_fitsTold 22 = .ok (.iload_n 2, 1) := by decide +kernel
theorem dX7_fitsTold_23 : decode cX7_fitsTold 23 = .ok (.aload_n 0, 1) := by decide +kernel
theorem dX7_fitsTold_24 : decode cX7_fitsTold 24 = .ok (.getfield 25, 3) := by decide +kernel
theorem dX7_fitsTold_27 : decode cX7_fitsTold 27 = .ok (.getfield 137, 3) := by decide +kernel
theorem dX7_fitsTold_30 : decode cX7_fitsTold 30 = .ok (.getfield 141, 3) := by decide +kernel
theorem dX7_fitsTold_33 : decode cX7_fitsTold 33 = .ok (.invokevirtual 354, 3) := by decide +kernel
theorem dX7_fitsTold_36 : decode cX7_fitsTold 36 = .ok (.invokestatic 180, 3) := by decide +kernel
theorem dX7_fitsTold_39 : decode cX7_fitsTold 39 = .ok (.aload_n 3, 1) := by decide +kernel
theorem dX7_fitsTold_40 : decode cX7_fitsTold 40 = .ok (.getfield 86, 3) := by decide +kernel
theorem dX7_fitsTold_43 : decode cX7_fitsTold 43 = .ok (.iload 4, 2) := by decide +kernel
theorem dX7_fitsTold_45 : decode cX7_fitsTold 45 = .ok (.iload 5, 2) := by decide +kernel
theorem dX7_fitsTold_47 : decode cX7_fitsTold 47 = .ok (.iadd, 1) := by decide +kernel
theorem dX7_fitsTold_48 : decode cX7_fitsTold 48 = .ok (.iaload, 1) := by decide +kernel
theorem dX7_fitsTold_49 : decode cX7_fitsTold 49 = .ok (.if_icmp .eq 5, 3) := by decide +kernel
theorem dX7_fitsTold_52 : decode cX7_fitsTold 52 = .ok (.iconst 0, 1) := by decide +kernel
theorem dX7_fitsTold_53 : decode cX7_fitsTold 53 = .ok (.ireturn, 1) := by decide +kernel
theorem dX7_fitsTold_54 : decode cX7_fitsTold 54 = .ok (.iinc 5 1, 3) := by decide +kernel
theorem dX7_fitsTold_57 : decode cX7_fitsTold 57 = .ok (.goto (-54), 3) := by decide +kernel
theorem dX7_fitsTold_60 : decode cX7_fitsTold 60 = .ok (.iconst 1, 1) := by decide +kernel
theorem dX7_fitsTold_61 : decode cX7_fitsTold 61 = .ok (.ireturn, 1) := by decide +kernel
theorem dX7_bit_0 : decode cX7_bit 0 = .ok (.iload_n 0, 1) := by decide +kernel
theorem dX7_bit_1 : decode cX7_bit 1 = .ok (.ifCond .eq 7, 3) := by decide +kernel
theorem dX7_bit_4 : decode cX7_bit 4 = .ok (.iconst 1, 1) := by decide +kernel
theorem dX7_bit_5 : decode cX7_bit 5 = .ok (.goto 4, 3) := by decide +kernel
theorem dX7_bit_8 : decode cX7_bit 8 = .ok (.iconst 0, 1) := by decide +kernel
theorem dX7_bit_9 : decode cX7_bit 9 = .ok (.ireturn, 1) := by decide +kernel
theorem dX7_rest_0 : decode cX7_rest 0 = .ok (.iload_n 1, 1) := by decide +kernel
theorem dX7_rest_1 : decode cX7_rest 1 = .ok (.ifCond .le 9, 3) := by decide +kernel
theorem dX7_rest_4 : decode cX7_rest 4 = .ok (.iload_n 0, 1) := by decide +kernel
theorem dX7_rest_5 : decode cX7_rest 5 = .ok (.iload_n 1, 1) := by decide +kernel
theorem dX7_rest_6 : decode cX7_rest 6 = .ok (.irem, 1) := by decide +kernel
theorem dX7_rest_7 : decode cX7_rest 7 = .ok (.goto 4, 3) := by decide +kernel
theorem dX7_rest_10 : decode cX7_rest 10 = .ok (.iconst 0, 1) := by decide +kernel
theorem dX7_rest_11 : decode cX7_rest 11 = .ok (.ireturn, 1) := by decide +kernel
theorem dX7_lowest_0 : decode cX7_lowest 0 = .ok (.iload_n 1, 1) := by decide +kernel
theorem dX7_lowest_1 : decode cX7_lowest 1 = .ok (.ifCond .le 9, 3) := by decide +kernel
theorem dX7_lowest_4 : decode cX7_lowest 4 = .ok (.iload_n 0, 1) := by decide +kernel
theorem dX7_lowest_5 : decode cX7_lowest 5 = .ok (.iload_n 1, 1) := by decide +kernel
theorem dX7_lowest_6 : decode cX7_lowest 6 = .ok (.idiv, 1) := by decide +kernel
theorem dX7_lowest_7 : decode cX7_lowest 7 = .ok (.goto 4, 3) := by decide +kernel
theorem dX7_lowest_10 : decode cX7_lowest 10 = .ok (.iload_n 0, 1) := by decide +kernel
theorem dX7_lowest_11 : decode cX7_lowest 11 = .ok (.ireturn, 1) := by decide +kernel
theorem dX7_commonDivisor_0 : decode cX7_commonDivisor 0 = .ok (.iload_n 1, 1) := by decide +kernel
theorem dX7_commonDivisor_1 : decode cX7_commonDivisor 1 = .ok (.istore_n 2, 1) := by decide +kernel
theorem dX7_commonDivisor_2 : decode cX7_commonDivisor 2 = .ok (.iload_n 2, 1) := by decide +kernel
theorem dX7_commonDivisor_3 : decode cX7_commonDivisor 3 = .ok (.iconst 1, 1) := by decide +kernel
theorem dX7_commonDivisor_4 : decode cX7_commonDivisor 4 = .ok (.if_icmp .le 23, 3) := by decide +kernel
theorem dX7_commonDivisor_7 : decode cX7_commonDivisor 7 = .ok (.iload_n 0, 1) := by decide +kernel
theorem dX7_commonDivisor_8 : decode cX7_commonDivisor 8 = .ok (.iload_n 2, 1) := by decide +kernel
theorem dX7_commonDivisor_9 : decode cX7_commonDivisor 9 = .ok (.irem, 1) := by decide +kernel
theorem dX7_commonDivisor_10 : decode cX7_commonDivisor 10 = .ok (.ifCond .ne 11, 3) := by decide +kernel
theorem dX7_commonDivisor_13 : decode cX7_commonDivisor 13 = .ok (.iload_n 1, 1) := by decide +kernel
theorem dX7_commonDivisor_14 : decode cX7_commonDivisor 14 = .ok (.iload_n 2, 1) := by decide +kernel
theorem dX7_commonDivisor_15 : decode cX7_commonDivisor 15 = .ok (.irem, 1) := by decide +kernel
theorem dX7_commonDivisor_16 : decode cX7_commonDivisor 16 = .ok (.ifCond .ne 5, 3) := by decide +kernel
theorem dX7_commonDivisor_19 : decode cX7_commonDivisor 19 = .ok (.iload_n 2, 1) := by decide +kernel
theorem dX7_commonDivisor_20 : decode cX7_commonDivisor 20 = .ok (.ireturn, 1) := by decide +kernel
theorem dX7_commonDivisor_21 : decode cX7_commonDivisor 21 = .ok (.iinc 2 (-1), 3) := by decide +kernel
theorem dX7_commonDivisor_24 : decode cX7_commonDivisor 24 = .ok (.goto (-22), 3) := by decide +kernel
theorem dX7_commonDivisor_27 : decode cX7_commonDivisor 27 = .ok (.iconst 1, 1) := by decide +kernel
theorem dX7_commonDivisor_28 : decode cX7_commonDivisor 28 = .ok (.ireturn, 1) := by decide +kernel
theorem dX8_init_0 : decode cX8_init 0 = .ok (.aload_n 0, 1) := by decide +kernel
theorem dX8_init_1 : decode cX8_init 1 = .ok (.invokespecial 1, 3) := by decide +kernel
theorem dX8_init_4 : decode cX8_init 4 = .ok (.aload_n 0, 1) := by decide +kernel
theorem dX8_init_5 : decode cX8_init 5 = .ok (.bipush 8, 2) := by decide +kernel
theorem dX8_init_7 : decode cX8_init 7 = .ok (.newarray .int, 2) := by decide +kernel
theorem dX8_init_9 : decode cX8_init 9 = .ok (.putfield 7, 3) := by decide +kernel
theorem dX8_init_12 : decode cX8_init 12 = .ok (.aload_n 0, 1) := by decide +kernel
theorem dX8_init_13 : decode cX8_init 13 = .ok (.bipush 8, 2) := by decide +kernel
theorem dX8_init_15 : decode cX8_init 15 = .ok (.newarray .int, 2) := by decide +kernel
theorem dX8_init_17 : decode cX8_init 17 = .ok (.putfield 13, 3) := by decide +kernel
theorem dX8_init_20 : decode cX8_init 20 = .ok (.aload_n 0, 1) := by decide +kernel
theorem dX8_init_21 : decode cX8_init 21 = .ok (.sipush 320, 3) := by decide +kernel
theorem dX8_init_24 : decode cX8_init 24 = .ok (.newarray .int, 2) := by decide +kernel
theorem dX8_init_26 : decode cX8_init 26 = .ok (.putfield 16, 3) := by decide +kernel
theorem dX8_init_29 : decode cX8_init 29 = .ok (.aload_n 0, 1) := by decide +kernel
theorem dX8_init_30 : decode cX8_init 30 = .ok (.bipush 40, 2) := by decide +kernel
theorem dX8_init_32 : decode cX8_init 32 = .ok (.newarray .int, 2) := by decide +kernel
theorem dX8_init_34 : decode cX8_init 34 = .ok (.putfield 19, 3) := by decide +kernel
theorem dX8_init_37 : decode cX8_init 37 = .ok (.aload_n 0, 1) := by decide +kernel
theorem dX8_init_38 : decode cX8_init 38 = .ok (.bipush 100, 2) := by decide +kernel
theorem dX8_init_40 : decode cX8_init 40 = .ok (.newarray .int, 2) := by decide +kernel
theorem dX8_init_42 : decode cX8_init 42 = .ok (.putfield 22, 3) := by decide +kernel
theorem dX8_init_45 : decode cX8_init 45 = .ok (.aload_n 0, 1) := by decide +kernel
theorem dX8_init_46 : decode cX8_init 46 = .ok (.bipush 65, 2) := by decide +kernel
theorem dX8_init_48 : decode cX8_init 48 = .ok (.newarray .int, 2) := by decide +kernel
theorem dX8_init_50 : decode cX8_init 50 = .ok (.putfield 25, 3) := by decide +kernel
theorem dX8_init_53 : decode cX8_init 53 = .ok (.aload_n 0, 1) := by decide +kernel
theorem dX8_init_54 : decode cX8_init 54 = .ok (.bipush 65, 2) := by decide +kernel
theorem dX8_init_56 : decode cX8_init 56 = .ok (.newarray .int, 2) := by decide +kernel
theorem dX8_init_58 : decode cX8_init 58 = .ok (.putfield 28, 3) := by decide +kernel
theorem dX8_init_61 : decode cX8_init 61 = .ok (.aload_n 0, 1) := by decide +kernel
theorem dX8_init_62 : decode cX8_init 62 = .ok (.bipush 65, 2) := by decide +kernel
theorem dX8_init_64 : decode cX8_init 64 = .ok (.newarray .int, 2) := by decide +kernel
theorem dX8_init_66 : decode cX8_init 66 = .ok (.putfield 31, 3) := by decide +kernel
theorem dX8_init_69 : decode cX8_init 69 = .ok (.aload_n 0, 1) := by decide +kernel
theorem dX8_init_70 : decode cX8_init 70 = .ok (.sipush 1560, 3) := by decide +kernel
theorem dX8_init_73 : decode cX8_init 73 = .ok (.newarray .int, 2) := by decide +kernel
theorem dX8_init_75 : decode cX8_init 75 = .ok (.putfield 34, 3) := by decide +kernel
theorem dX8_init_78 : decode cX8_init 78 = .ok (.aload_n 0, 1) := by decide +kernel
theorem dX8_init_79 : decode cX8_init 79 = .ok (.sipush 130, 3) := by decide +kernel
theorem dX8_init_82 : decode cX8_init 82 = .ok (.newarray .int, 2) := by decide +kernel
theorem dX8_init_84 : decode cX8_init 84 = .ok (.putfield 37, 3) := by decide +kernel
theorem dX8_init_87 : decode cX8_init 87 = .ok (.aload_n 0, 1) := by decide +kernel
theorem dX8_init_88 : decode cX8_init 88 = .ok (.iconst 2, 1) := by decide +kernel
theorem dX8_init_89 : decode cX8_init 89 = .ok (.newarray .boolean, 2) := by decide +kernel
theorem dX8_init_91 : decode cX8_init 91 = .ok (.putfield 40, 3) := by decide +kernel
theorem dX8_init_94 : decode cX8_init 94 = .ok (.aload_n 0, 1) := by decide +kernel
theorem dX8_init_95 : decode cX8_init 95 = .ok (.bipush 64, 2) := by decide +kernel
theorem dX8_init_97 : decode cX8_init 97 = .ok (.newarray .int, 2) := by decide +kernel
theorem dX8_init_99 : decode cX8_init 99 = .ok (.putfield 44, 3) := by decide +kernel
theorem dX8_init_102 : decode cX8_init 102 = .ok (.aload_n 0, 1) := by decide +kernel
theorem dX8_init_103 : decode cX8_init 103 = .ok (.bipush 16, 2) := by decide +kernel
theorem dX8_init_105 : decode cX8_init 105 = .ok (.newarray .int, 2) := by decide +kernel
theorem dX8_init_107 : decode cX8_init 107 = .ok (.putfield 47, 3) := by decide +kernel
theorem dX8_init_110 : decode cX8_init 110 = .ok (.iconst 0, 1) := by decide +kernel
theorem dX8_init_111 : decode cX8_init 111 = .ok (.istore_n 1, 1) := by decide +kernel
theorem dX8_init_112 : decode cX8_init 112 = .ok (.iload_n 1, 1) := by decide +kernel
theorem dX8_init_113 : decode cX8_init 113 = .ok (.bipush 8, 2) := by decide +kernel
theorem dX8_init_115 : decode cX8_init 115 = .ok (.if_icmp .ge 17, 3) := by decide +kernel
theorem dX8_init_118 : decode cX8_init 118 = .ok (.aload_n 0, 1) := by decide +kernel
theorem dX8_init_119 : decode cX8_init 119 = .ok (.getfield 7, 3) := by decide +kernel
theorem dX8_init_122 : decode cX8_init 122 = .ok (.iload_n 1, 1) := by decide +kernel
theorem dX8_init_123 : decode cX8_init 123 = .ok (.ldc 50, 2) := by decide +kernel
theorem dX8_init_125 : decode cX8_init 125 = .ok (.iastore, 1) := by decide +kernel
theorem dX8_init_126 : decode cX8_init 126 = .ok (.iinc 1 1, 3) := by decide +kernel
theorem dX8_init_129 : decode cX8_init 129 = .ok (.goto (-17), 3) := by decide +kernel
theorem dX8_init_132 : decode cX8_init 132 = .ok (.return_, 1) := by decide +kernel
theorem dX8_in_0 : decode cX8_in 0 = .ok (.iload_n 0, 1) := by decide +kernel
theorem dX8_in_1 : decode cX8_in 1 = .ok (.iload_n 1, 1) := by decide +kernel
theorem dX8_in_2 : decode cX8_in 2 = .ok (.if_icmp .lt 12, 3) := by decide +kernel
theorem dX8_in_5 : decode cX8_in 5 = .ok (.iload_n 0, 1) := by decide +kernel
theorem dX8_in_6 : decode cX8_in 6 = .ok (.iload_n 2, 1) := by decide +kernel
theorem dX8_in_7 : decode cX8_in 7 = .ok (.if_icmp .gt 7, 3) := by decide +kernel
theorem dX8_in_10 : decode cX8_in 10 = .ok (.iconst 1, 1) := by decide +kernel
theorem dX8_in_11 : decode cX8_in 11 = .ok (.goto 4, 3) := by decide +kernel
theorem dX8_in_14 : decode cX8_in 14 = .ok (.iconst 0, 1) := by decide +kernel
theorem dX8_in_15 : decode cX8_in 15 = .ok (.ireturn, 1) := by decide +kernel
theorem dX8_has_0 : decode cX8_has 0 = .ok (.iload_n 0, 1) := by decide +kernel
theorem dX8_has_1 : decode cX8_has 1 = .ok (.iload_n 1, 1) := by decide +kernel
theorem dX8_has_2 : decode cX8_has 2 = .ok (.ishr, 1) := by decide +kernel
theorem dX8_has_3 : decode cX8_has 3 = .ok (.iconst 1, 1) := by decide +kernel
theorem dX8_has_4 : decode cX8_has 4 = .ok (.iand, 1) := by decide +kernel
theorem dX8_has_5 : decode cX8_has 5 = .ok (.iconst 1, 1) := by decide +kernel
theorem dX8_has_6 : decode cX8_has 6 = .ok (.if_icmp .ne 7, 3) := by decide +kernel
theorem dX8_has_9 : decode cX8_has 9 = .ok (.iconst 1, 1) := by decide +kernel
theorem dX8_has_10 : decode cX8_has 10 = .ok (.goto 4, 3) := by decide +kernel
theorem dX8_has_13 : decode cX8_has 13 = .ok (.iconst 0, 1) := by decide +kernel
theorem dX8_has_14 : decode cX8_has 14 = .ok (.ireturn, 1) := by decide +kernel
theorem dX8_ones_0 : decode cX8_ones 0 = .ok (.iconst 0, 1) := by decide +kernel
theorem dX8_ones_1 : decode cX8_ones 1 = .ok (.istore_n 1, 1) := by decide +kernel
theorem dX8_ones_2 : decode cX8_ones 2 = .ok (.iconst 0, 1) := by decide +kernel
theorem dX8_ones_3 : decode cX8_ones 3 = .ok (.istore_n 2, 1) := by decide +kernel
theorem dX8_ones_4 : decode cX8_ones 4 = .ok (.iload_n 2, 1) := by decide +kernel
theorem dX8_ones_5 : decode cX8_ones 5 = .ok (.bipush 8, 2) := by decide +kernel
theorem dX8_ones_7 : decode cX8_ones 7 = .ok (.if_icmp .ge 17, 3) := by decide +kernel
theorem dX8_ones_10 : decode cX8_ones 10 = .ok (.iload_n 1, 1) := by decide +kernel
theorem dX8_ones_11 : decode cX8_ones 11 = .ok (.iload_n 0, 1) := by decide +kernel
theorem dX8_ones_12 : decode cX8_ones 12 = .ok (.iload_n 2, 1) := by decide +kernel
theorem dX8_ones_13 : decode cX8_ones 13 = .ok (.ishr, 1) := by decide +kernel
theorem dX8_ones_14 : decode cX8_ones 14 = .ok (.iconst 1, 1) := by decide +kernel
theorem dX8_ones_15 : decode cX8_ones 15 = .ok (.iand, 1) := by decide +kernel
theorem dX8_ones_16 : decode cX8_ones 16 = .ok (.iadd, 1) := by decide +kernel
theorem dX8_ones_17 : decode cX8_ones 17 = .ok (.istore_n 1, 1) := by decide +kernel
theorem dX8_ones_18 : decode cX8_ones 18 = .ok (.iinc 2 1, 3) := by decide +kernel
theorem dX8_ones_21 : decode cX8_ones 21 = .ok (.goto (-17), 3) := by decide +kernel
theorem dX8_ones_24 : decode cX8_ones 24 = .ok (.iload_n 1, 1) := by decide +kernel
theorem dX8_ones_25 : decode cX8_ones 25 = .ok (.ireturn, 1) := by decide +kernel
theorem dX8_found_0 : decode cX8_found 0 = .ok (.aload_n 0, 1) := by decide +kernel
theorem dX8_found_1 : decode cX8_found 1 = .ok (.iload_n 1, 1) := by decide +kernel
theorem dX8_found_2 : decode cX8_found 2 = .ok (.putfield 51, 3) := by decide +kernel
theorem dX8_found_5 : decode cX8_found 5 = .ok (.ldc 55, 2) := by decide +kernel
theorem dX8_found_7 : decode cX8_found 7 = .ok (.iload_n 1, 1) := by decide +kernel
theorem dX8_found_8 : decode cX8_found 8 = .ok (.isub, 1) := by decide +kernel
theorem dX8_found_9 : decode cX8_found 9 = .ok (.ireturn, 1) := by decide +kernel
theorem dX8_well_0 : decode cX8_well 0 = .ok (.aload_n 0, 1) := by decide +kernel
theorem dX8_well_1 : decode cX8_well 1 = .ok (.iconst 0, 1) := by decide +kernel
theorem dX8_well_2 : decode cX8_well 2 = .ok (.putfield 51, 3) := by decide +kernel
theorem dX8_well_5 : decode cX8_well 5 = .ok (.iload_n 1, 1) := by decide +kernel
theorem dX8_well_6 : decode cX8_well 6 = .ok (.ireturn, 1) := by decide +kernel
theorem dX8_copies_0 : decode cX8_copies 0 = .ok (.iconst 0, 1) := by decide +kernel
theorem dX8_copies_1 : decode cX8_copies 1 = .ok (.istore 4, 2) := by decide +kernel
theorem dX8_copies_3 : decode cX8_copies 3 = .ok (.iload 4, 2) := by decide +kernel
theorem dX8_copies_5 : decode cX8_copies 5 = .ok (.bipush 65, 2) := by decide +kernel
theorem dX8_copies_7 : decode cX8_copies 7 = .ok (.if_icmp .ge 21, 3) := by decide +kernel
theorem dX8_copies_10 : decode cX8_copies 10 = .ok (.aload_n 2, 1) := by decide +kernel
theorem dX8_copies_11 : decode cX8_copies 11 = .ok (.iload_n 3, 1) := by decide +kernel
theorem dX8_copies_12 : decode cX8_copies 12 = .ok (.iload 4, 2) := by decide +kernel
theorem dX8_copies_14 : decode cX8_copies 14 = .ok (.iadd, 1) := by decide +kernel
theorem dX8_copies_15 : decode cX8_copies 15 = .ok (.aload_n 0, 1) := by decide +kernel
theorem dX8_copies_16 : decode cX8_copies 16 = .ok (.iload_n 1, 1) := by decide +kernel
theorem dX8_copies_17 : decode cX8_copies 17 = .ok (.iload 4, 2) := by decide +kernel
theorem dX8_copies_19 : decode cX8_copies 19 = .ok (.iadd, 1) := by decide +kernel
theorem dX8_copies_20 : decode cX8_copies 20 = .ok (.iaload, 1) := by decide +kernel
theorem dX8_copies_21 : decode cX8_copies 21 = .ok (.iastore, 1) := by decide +kernel
theorem dX8_copies_22 : decode cX8_copies 22 = .ok (.iinc 4 1, 3) := by decide +kernel
theorem dX8_copies_25 : decode cX8_copies 25 = .ok (.goto (-22), 3) := by decide +kernel
theorem dX8_copies_28 : decode cX8_copies 28 = .ok (.return_, 1) := by decide +kernel
set_option maxRecDepth 20000 in
theorem ggX8_isRow_X8_in : GoodIn wsX8_isRow wsX8_in := goodIn_r _ [4] (by decide +kernel) (by decide +kernel)
set_option maxRecDepth 20000 in
theorem gX8_isRow_X8_in : GoodIn wsX8_isRow (va_wsS RX8 56 yX8_in wsX8_in) := goodIn_app (goodIn_of _ (by decide +kernel)) ggX8_isRow_X8_in
theorem dX8_isRow_0 : decode cX8_isRow 0 = .ok (.iload_n 0, 1) := by decide +kernel
theorem dX8_isRow_1 : decode cX8_isRow 1 = .ok (.iconst 0, 1) := by decide +kernel
theorem dX8_isRow_2 : decode cX8_isRow 2 = .ok (.bipush 7, 2) := by decide +kernel
theorem dX8_isRow_4 : decode cX8_isRow 4 = .ok (.invokestatic 56, 3) := by decide +kernel
theorem dX8_isRow_7 : decode cX8_isRow 7 = .ok (.ireturn, 1) := by decide +kernel
theorem dX8_isMissing_0 : decode cX8_isMissing 0 = .ok (.aload_n 0, 1) := by decide +kernel
theorem dX8_isMissing_1 : decode cX8_isMissing 1 = .ok (.getfield 7, 3) := by decide +kernel
theorem dX8_isMissing_4 : decode cX8_isMissing 4 = .ok (.iload_n 1, 1) := by decide +kernel
theorem dX8_isMissing_5 : decode cX8_isMissing 5 = .ok (.iaload, 1) := by decide +kernel
theorem dX8_isMissing_6 : decode cX8_isMissing 6 = .ok (.ldc 50, 2) := by decide +kernel
theorem dX8_isMissing_8 : decode cX8_isMissing 8 = .ok (.if_icmp .ne 7, 3) := by decide +kernel
theorem dX8_isMissing_11 : decode cX8_isMissing 11 = .ok (.iconst 1, 1) := by decide +kernel
theorem dX8_isMissing_12 : decode cX8_isMissing 12 = .ok (.goto 4, 3) := by decide +kernel
theorem dX8_isMissing_15 : decode cX8_isMissing 15 = .ok (.iconst 0, 1) := by decide +kernel
theorem dX8_isMissing_16 : decode cX8_isMissing 16 = .ok (.ireturn, 1) := by decide +kernel
theorem dX8_cut_0 : decode cX8_cut 0 = .ok (.iload_n 0, 1) := by decide +kernel
theorem dX8_cut_1 : decode cX8_cut 1 = .ok (.ifCond .ne 13, 3) := by decide +kernel
theorem dX8_cut_4 : decode cX8_cut 4 = .ok (.iload_n 1, 1) := by decide +kernel
theorem dX8_cut_5 : decode cX8_cut 5 = .ok (.bipush 24, 2) := by decide +kernel
theorem dX8_cut_7 : decode cX8_cut 7 = .ok (.ishl, 1) := by decide +kernel
theorem dX8_cut_8 : decode cX8_cut 8 = .ok (.bipush 24, 2) := by decide +kernel
theorem dX8_cut_10 : decode cX8_cut 10 = .ok (.ishr, 1) := by decide +kernel
theorem dX8_cut_11 : decode cX8_cut 11 = .ok (.goto 19, 3) := by decide +kernel
theorem dX8_cut_14 : decode cX8_cut 14 = .ok (.iload_n 0, 1) := by decide +kernel
theorem dX8_cut_15 : decode cX8_cut 15 = .ok (.iconst 1, 1) := by decide +kernel
theorem dX8_cut_16 : decode cX8_cut 16 = .ok (.if_icmp .ne 13, 3) := by decide +kernel
theorem dX8_cut_19 : decode cX8_cut 19 = .ok (.iload_n 1, 1) := by decide +kernel
theorem dX8_cut_20 : decode cX8_cut 20 = .ok (.bipush 16, 2) := by decide +kernel
theorem dX8_cut_22 : decode cX8_cut 22 = .ok (.ishl, 1) := by decide +kernel
theorem dX8_cut_23 : decode cX8_cut 23 = .ok (.bipush 16, 2) := by decide +kernel
theorem dX8_cut_25 : decode cX8_cut 25 = .ok (.ishr, 1) := by decide +kernel
theorem dX8_cut_26 : decode cX8_cut 26 = .ok (.goto 4, 3) := by decide +kernel
theorem dX8_cut_29 : decode cX8_cut 29 = .ok (.iload_n 1, 1) := by decide +kernel
theorem dX8_cut_30 : decode cX8_cut 30 = .ok (.ireturn, 1) := by decide +kernel
set_option maxRecDepth 20000 in
theorem ggX8_row_X8_isRow : GoodIn wsX8_row wsX8_isRow := goodIn_r _ [8, 9, 10, 7, 11] (by decide +kernel) (by decide +kernel)
set_option maxRecDepth 20000 in
theorem gX8_row_X8_isRow : GoodIn wsX8_row (va_wsS RX8 60 yX8_isRow wsX8_isRow) := goodIn_app (goodIn_of _ (by decide +kernel)) ggX8_row_X8_isRow
set_option maxRecDepth 20000 in
theorem ggX8_row_X8_in : GoodIn wsX8_row wsX8_in := goodIn_r _ [11] (by decide +kernel) (by decide +kernel)
set_option maxRecDepth 20000 in
theorem gX8_row_X8_in : GoodIn wsX8_row (va_wsS RX8 56 yX8_in wsX8_in) := goodIn_app (goodIn_of _ (by decide +kernel)) ggX8_row_X8_in
set_option maxRecDepth 20000 in
theorem ggX8_row_X8_found : GoodIn wsX8_row wsX8_found := goodIn_r _ [15, 16, 17, 22, 23, 24, 25, 26, 27, 28, 29, 30, 31, 32, 33, 34, 35, 36, 37, 38, 39, 40, 41, 42, 43, 44] (by decide +kernel) (by decide +kernel)
set_option maxRecDepth 20000 in
theorem gX8_row_X8_found : GoodIn wsX8_row (wsV RX8 65 RX8 yX8_found wsX8_found) := goodIn_app (goodIn_of _ (by decide +kernel)) ggX8_row_X8_found
set_option maxRecDepth 20000 in
theorem ggX8_row_X8_well : GoodIn wsX8_row wsX8_well := goodIn_r _ [21, 16, 22, 23, 24, 25, 26, 27, 28, 29, 30, 31, 32, 33, 34, 35, 36, 37, 38, 39, 40, 41, 42, 43, 44] (by decide +kernel) (by decide +kernel)
set_option maxRecDepth 20000 in
theorem gX8_row_X8_well : GoodIn wsX8_row (wsV RX8 69 RX8 yX8_well wsX8_well) := goodIn_app (goodIn_of _ (by decide +kernel)) ggX8_row_X8_well
theorem dX8_row_0 : decode cX8_row 0 = .ok (.iload_n 1, 1) := by decide +kernel
theorem dX8_row_1 : decode cX8_row 1 = .ok (.invokestatic 60, 3) := by decide +kernel
theorem dX8_row_4 : decode cX8_row 4 = .ok (.ifCond .eq 18, 3) := by decide +kernel
theorem dX8_row_7 : decode cX8_row 7 = .ok (.iload_n 2, 1) := by decide +kernel
theorem dX8_row_8 : decode cX8_row 8 = .ok (.iconst 0, 1) := by decide +kernel
theorem dX8_row_9 : decode cX8_row 9 = .ok (.iconst 2, 1) := by decide +kernel
theorem dX8_row_10 : decode cX8_row 10 = .ok (.invokestatic 56, 3) := by decide +kernel
theorem dX8_row_13 : decode cX8_row 13 = .ok (.ifCond .eq 9, 3) := by decide +kernel
theorem dX8_row_16 : decode cX8_row 16 = .ok (.iload_n 3, 1) := by decide +kernel
theorem dX8_row_17 : decode cX8_row 17 = .ok (.bipush 40, 2) := by decide +kernel
theorem dX8_row_19 : decode cX8_row 19 = .ok (.if_icmp .le 6, 3) := by decide +kernel
theorem dX8_row_22 : decode cX8_row 22 = .ok (.ldc 64, 2) := by decide +kernel
theorem dX8_row_24 : decode cX8_row 24 = .ok (.ireturn, 1) := by decide +kernel
theorem dX8_row_25 : decode cX8_row 25 = .ok (.iload_n 3, 1) := by decide +kernel
theorem dX8_row_26 : decode cX8_row 26 = .ok (.ifCond .ge 9, 3) := by decide +kernel
theorem dX8_row_29 : decode cX8_row 29 = .ok (.aload_n 0, 1) := by decide +kernel
theorem dX8_row_30 : decode cX8_row 30 = .ok (.iconst 4, 1) := by decide +kernel
theorem dX8_row_31 : decode cX8_row 31 = .ok (.invokevirtual 65, 3) := by decide +kernel
theorem dX8_row_34 : decode cX8_row 34 = .ok (.ireturn, 1) := by decide +kernel
theorem dX8_row_35 : decode cX8_row 35 = .ok (.aload_n 0, 1) := by decide +kernel
theorem dX8_row_36 : decode cX8_row 36 = .ok (.getfield 7, 3) := by decide +kernel
theorem dX8_row_39 : decode cX8_row 39 = .ok (.iload_n 1, 1) := by decide +kernel
theorem dX8_row_40 : decode cX8_row 40 = .ok (.iload_n 2, 1) := by decide +kernel
theorem dX8_row_41 : decode cX8_row 41 = .ok (.iastore, 1) := by decide +kernel
theorem dX8_row_42 : decode cX8_row 42 = .ok (.aload_n 0, 1) := by decide +kernel
theorem dX8_row_43 : decode cX8_row 43 = .ok (.getfield 13, 3) := by decide +kernel
theorem dX8_row_46 : decode cX8_row 46 = .ok (.iload_n 1, 1) := by decide +kernel
theorem dX8_row_47 : decode cX8_row 47 = .ok (.iload_n 3, 1) := by decide +kernel
theorem dX8_row_48 : decode cX8_row 48 = .ok (.iastore, 1) := by decide +kernel
theorem dX8_row_49 : decode cX8_row 49 = .ok (.iconst 0, 1) := by decide +kernel
theorem dX8_row_50 : decode cX8_row 50 = .ok (.istore 4, 2) := by decide +kernel
theorem dX8_row_52 : decode cX8_row 52 = .ok (.iload 4, 2) := by decide +kernel
theorem dX8_row_54 : decode cX8_row 54 = .ok (.bipush 40, 2) := by decide +kernel
theorem dX8_row_56 : decode cX8_row 56 = .ok (.if_icmp .ge 22, 3) := by decide +kernel
theorem dX8_row_59 : decode cX8_row 59 = .ok (.aload_n 0, 1) := by decide +kernel
theorem dX8_row_60 : decode cX8_row 60 = .ok (.getfield 16, 3) := by decide +kernel
theorem dX8_row_63 : decode cX8_row 63 = .ok (.bipush 40, 2) := by decide +kernel
theorem dX8_row_65 : decode cX8_row 65 = .ok (.iload_n 1, 1) := by decide +kernel
theorem dX8_row_66 : decode cX8_row 66 = .ok (.imul, 1) := by decide +kernel
theorem dX8_row_67 : decode cX8_row 67 = .ok (.iload 4, 2) := by decide +kernel
theorem dX8_row_69 : decode cX8_row 69 = .ok (.iadd, 1) := by decide +kernel
theorem dX8_row_70 : decode cX8_row 70 = .ok (.iconst 0, 1) := by decide +kernel
theorem dX8_row_71 : decode cX8_row 71 = .ok (.iastore, 1) := by decide +kernel
theorem dX8_row_72 : decode cX8_row 72 = .ok (.iinc 4 1, 3) := by decide +kernel
theorem dX8_row_75 : decode cX8_row 75 = .ok (.goto (-23), 3) := by decide +kernel
theorem dX8_row_78 : decode cX8_row 78 = .ok (.aload_n 0, 1) := by decide +kernel
theorem dX8_row_79 : decode cX8_row 79 = .ok (.iload_n 3, 1) := by decide +kernel
theorem dX8_row_80 : decode cX8_row 80 = .ok (.invokevirtual 69, 3) := by decide +kernel
theorem dX8_row_83 : decode cX8_row 83 = .ok (.ireturn, 1) := by decide +kernel
set_option maxRecDepth 20000 in
theorem ggX8_set_X8_isRow : GoodIn wsX8_set wsX8_isRow := goodIn_r _ [8, 9, 10, 7, 11] (by decide +kernel) (by decide +kernel)
set_option maxRecDepth 20000 in
theorem gX8_set_X8_isRow : GoodIn wsX8_set (va_wsS RX8 60 yX8_isRow wsX8_isRow) := goodIn_app (goodIn_of _ (by decide +kernel)) ggX8_set_X8_isRow
set_option maxRecDepth 20000 in
theorem ggX8_set_X8_isMissing : GoodIn wsX8_set wsX8_isMissing := goodIn_r _ [15, 4, 16, 30, 31, 32, 33, 34, 35, 36, 37, 38, 39, 40, 41, 42, 43, 44, 45, 46, 47, 48, 49, 50, 51, 52] (by decide +kernel) (by decide +kernel)
set_option maxRecDepth 20000 in
theorem gX8_set_X8_isMissing : GoodIn wsX8_set (wsV RX8 72 RX8 yX8_isMissing wsX8_isMissing) := goodIn_app (goodIn_of _ (by decide +kernel)) ggX8_set_X8_isMissing
set_option maxRecDepth 20000 in
theorem ggX8_set_X8_found : GoodIn wsX8_set wsX8_found := goodIn_r _ [20, 21, 22, 30, 31, 32, 33, 34, 35, 36, 37, 38, 39, 40, 41, 42, 43, 44, 45, 46, 47, 48, 49, 50, 51, 52] (by decide +kernel) (by decide +kernel)
set_option maxRecDepth 20000 in
theorem gX8_set_X8_found : GoodIn wsX8_set (wsV RX8 65 RX8 yX8_found wsX8_found) := goodIn_app (goodIn_of _ (by decide +kernel)) ggX8_set_X8_found
set_option maxRecDepth 20000 in
theorem ggX8_set_X8_in : GoodIn wsX8_set wsX8_in := goodIn_r _ [11] (by decide +kernel) (by decide +kernel)
set_option maxRecDepth 20000 in
theorem gX8_set_X8_in : GoodIn wsX8_set (va_wsS RX8 56 yX8_in wsX8_in) := goodIn_app (goodIn_of _ (by decide +kernel)) ggX8_set_X8_in
set_option maxRecDepth 20000 in
theorem ggX8_set_X8_cut : GoodIn wsX8_set wsX8_cut := goodIn_r _ [25] (by decide +kernel) (by decide +kernel)
set_option maxRecDepth 20000 in
theorem gX8_set_X8_cut : GoodIn wsX8_set (va_wsS RX8 75 yX8_cut wsX8_cut) := goodIn_app (goodIn_of _ (by decide +kernel)) ggX8_set_X8_cut
set_option maxRecDepth 20000 in
theorem ggX8_set_X8_well : GoodIn wsX8_set wsX8_well := goodIn_r _ [29, 21, 30, 31, 32, 33, 34, 35, 36, 37, 38, 39, 40, 41, 42, 43, 44, 45, 46, 47, 48, 49, 50, 51, 52] (by decide +kernel) (by decide +kernel)
set_option maxRecDepth 20000 in
theorem gX8_set_X8_well : GoodIn wsX8_set (wsV RX8 69 RX8 yX8_well wsX8_well) := goodIn_app (goodIn_of _ (by decide +kernel)) ggX8_set_X8_well
theorem dX8_set_0 : decode cX8_set 0 = .ok (.iload_n 1, 1) := by decide +kernel
theorem dX8_set_1 : decode cX8_set 1 = .ok (.invokestatic 60, 3) := by decide +kernel
theorem dX8_set_4 : decode cX8_set 4 = .ok (.ifCond .ne 6, 3) := by decide +kernel
theorem dX8_set_7 : decode cX8_set 7 = .ok (.ldc 64, 2) := by decide +kernel
theorem dX8_set_9 : decode cX8_set 9 = .ok (.ireturn, 1) := by decide +kernel
theorem dX8_set_10 : decode cX8_set 10 = .ok (.aload_n 0, 1) := by decide +kernel
theorem dX8_set_11 : decode cX8_set 11 = .ok (.iload_n 1, 1) := by decide +kernel
theorem dX8_set_12 : decode cX8_set 12 = .ok (.invokevirtual 72, 3) := by decide +kernel
theorem dX8_set_15 : decode cX8_set 15 = .ok (.ifCond .eq 9, 3) := by decide +kernel
theorem dX8_set_18 : decode cX8_set 18 = .ok (.aload_n 0, 1) := by decide +kernel
theorem dX8_set_19 : decode cX8_set 19 = .ok (.iconst 1, 1) := by decide +kernel
theorem dX8_set_20 : decode cX8_set 20 = .ok (.invokevirtual 65, 3) := by decide +kernel
theorem dX8_set_23 : decode cX8_set 23 = .ok (.ireturn, 1) := by decide +kernel
theorem dX8_set_24 : decode cX8_set 24 = .ok (.iload_n 2, 1) := by decide +kernel
theorem dX8_set_25 : decode cX8_set 25 = .ok (.iconst 0, 1) := by decide +kernel
theorem dX8_set_26 : decode cX8_set 26 = .ok (.aload_n 0, 1) := by decide +kernel
theorem dX8_set_27 : decode cX8_set 27 = .ok (.getfield 13, 3) := by decide +kernel
theorem dX8_set_30 : decode cX8_set 30 = .ok (.iload_n 1, 1) := by decide +kernel
theorem dX8_set_31 : decode cX8_set 31 = .ok (.iaload, 1) := by decide +kernel
theorem dX8_set_32 : decode cX8_set 32 = .ok (.iconst 1, 1) := by decide +kernel
theorem dX8_set_33 : decode cX8_set 33 = .ok (.isub, 1) := by decide +kernel
theorem dX8_set_34 : decode cX8_set 34 = .ok (.invokestatic 56, 3) := by decide +kernel
theorem dX8_set_37 : decode cX8_set 37 = .ok (.ifCond .ne 9, 3) := by decide +kernel
theorem dX8_set_40 : decode cX8_set 40 = .ok (.aload_n 0, 1) := by decide +kernel
theorem dX8_set_41 : decode cX8_set 41 = .ok (.iconst 2, 1) := by decide +kernel
theorem dX8_set_42 : decode cX8_set 42 = .ok (.invokevirtual 65, 3) := by decide +kernel
theorem dX8_set_45 : decode cX8_set 45 = .ok (.ireturn, 1) := by decide +kernel
theorem dX8_set_46 : decode cX8_set 46 = .ok (.aload_n 0, 1) := by decide +kernel
theorem dX8_set_47 : decode cX8_set 47 = .ok (.getfield 16, 3) := by decide +kernel
theorem dX8_set_50 : decode cX8_set 50 = .ok (.bipush 40, 2) := by decide +kernel
theorem dX8_set_52 : decode cX8_set 52 = .ok (.iload_n 1, 1) := by decide +kernel
theorem dX8_set_53 : decode cX8_set 53 = .ok (.imul, 1) := by decide +kernel
theorem dX8_set_54 : decode cX8_set 54 = .ok (.iload_n 2, 1) := by decide +kernel
theorem dX8_set_55 : decode cX8_set 55 = .ok (.iadd, 1) := by decide +kernel
theorem dX8_set_56 : decode cX8_set 56 = .ok (.aload_n 0, 1) := by decide +kernel
theorem dX8_set_57 : decode cX8_set 57 = .ok (.getfield 7, 3) := by decide +kernel
theorem dX8_set_60 : decode cX8_set 60 = .ok (.iload_n 1, 1) := by decide +kernel
theorem dX8_set_61 : decode cX8_set 61 = .ok (.iaload, 1) := by decide +kernel
theorem dX8_set_62 : decode cX8_set 62 = .ok (.iload_n 3, 1) := by decide +kernel
theorem dX8_set_63 : decode cX8_set 63 = .ok (.invokestatic 75, 3) := by decide +kernel
theorem dX8_set_66 : decode cX8_set 66 = .ok (.iastore, 1) := by decide +kernel
theorem dX8_set_67 : decode cX8_set 67 = .ok (.aload_n 0, 1) := by decide +kernel
theorem dX8_set_68 : decode cX8_set 68 = .ok (.aload_n 0, 1) := by decide +kernel
theorem dX8_set_69 : decode cX8_set 69 = .ok (.getfield 16, 3) := by decide +kernel
theorem dX8_set_72 : decode cX8_set 72 = .ok (.bipush 40, 2) := by decide +kernel
theorem dX8_set_74 : decode cX8_set 74 = .ok (.iload_n 1, 1) := by decide +kernel
theorem dX8_set_75 : decode cX8_set 75 = .ok (.imul, 1) := by decide +kernel
theorem dX8_set_76 : decode cX8_set 76 = .ok (.iload_n 2, 1) := by decide +kernel
theorem dX8_set_77 : decode cX8_set 77 = .ok (.iadd, 1) := by decide +kernel
theorem dX8_set_78 : decode cX8_set 78 = .ok (.iaload, 1) := by decide +kernel
theorem dX8_set_79 : decode cX8_set 79 = .ok (.invokevirtual 69, 3) := by decide +kernel
theorem dX8_set_82 : decode cX8_set 82 = .ok (.ireturn, 1) := by decide +kernel
theorem dX8_isPart_0 : decode cX8_isPart 0 = .ok (.iload_n 2, 1) := by decide +kernel
theorem dX8_isPart_1 : decode cX8_isPart 1 = .ok (.ifCond .lt 33, 3) := by decide +kernel
theorem dX8_isPart_4 : decode cX8_isPart 4 = .ok (.iload_n 3, 1) := by decide +kernel
theorem dX8_isPart_5 : decode cX8_isPart 5 = .ok (.ifCond .lt 29, 3) := by decide +kernel
theorem dX8_isPart_8 : decode cX8_isPart 8 = .ok (.iload_n 2, 1) := by decide +kernel
theorem dX8_isPart_9 : decode cX8_isPart 9 = .ok (.aload_n 0, 1) := by decide +kernel
theorem dX8_isPart_10 : decode cX8_isPart 10 = .ok (.getfield 13, 3) := by decide +kernel
theorem dX8_isPart_13 : decode cX8_isPart 13 = .ok (.iload_n 1, 1) := by decide +kernel
theorem dX8_isPart_14 : decode cX8_isPart 14 = .ok (.iaload, 1) := by decide +kernel
theorem dX8_isPart_15 : decode cX8_isPart 15 = .ok (.if_icmp .gt 19, 3) := by decide +kernel
theorem dX8_isPart_18 : decode cX8_isPart 18 = .ok (.iload_n 3, 1) := by decide +kernel
theorem dX8_isPart_19 : decode cX8_isPart 19 = .ok (.aload_n 0, 1) := by decide +kernel
theorem dX8_isPart_20 : decode cX8_isPart 20 = .ok (.getfield 13, 3) := by decide +kernel
theorem dX8_isPart_23 : decode cX8_isPart 23 = .ok (.iload_n 1, 1) := by decide +kernel
theorem dX8_isPart_24 : decode cX8_isPart 24 = .ok (.iaload, 1) := by decide +kernel
theorem dX8_isPart_25 : decode cX8_isPart 25 = .ok (.iload_n 2, 1) := by decide +kernel
theorem dX8_isPart_26 : decode cX8_isPart 26 = .ok (.isub, 1) := by decide +kernel
theorem dX8_isPart_27 : decode cX8_isPart 27 = .ok (.if_icmp .gt 7, 3) := by decide +kernel
theorem dX8_isPart_30 : decode cX8_isPart 30 = .ok (.iconst 1, 1) := by decide +kernel
theorem dX8_isPart_31 : decode cX8_isPart 31 = .ok (.goto 4, 3) := by decide +kernel
theorem dX8_isPart_34 : decode cX8_isPart 34 = .ok (.iconst 0, 1) := by decide +kernel
theorem dX8_isPart_35 : decode cX8_isPart 35 = .ok (.ireturn, 1) := by decide +kernel
set_option maxRecDepth 20000 in
theorem ggX8_copy_X8_isRow : GoodIn wsX8_copy wsX8_isRow := goodIn_r _ [8, 9, 10, 7, 11] (by decide +kernel) (by decide +kernel)
set_option maxRecDepth 20000 in
theorem gX8_copy_X8_isRow : GoodIn wsX8_copy (va_wsS RX8 60 yX8_isRow wsX8_isRow) := goodIn_app (goodIn_of _ (by decide +kernel)) ggX8_copy_X8_isRow
set_option maxRecDepth 20000 in
theorem ggX8_copy_X8_isMissing : GoodIn wsX8_copy wsX8_isMissing := goodIn_r _ [15, 2, 16, 32, 33, 34, 35, 36, 37, 38, 39, 40, 41, 42, 43, 44, 45, 46, 47, 48, 49, 50, 51, 52, 53, 54] (by decide +kernel) (by decide +kernel)
set_option maxRecDepth 20000 in
theorem gX8_copy_X8_isMissing : GoodIn wsX8_copy (wsV RX8 72 RX8 yX8_isMissing wsX8_isMissing) := goodIn_app (goodIn_of _ (by decide +kernel)) ggX8_copy_X8_isMissing
set_option maxRecDepth 20000 in
theorem ggX8_copy_X8_found : GoodIn wsX8_copy wsX8_found := goodIn_r _ [20, 21, 22, 32, 33, 34, 35, 36, 37, 38, 39, 40, 41, 42, 43, 44, 45, 46, 47, 48, 49, 50, 51, 52, 53, 54] (by decide +kernel) (by decide +kernel)
set_option maxRecDepth 20000 in
theorem gX8_copy_X8_found : GoodIn wsX8_copy (wsV RX8 65 RX8 yX8_found wsX8_found) := goodIn_app (goodIn_of _ (by decide +kernel)) ggX8_copy_X8_found
set_option maxRecDepth 20000 in
theorem ggX8_copy_X8_isPart : GoodIn wsX8_copy wsX8_isPart := goodIn_r _ [26, 27, 32, 33, 34, 35, 36, 37, 38, 39, 40, 41, 42, 43, 44, 45, 46, 47, 48, 49, 50, 51, 52, 53, 54] (by decide +kernel) (by decide +kernel)
set_option maxRecDepth 20000 in
theorem gX8_copy_X8_isPart : GoodIn wsX8_copy (wsV RX8 79 RX8 yX8_isPart wsX8_isPart) := goodIn_app (goodIn_of _ (by decide +kernel)) ggX8_copy_X8_isPart
set_option maxRecDepth 20000 in
theorem ggX8_copy_X8_well : GoodIn wsX8_copy wsX8_well := goodIn_r _ [31, 21, 32, 33, 34, 35, 36, 37, 38, 39, 40, 41, 42, 43, 44, 45, 46, 47, 48, 49, 50, 51, 52, 53, 54] (by decide +kernel) (by decide +kernel)
set_option maxRecDepth 20000 in
theorem gX8_copy_X8_well : GoodIn wsX8_copy (wsV RX8 69 RX8 yX8_well wsX8_well) := goodIn_app (goodIn_of _ (by decide +kernel)) ggX8_copy_X8_well
theorem dX8_copy_0 : decode cX8_copy 0 = .ok (.iload_n 1, 1) := by decide +kernel
theorem dX8_copy_1 : decode cX8_copy 1 = .ok (.invokestatic 60, 3) := by decide +kernel
theorem dX8_copy_4 : decode cX8_copy 4 = .ok (.ifCond .eq 10, 3) := by decide +kernel
theorem dX8_copy_7 : decode cX8_copy 7 = .ok (.iload_n 3, 1) := by decide +kernel
theorem dX8_copy_8 : decode cX8_copy 8 = .ok (.invokestatic 60, 3) := by decide +kernel
theorem dX8_copy_11 : decode cX8_copy 11 = .ok (.ifCond .ne 6, 3) := by decide +kernel
theorem dX8_copy_14 : decode cX8_copy 14 = .ok (.ldc 64, 2) := by decide +kernel
theorem dX8_copy_16 : decode cX8_copy 16 = .ok (.ireturn, 1) := by decide +kernel
theorem dX8_copy_17 : decode cX8_copy 17 = .ok (.aload_n 0, 1) := by decide +kernel
theorem dX8_copy_18 : decode cX8_copy 18 = .ok (.iload_n 1, 1) := by decide +kernel
theorem dX8_copy_19 : decode cX8_copy 19 = .ok (.invokevirtual 72, 3) := by decide +kernel
theorem dX8_copy_22 : decode cX8_copy 22 = .ok (.ifCond .ne 11, 3) := by decide +kernel
theorem dX8_copy_25 : decode cX8_copy 25 = .ok (.aload_n 0, 1) := by decide +kernel
theorem dX8_copy_26 : decode cX8_copy 26 = .ok (.iload_n 3, 1) := by decide +kernel
theorem dX8_copy_27 : decode cX8_copy 27 = .ok (.invokevirtual 72, 3) := by decide +kernel
theorem dX8_copy_30 : decode cX8_copy 30 = .ok (.ifCond .eq 9, 3) := by decide +kernel
theorem dX8_copy_33 : decode cX8_copy 33 = .ok (.aload_n 0, 1) := by decide +kernel
theorem dX8_copy_34 : decode cX8_copy 34 = .ok (.iconst 1, 1) := by decide +kernel
theorem dX8_copy_35 : decode cX8_copy 35 = .ok (.invokevirtual 65, 3) := by decide +kernel
theorem dX8_copy_38 : decode cX8_copy 38 = .ok (.ireturn, 1) := by decide +kernel
theorem dX8_copy_39 : decode cX8_copy 39 = .ok (.aload_n 0, 1) := by decide +kernel
theorem dX8_copy_40 : decode cX8_copy 40 = .ok (.getfield 7, 3) := by decide +kernel
theorem dX8_copy_43 : decode cX8_copy 43 = .ok (.iload_n 1, 1) := by decide +kernel
theorem dX8_copy_44 : decode cX8_copy 44 = .ok (.iaload, 1) := by decide +kernel
theorem dX8_copy_45 : decode cX8_copy 45 = .ok (.aload_n 0, 1) := by decide +kernel
theorem dX8_copy_46 : decode cX8_copy 46 = .ok (.getfield 7, 3) := by decide +kernel
theorem dX8_copy_49 : decode cX8_copy 49 = .ok (.iload_n 3, 1) := by decide +kernel
theorem dX8_copy_50 : decode cX8_copy 50 = .ok (.iaload, 1) := by decide +kernel
theorem dX8_copy_51 : decode cX8_copy 51 = .ok (.if_icmp .eq 9, 3) := by decide +kernel
theorem dX8_copy_54 : decode cX8_copy 54 = .ok (.aload_n 0, 1) := by decide +kernel
theorem dX8_copy_55 : decode cX8_copy 55 = .ok (.iconst 5, 1) := by decide +kernel
theorem dX8_copy_56 : decode cX8_copy 56 = .ok (.invokevirtual 65, 3) := by decide +kernel
theorem dX8_copy_59 : decode cX8_copy 59 = .ok (.ireturn, 1) := by decide +kernel
theorem dX8_copy_60 : decode cX8_copy 60 = .ok (.aload_n 0, 1) := by decide +kernel
theorem dX8_copy_61 : decode cX8_copy 61 = .ok (.iload_n 1, 1) := by decide +kernel
theorem dX8_copy_62 : decode cX8_copy 62 = .ok (.iload_n 2, 1) := by decide +kernel
theorem dX8_copy_63 : decode cX8_copy 63 = .ok (.iload 5, 2) := by decide +kernel
theorem dX8_copy_65 : decode cX8_copy 65 = .ok (.invokevirtual 79, 3) := by decide +kernel
theorem dX8_copy_68 : decode cX8_copy 68 = .ok (.ifCond .eq 15, 3) := by decide +kernel
theorem dX8_copy_71 : decode cX8_copy 71 = .ok (.aload_n 0, 1) := by decide +kernel
theorem dX8_copy_72 : decode cX8_copy 72 = .ok (.iload_n 3, 1) := by decide +kernel
theorem dX8_copy_73 : decode cX8_copy 73 = .ok (.iload 4, 2) := by decide +kernel
theorem dX8_copy_75 : decode cX8_copy 75 = .ok (.iload 5, 2) := by decide +kernel
theorem dX8_copy_77 : decode cX8_copy 77 = .ok (.invokevirtual 79, 3) := by decide +kernel
theorem dX8_copy_80 : decode cX8_copy 80 = .ok (.ifCond .ne 9, 3) := by decide +kernel
theorem dX8_copy_83 : decode cX8_copy 83 = .ok (.aload_n 0, 1) := by decide +kernel
theorem dX8_copy_84 : decode cX8_copy 84 = .ok (.iconst 2, 1) := by decide +kernel
theorem dX8_copy_85 : decode cX8_copy 85 = .ok (.invokevirtual 65, 3) := by decide +kernel
theorem dX8_copy_88 : decode cX8_copy 88 = .ok (.ireturn, 1) := by decide +kernel
theorem dX8_copy_89 : decode cX8_copy 89 = .ok (.iconst 0, 1) := by decide +kernel
theorem dX8_copy_90 : decode cX8_copy 90 = .ok (.istore 6, 2) := by decide +kernel
theorem dX8_copy_92 : decode cX8_copy 92 = .ok (.iload 6, 2) := by decide +kernel
theorem dX8_copy_94 : decode cX8_copy 94 = .ok (.iload 5, 2) := by decide +kernel
theorem dX8_copy_96 : decode cX8_copy 96 = .ok (.if_icmp .ge 30, 3) := by decide +kernel
theorem dX8_copy_99 : decode cX8_copy 99 = .ok (.aload_n 0, 1) := by decide +kernel
theorem dX8_copy_100 : decode cX8_copy 100 = .ok (.getfield 19, 3) := by decide +kernel
theorem dX8_copy_103 : decode cX8_copy 103 = .ok (.iload 6, 2) := by decide +kernel
theorem dX8_copy_105 : decode cX8_copy 105 = .ok (.aload_n 0, 1) := by decide +kernel
theorem dX8_copy_106 : decode cX8_copy 106 = .ok (.getfield 16, 3) := by decide +kernel
theorem dX8_copy_109 : decode cX8_copy 109 = .ok (.bipush 40, 2) := by decide +kernel
theorem dX8_copy_111 : decode cX8_copy 111 = .ok (.iload_n 1, 1) := by decide +kernel
theorem dX8_copy_112 : decode cX8_copy 112 = .ok (.imul, 1) := by decide +kernel
theorem dX8_copy_113 : decode cX8_copy 113 = .ok (.iload_n 2, 1) := by decide +kernel
theorem dX8_copy_114 : decode cX8_copy 114 = .ok (.iadd, 1) := by decide +kernel
theorem dX8_copy_115 : decode cX8_copy 115 = .ok (.iload 6, 2) := by decide +kernel
theorem dX8_copy_117 : decode cX8_copy 117 = .ok (.iadd, 1) := by decide +kernel
theorem dX8_copy_118 : decode cX8_copy 118 = .ok (.iaload, 1) := by decide +kernel
theorem dX8_copy_119 : decode cX8_copy 119 = .ok (.iastore, 1) := by decide +kernel
theorem dX8_copy_120 : decode cX8_copy 120 = .ok (.iinc 6 1, 3) := by decide +kernel
theorem dX8_copy_123 : decode cX8_copy 123 = .ok (.goto (-31), 3) := by decide +kernel
theorem dX8_copy_126 : decode cX8_copy 126 = .ok (.iconst 0, 1) := by decide +kernel
theorem dX8_copy_127 : decode cX8_copy 127 = .ok (.istore 6, 2) := by decide +kernel
theorem dX8_copy_129 : decode cX8_copy 129 = .ok (.iload 6, 2) := by decide +kernel
theorem dX8_copy_131 : decode cX8_copy 131 = .ok (.iload 5, 2) := by decide +kernel
theorem dX8_copy_133 : decode cX8_copy 133 = .ok (.if_icmp .ge 31, 3) := by decide +kernel
theorem dX8_copy_136 : decode cX8_copy 136 = .ok (.aload_n 0, 1) := by decide +kernel
theorem dX8_copy_137 : decode cX8_copy 137 = .ok (.getfield 16, 3) := by decide +kernel
theorem dX8_copy_140 : decode cX8_copy 140 = .ok (.bipush 40, 2) := by decide +kernel
theorem dX8_copy_142 : decode cX8_copy 142 = .ok (.iload_n 3, 1) := by decide +kernel
theorem dX8_copy_143 : decode cX8_copy 143 = .ok (.imul, 1) := by decide +kernel
theorem dX8_copy_144 : decode cX8_copy 144 = .ok (.iload 4, 2) := by decide +kernel
theorem dX8_copy_146 : decode cX8_copy 146 = .ok (.iadd, 1) := by decide +kernel
theorem dX8_copy_147 : decode cX8_copy 147 = .ok (.iload 6, 2) := by decide +kernel
theorem dX8_copy_149 : decode cX8_copy 149 = .ok (.iadd, 1) := by decide +kernel
theorem dX8_copy_150 : decode cX8_copy 150 = .ok (.aload_n 0, 1) := by decide +kernel
theorem dX8_copy_151 : decode cX8_copy 151 = .ok (.getfield 19, 3) := by decide +kernel
theorem dX8_copy_154 : decode cX8_copy 154 = .ok (.iload 6, 2) := by decide +kernel
theorem dX8_copy_156 : decode cX8_copy 156 = .ok (.iaload, 1) := by decide +kernel
theorem dX8_copy_157 : decode cX8_copy 157 = .ok (.iastore, 1) := by decide +kernel
theorem dX8_copy_158 : decode cX8_copy 158 = .ok (.iinc 6 1, 3) := by decide +kernel
theorem dX8_copy_161 : decode cX8_copy 161 = .ok (.goto (-32), 3) := by decide +kernel
theorem dX8_copy_164 : decode cX8_copy 164 = .ok (.aload_n 0, 1) := by decide +kernel
theorem dX8_copy_165 : decode cX8_copy 165 = .ok (.iload 5, 2) := by decide +kernel
theorem dX8_copy_167 : decode cX8_copy 167 = .ok (.invokevirtual 69, 3) := by decide +kernel
theorem dX8_copy_170 : decode cX8_copy 170 = .ok (.ireturn, 1) := by decide +kernel
set_option maxRecDepth 20000 in
theorem ggX8_drop_X8_isRow : GoodIn wsX8_drop wsX8_isRow := goodIn_r _ [8, 9, 10, 7, 11] (by decide +kernel) (by decide +kernel)
set_option maxRecDepth 20000 in
theorem gX8_drop_X8_isRow : GoodIn wsX8_drop (va_wsS RX8 60 yX8_isRow wsX8_isRow) := goodIn_app (goodIn_of _ (by decide +kernel)) ggX8_drop_X8_isRow
set_option maxRecDepth 20000 in
theorem ggX8_drop_X8_isMissing : GoodIn wsX8_drop wsX8_isMissing := goodIn_r _ [15, 2, 3, 26, 27, 28, 29, 30, 31, 32, 33, 34, 35, 36, 37, 38, 39, 40, 41, 42, 43, 44, 45, 46, 47, 48] (by decide +kernel) (by decide +kernel)
set_option maxRecDepth 20000 in
theorem gX8_drop_X8_isMissing : GoodIn wsX8_drop (wsV RX8 72 RX8 yX8_isMissing wsX8_isMissing) := goodIn_app (goodIn_of _ (by decide +kernel)) ggX8_drop_X8_isMissing
set_option maxRecDepth 20000 in
theorem ggX8_drop_X8_found : GoodIn wsX8_drop wsX8_found := goodIn_r _ [19, 20, 21, 26, 27, 28, 29, 30, 31, 32, 33, 34, 35, 36, 37, 38, 39, 40, 41, 42, 43, 44, 45, 46, 47, 48] (by decide +kernel) (by decide +kernel)
set_option maxRecDepth 20000 in
theorem gX8_drop_X8_found : GoodIn wsX8_drop (wsV RX8 65 RX8 yX8_found wsX8_found) := goodIn_app (goodIn_of _ (by decide +kernel)) ggX8_drop_X8_found
set_option maxRecDepth 20000 in
theorem ggX8_drop_X8_well : GoodIn wsX8_drop wsX8_well := goodIn_r _ [25, 20, 26, 27, 28, 29, 30, 31, 32, 33, 34, 35, 36, 37, 38, 39, 40, 41, 42, 43, 44, 45, 46, 47, 48] (by decide +kernel) (by decide +kernel)
set_option maxRecDepth 20000 in
theorem gX8_drop_X8_well : GoodIn wsX8_drop (wsV RX8 69 RX8 yX8_well wsX8_well) := goodIn_app (goodIn_of _ (by decide +kernel)) ggX8_drop_X8_well
theorem dX8_drop_0 : decode cX8_drop 0 = .ok (.iload_n 1, 1) := by decide +kernel
theorem dX8_drop_1 : decode cX8_drop 1 = .ok (.invokestatic 60, 3) := by decide +kernel
theorem dX8_drop_4 : decode cX8_drop 4 = .ok (.ifCond .ne 6, 3) := by decide +kernel
theorem dX8_drop_7 : decode cX8_drop 7 = .ok (.ldc 64, 2) := by decide +kernel
theorem dX8_drop_9 : decode cX8_drop 9 = .ok (.ireturn, 1) := by decide +kernel
theorem dX8_drop_10 : decode cX8_drop 10 = .ok (.aload_n 0, 1) := by decide +kernel
theorem dX8_drop_11 : decode cX8_drop 11 = .ok (.iload_n 1, 1) := by decide +kernel
theorem dX8_drop_12 : decode cX8_drop 12 = .ok (.invokevirtual 72, 3) := by decide +kernel
theorem dX8_drop_15 : decode cX8_drop 15 = .ok (.ifCond .eq 9, 3) := by decide +kernel
theorem dX8_drop_18 : decode cX8_drop 18 = .ok (.aload_n 0, 1) := by decide +kernel
theorem dX8_drop_19 : decode cX8_drop 19 = .ok (.iconst 1, 1) := by decide +kernel
theorem dX8_drop_20 : decode cX8_drop 20 = .ok (.invokevirtual 65, 3) := by decide +kernel
theorem dX8_drop_23 : decode cX8_drop 23 = .ok (.ireturn, 1) := by decide +kernel
theorem dX8_drop_24 : decode cX8_drop 24 = .ok (.aload_n 0, 1) := by decide +kernel
theorem dX8_drop_25 : decode cX8_drop 25 = .ok (.getfield 7, 3) := by decide +kernel
theorem dX8_drop_28 : decode cX8_drop 28 = .ok (.iload_n 1, 1) := by decide +kernel
theorem dX8_drop_29 : decode cX8_drop 29 = .ok (.ldc 50, 2) := by decide +kernel
theorem dX8_drop_31 : decode cX8_drop 31 = .ok (.iastore, 1) := by decide +kernel
theorem dX8_drop_32 : decode cX8_drop 32 = .ok (.aload_n 0, 1) := by decide +kernel
theorem dX8_drop_33 : decode cX8_drop 33 = .ok (.aload_n 0, 1) := by decide +kernel
theorem dX8_drop_34 : decode cX8_drop 34 = .ok (.getfield 13, 3) := by decide +kernel
theorem dX8_drop_37 : decode cX8_drop 37 = .ok (.iload_n 1, 1) := by decide +kernel
theorem dX8_drop_38 : decode cX8_drop 38 = .ok (.iaload, 1) := by decide +kernel
theorem dX8_drop_39 : decode cX8_drop 39 = .ok (.invokevirtual 69, 3) := by decide +kernel
theorem dX8_drop_42 : decode cX8_drop 42 = .ok (.ireturn, 1) := by decide +kernel
set_option maxRecDepth 20000 in
theorem ggX8_feed_X8_in : GoodIn wsX8_feed wsX8_in := goodIn_r _ [8] (by decide +kernel) (by decide +kernel)
set_option maxRecDepth 20000 in
theorem gX8_feed_X8_in : GoodIn wsX8_feed (va_wsS RX8 56 yX8_in wsX8_in) := goodIn_app (goodIn_of _ (by decide +kernel)) ggX8_feed_X8_in
theorem dX8_feed_0 : decode cX8_feed 0 = .ok (.iload_n 1, 1) := by decide +kernel
theorem dX8_feed_1 : decode cX8_feed 1 = .ok (.iconst 0, 1) := by decide +kernel
theorem dX8_feed_2 : decode cX8_feed 2 = .ok (.sipush 255, 3) := by decide +kernel
theorem dX8_feed_5 : decode cX8_feed 5 = .ok (.invokestatic 56, 3) := by decide +kernel
theorem dX8_feed_8 : decode cX8_feed 8 = .ok (.ifCond .ne 6, 3) := by decide +kernel
theorem dX8_feed_11 : decode cX8_feed 11 = .ok (.ldc 64, 2) := by decide +kernel
theorem dX8_feed_13 : decode cX8_feed 13 = .ok (.ireturn, 1) := by decide +kernel
theorem dX8_feed_14 : decode cX8_feed 14 = .ok (.aload_n 0, 1) := by decide +kernel
theorem dX8_feed_15 : decode cX8_feed 15 = .ok (.getfield 82, 3) := by decide +kernel
theorem dX8_feed_18 : decode cX8_feed 18 = .ok (.bipush 100, 2) := by decide +kernel
theorem dX8_feed_20 : decode cX8_feed 20 = .ok (.if_icmp .ne 6, 3) := by decide +kernel
theorem dX8_feed_23 : decode cX8_feed 23 = .ok (.ldc 85, 2) := by decide +kernel
theorem dX8_feed_25 : decode cX8_feed 25 = .ok (.ireturn, 1) := by decide +kernel
theorem dX8_feed_26 : decode cX8_feed 26 = .ok (.aload_n 0, 1) := by decide +kernel
theorem dX8_feed_27 : decode cX8_feed 27 = .ok (.getfield 22, 3) := by decide +kernel
theorem dX8_feed_30 : decode cX8_feed 30 = .ok (.aload_n 0, 1) := by decide +kernel
theorem dX8_feed_31 : decode cX8_feed 31 = .ok (.getfield 82, 3) := by decide +kernel
theorem dX8_feed_34 : decode cX8_feed 34 = .ok (.iload_n 1, 1) := by decide +kernel
theorem dX8_feed_35 : decode cX8_feed 35 = .ok (.iastore, 1) := by decide +kernel
theorem dX8_feed_36 : decode cX8_feed 36 = .ok (.aload_n 0, 1) := by decide +kernel
theorem dX8_feed_37 : decode cX8_feed 37 = .ok (.dup, 1) := by decide +kernel
theorem dX8_feed_38 : decode cX8_feed 38 = .ok (.getfield 82, 3) := by decide +kernel
theorem dX8_feed_41 : decode cX8_feed 41 = .ok (.iconst 1, 1) := by decide +kernel
theorem dX8_feed_42 : decode cX8_feed 42 = .ok (.iadd, 1) := by decide +kernel
theorem dX8_feed_43 : decode cX8_feed 43 = .ok (.putfield 82, 3) := by decide +kernel
theorem dX8_feed_46 : decode cX8_feed 46 = .ok (.aload_n 0, 1) := by decide +kernel
theorem dX8_feed_47 : decode cX8_feed 47 = .ok (.getfield 82, 3) := by decide +kernel
theorem dX8_feed_50 : decode cX8_feed 50 = .ok (.ireturn, 1) := by decide +kernel
theorem dX8_byteAt_0 : decode cX8_byteAt 0 = .ok (.iload_n 1, 1) := by decide +kernel
theorem dX8_byteAt_1 : decode cX8_byteAt 1 = .ok (.aload_n 0, 1) := by decide +kernel
theorem dX8_byteAt_2 : decode cX8_byteAt 2 = .ok (.getfield 82, 3) := by decide +kernel
theorem dX8_byteAt_5 : decode cX8_byteAt 5 = .ok (.if_icmp .ge 12, 3) := by decide +kernel
theorem dX8_byteAt_8 : decode cX8_byteAt 8 = .ok (.aload_n 0, 1) := by decide +kernel
theorem dX8_byteAt_9 : decode cX8_byteAt 9 = .ok (.getfield 22, 3) := by decide +kernel
theorem dX8_byteAt_12 : decode cX8_byteAt 12 = .ok (.iload_n 1, 1) := by decide +kernel
theorem dX8_byteAt_13 : decode cX8_byteAt 13 = .ok (.iaload, 1) := by decide +kernel
theorem dX8_byteAt_14 : decode cX8_byteAt 14 = .ok (.goto 4, 3) := by decide +kernel
theorem dX8_byteAt_17 : decode cX8_byteAt 17 = .ok (.iconst (-1), 1) := by decide +kernel
theorem dX8_byteAt_18 : decode cX8_byteAt 18 = .ok (.ireturn, 1) := by decide +kernel
set_option maxRecDepth 20000 in
theorem ggX8_advances_X8_byteAt : GoodIn wsX8_advances wsX8_byteAt := goodIn_r _ [9, 10, 11, 15, 16, 17, 18, 19, 20, 21, 22, 23, 24, 25, 26, 27, 28, 29, 30, 31, 32, 33, 34, 35, 36, 37] (by decide +kernel) (by decide +kernel)
set_option maxRecDepth 20000 in
theorem gX8_advances_X8_byteAt : GoodIn wsX8_advances (wsV RX8 92 RX8 yX8_byteAt wsX8_byteAt) := goodIn_app (goodIn_of _ (by decide +kernel)) ggX8_advances_X8_byteAt
set_option maxRecDepth 20000 in
theorem ggX8_advances_X8_in : GoodIn wsX8_advances wsX8_in := goodIn_r _ [14] (by decide +kernel) (by decide +kernel)
set_option maxRecDepth 20000 in
theorem gX8_advances_X8_in : GoodIn wsX8_advances (va_wsS RX8 56 yX8_in wsX8_in) := goodIn_app (goodIn_of _ (by decide +kernel)) ggX8_advances_X8_in
theorem dX8_advances_0 : decode cX8_advances 0 = .ok (.aload_n 0, 1) := by decide +kernel
theorem dX8_advances_1 : decode cX8_advances 1 = .ok (.aload_n 0, 1) := by decide +kernel
theorem dX8_advances_2 : decode cX8_advances 2 = .ok (.getfield 86, 3) := by decide +kernel
theorem dX8_advances_5 : decode cX8_advances 5 = .ok (.putfield 89, 3) := by decide +kernel
theorem dX8_advances_8 : decode cX8_advances 8 = .ok (.aload_n 0, 1) := by decide +kernel
theorem dX8_advances_9 : decode cX8_advances 9 = .ok (.aload_n 0, 1) := by decide +kernel
theorem dX8_advances_10 : decode cX8_advances 10 = .ok (.getfield 86, 3) := by decide +kernel
theorem dX8_advances_13 : decode cX8_advances 13 = .ok (.invokevirtual 92, 3) := by decide +kernel
theorem dX8_advances_16 : decode cX8_advances 16 = .ok (.istore_n 1, 1) := by decide +kernel
theorem dX8_advances_17 : decode cX8_advances 17 = .ok (.aload_n 0, 1) := by decide +kernel
theorem dX8_advances_18 : decode cX8_advances 18 = .ok (.iload_n 1, 1) := by decide +kernel
theorem dX8_advances_19 : decode cX8_advances 19 = .ok (.putfield 95, 3) := by decide +kernel
theorem dX8_advances_22 : decode cX8_advances 22 = .ok (.iload_n 1, 1) := by decide +kernel
theorem dX8_advances_23 : decode cX8_advances 23 = .ok (.bipush 48, 2) := by decide +kernel
theorem dX8_advances_25 : decode cX8_advances 25 = .ok (.bipush 57, 2) := by decide +kernel
theorem dX8_advances_27 : decode cX8_advances 27 = .ok (.invokestatic 56, 3) := by decide +kernel
theorem dX8_advances_30 : decode cX8_advances 30 = .ok (.ifCond .eq 105, 3) := by decide +kernel
theorem dX8_advances_33 : decode cX8_advances 33 = .ok (.aload_n 0, 1) := by decide +kernel
theorem dX8_advances_34 : decode cX8_advances 34 = .ok (.iconst 0, 1) := by decide +kernel
theorem dX8_advances_35 : decode cX8_advances 35 = .ok (.putfield 95, 3) := by decide +kernel
theorem dX8_advances_38 : decode cX8_advances 38 = .ok (.aload_n 0, 1) := by decide +kernel
theorem dX8_advances_39 : decode cX8_advances 39 = .ok (.aload_n 0, 1) := by decide +kernel
theorem dX8_advances_40 : decode cX8_advances 40 = .ok (.getfield 86, 3) := by decide +kernel
theorem dX8_advances_43 : decode cX8_advances 43 = .ok (.invokevirtual 92, 3) := by decide +kernel
theorem dX8_advances_46 : decode cX8_advances 46 = .ok (.bipush 48, 2) := by decide +kernel
theorem dX8_advances_48 : decode cX8_advances 48 = .ok (.bipush 57, 2) := by decide +kernel
theorem dX8_advances_50 : decode cX8_advances 50 = .ok (.invokestatic 56, 3) := by decide +kernel
theorem dX8_advances_53 : decode cX8_advances 53 = .ok (.ifCond .eq 59, 3) := by decide +kernel
theorem dX8_advances_56 : decode cX8_advances 56 = .ok (.aload_n 0, 1) := by decide +kernel
theorem dX8_advances_57 : decode cX8_advances 57 = .ok (.aload_n 0, 1) := by decide +kernel
theorem dX8_advances_58 : decode cX8_advances 58 = .ok (.getfield 86, 3) := by decide +kernel
theorem dX8_advances_61 : decode cX8_advances 61 = .ok (.aload_n 0, 1) := by decide +kernel
theorem dX8_advances_62 : decode cX8_advances 62 = .ok (.getfield 89, 3) := by decide +kernel
theorem dX8_advances_65 : decode cX8_advances 65 = .ok (.isub, 1) := by decide +kernel
theorem dX8_advances_66 : decode cX8_advances 66 = .ok (.iconst 2, 1) := by decide +kernel
theorem dX8_advances_67 : decode cX8_advances 67 = .ok (.if_icmp .ge 25, 3) := by decide +kernel
theorem dX8_advances_70 : decode cX8_advances 70 = .ok (.bipush 10, 2) := by decide +kernel
theorem dX8_advances_72 : decode cX8_advances 72 = .ok (.aload_n 0, 1) := by decide +kernel
theorem dX8_advances_73 : decode cX8_advances 73 = .ok (.getfield 95, 3) := by decide +kernel
theorem dX8_advances_76 : decode cX8_advances 76 = .ok (.imul, 1) := by decide +kernel
theorem dX8_advances_77 : decode cX8_advances 77 = .ok (.aload_n 0, 1) := by decide +kernel
theorem dX8_advances_78 : decode cX8_advances 78 = .ok (.aload_n 0, 1) := by decide +kernel
theorem dX8_advances_79 : decode cX8_advances 79 = .ok (.getfield 86, 3) := by decide +kernel
theorem dX8_advances_82 : decode cX8_advances 82 = .ok (.invokevirtual 92, 3) := by decide +kernel
theorem dX8_advances_85 : decode cX8_advances 85 = .ok (.iadd, 1) := by decide +kernel
theorem dX8_advances_86 : decode cX8_advances 86 = .ok (.bipush 48, 2) := by decide +kernel
theorem dX8_advances_88 : decode cX8_advances 88 = .ok (.isub, 1) := by decide +kernel
theorem dX8_advances_89 : decode cX8_advances 89 = .ok (.goto 7, 3) := by decide +kernel
theorem dX8_advances_92 : decode cX8_advances 92 = .ok (.aload_n 0, 1) := by decide +kernel
theorem dX8_advances_93 : decode cX8_advances 93 = .ok (.getfield 95, 3) := by decide +kernel
theorem dX8_advances_96 : decode cX8_advances 96 = .ok (.putfield 95, 3) := by decide +kernel
theorem dX8_advances_99 : decode cX8_advances 99 = .ok (.aload_n 0, 1) := by decide +kernel
theorem dX8_advances_100 : decode cX8_advances 100 = .ok (.dup, 1) := by decide +kernel
theorem dX8_advances_101 : decode cX8_advances 101 = .ok (.getfield 86, 3) := by decide +kernel
theorem dX8_advances_104 : decode cX8_advances 104 = .ok (.iconst 1, 1) := by decide +kernel
theorem dX8_advances_105 : decode cX8_advances 105 = .ok (.iadd, 1) := by decide +kernel
theorem dX8_advances_106 : decode cX8_advances 106 = .ok (.putfield 86, 3) := by decide +kernel
theorem dX8_advances_109 : decode cX8_advances 109 = .ok (.goto (-71), 3) := by decide +kernel
theorem dX8_advances_112 : decode cX8_advances 112 = .ok (.aload_n 0, 1) := by decide +kernel
theorem dX8_advances_113 : decode cX8_advances 113 = .ok (.aload_n 0, 1) := by decide +kernel
theorem dX8_advances_114 : decode cX8_advances 114 = .ok (.getfield 86, 3) := by decide +kernel
theorem dX8_advances_117 : decode cX8_advances 117 = .ok (.aload_n 0, 1) := by decide +kernel
theorem dX8_advances_118 : decode cX8_advances 118 = .ok (.getfield 89, 3) := by decide +kernel
theorem dX8_advances_121 : decode cX8_advances 121 = .ok (.isub, 1) := by decide +kernel
theorem dX8_advances_122 : decode cX8_advances 122 = .ok (.iconst 3, 1) := by decide +kernel
theorem dX8_advances_123 : decode cX8_advances 123 = .ok (.if_icmp .ge 7, 3) := by decide +kernel
theorem dX8_advances_126 : decode cX8_advances 126 = .ok (.iconst 2, 1) := by decide +kernel
theorem dX8_advances_127 : decode cX8_advances 127 = .ok (.goto 4, 3) := by decide +kernel
theorem dX8_advances_130 : decode cX8_advances 130 = .ok (.iconst 5, 1) := by decide +kernel
theorem dX8_advances_131 : decode cX8_advances 131 = .ok (.putfield 98, 3) := by decide +kernel
theorem dX8_advances_134 : decode cX8_advances 134 = .ok (.return_, 1) := by decide +kernel
theorem dX8_advances_135 : decode cX8_advances 135 = .ok (.aload_n 0, 1) := by decide +kernel
theorem dX8_advances_136 : decode cX8_advances 136 = .ok (.iload_n 1, 1) := by decide +kernel
theorem dX8_advances_137 : decode cX8_advances 137 = .ok (.ifCond .ge 7, 3) := by decide +kernel
theorem dX8_advances_140 : decode cX8_advances 140 = .ok (.iconst 0, 1) := by decide +kernel
theorem dX8_advances_141 : decode cX8_advances 141 = .ok (.goto 39, 3) := by decide +kernel
theorem dX8_advances_144 : decode cX8_advances 144 = .ok (.iload_n 1, 1) := by decide +kernel
theorem dX8_advances_145 : decode cX8_advances 145 = .ok (.bipush 97, 2) := by decide +kernel
theorem dX8_advances_147 : decode cX8_advances 147 = .ok (.bipush 122, 2) := by decide +kernel
theorem dX8_advances_149 : decode cX8_advances 149 = .ok (.invokestatic 56, 3) := by decide +kernel
theorem dX8_advances_152 : decode cX8_advances 152 = .ok (.ifCond .eq 7, 3) := by decide +kernel
theorem dX8_advances_155 : decode cX8_advances 155 = .ok (.iconst 1, 1) := by decide +kernel
theorem dX8_advances_156 : decode cX8_advances 156 = .ok (.goto 24, 3) := by decide +kernel
theorem dX8_advances_159 : decode cX8_advances 159 = .ok (.iload_n 1, 1) := by decide +kernel
theorem dX8_advances_160 : decode cX8_advances 160 = .ok (.bipush 44, 2) := by decide +kernel
theorem dX8_advances_162 : decode cX8_advances 162 = .ok (.if_icmp .ne 7, 3) := by decide +kernel
theorem dX8_advances_165 : decode cX8_advances 165 = .ok (.iconst 3, 1) := by decide +kernel
theorem dX8_advances_166 : decode cX8_advances 166 = .ok (.goto 14, 3) := by decide +kernel
theorem dX8_advances_169 : decode cX8_advances 169 = .ok (.iload_n 1, 1) := by decide +kernel
theorem dX8_advances_170 : decode cX8_advances 170 = .ok (.bipush 59, 2) := by decide +kernel
theorem dX8_advances_172 : decode cX8_advances 172 = .ok (.if_icmp .ne 7, 3) := by decide +kernel
theorem dX8_advances_175 : decode cX8_advances 175 = .ok (.iconst 4, 1) := by decide +kernel
theorem dX8_advances_176 : decode cX8_advances 176 = .ok (.goto 4, 3) := by decide +kernel
theorem dX8_advances_179 : decode cX8_advances 179 = .ok (.iconst 5, 1) := by decide +kernel
theorem dX8_advances_180 : decode cX8_advances 180 = .ok (.putfield 98, 3) := by decide +kernel
theorem dX8_advances_183 : decode cX8_advances 183 = .ok (.aload_n 0, 1) := by decide +kernel
theorem dX8_advances_184 : decode cX8_advances 184 = .ok (.dup, 1) := by decide +kernel
theorem dX8_advances_185 : decode cX8_advances 185 = .ok (.getfield 86, 3) := by decide +kernel
theorem dX8_advances_188 : decode cX8_advances 188 = .ok (.aload_n 0, 1) := by decide +kernel
theorem dX8_advances_189 : decode cX8_advances 189 = .ok (.getfield 98, 3) := by decide +kernel
theorem dX8_advances_192 : decode cX8_advances 192 = .ok (.ifCond .ne 7, 3) := by decide +kernel
theorem dX8_advances_195 : decode cX8_advances 195 = .ok (.iconst 0, 1) := by decide +kernel
theorem dX8_advances_196 : decode cX8_advances 196 = .ok (.goto 4, 3) := by decide +kernel
theorem dX8_advances_199 : decode cX8_advances 199 = .ok (.iconst 1, 1) := by decide +kernel
theorem dX8_advances_200 : decode cX8_advances 200 = .ok (.iadd, 1) := by decide +kernel
theorem dX8_advances_201 : decode cX8_advances 201 = .ok (.putfield 86, 3) := by decide +kernel
theorem dX8_advances_204 : decode cX8_advances 204 = .ok (.return_, 1) := by decide +kernel
theorem dX8_isWell_0 : decode cX8_isWell 0 = .ok (.aload_n 0, 1) := by decide +kernel
theorem dX8_isWell_1 : decode cX8_isWell 1 = .ok (.getfield 101, 3) := by decide +kernel
theorem dX8_isWell_4 : decode cX8_isWell 4 = .ok (.ifCond .ge 7, 3) := by decide +kernel
theorem dX8_isWell_7 : decode cX8_isWell 7 = .ok (.iconst 1, 1) := by decide +kernel
theorem dX8_isWell_8 : decode cX8_isWell 8 = .ok (.goto 4, 3) := by decide +kernel
theorem dX8_isWell_11 : decode cX8_isWell 11 = .ok (.iconst 0, 1) := by decide +kernel
theorem dX8_isWell_12 : decode cX8_isWell 12 = .ok (.ireturn, 1) := by decide +kernel
set_option maxRecDepth 20000 in
theorem ggX8_takes_X8_isWell : GoodIn wsX8_takes wsX8_isWell := goodIn_r _ [9, 2, 25, 26, 27, 28, 29, 30, 31, 32, 33, 34, 35, 36, 37, 38, 39, 40, 41, 42, 43, 44, 45, 46, 47] (by decide +kernel) (by decide +kernel)
set_option maxRecDepth 20000 in
theorem gX8_takes_X8_isWell : GoodIn wsX8_takes (wsV RX8 104 RX8 yX8_isWell wsX8_isWell) := goodIn_app (goodIn_of _ (by decide +kernel)) ggX8_takes_X8_isWell
set_option maxRecDepth 20000 in
theorem ggX8_takes_X8_advances : GoodIn wsX8_takes wsX8_advances := goodIn_r _ [13, 14, 1, 4, 15, 16, 17, 18, 8, 19, 20, 21, 22, 23, 24, 25, 26, 27, 28, 29, 30, 31, 32, 33, 34, 35, 36, 37, 38, 39, 40, 41, 42, 43, 44, 45, 46, 47] (by decide +kernel) (by decide +kernel)
set_option maxRecDepth 20000 in
theorem gX8_takes_X8_advances : GoodIn wsX8_takes (wsV RX8 111 RX8 yX8_advances wsX8_advances) := goodIn_app (goodIn_of _ (by decide +kernel)) ggX8_takes_X8_advances
theorem dX8_takes_0 : decode cX8_takes 0 = .ok (.aload_n 0, 1) := by decide +kernel
theorem dX8_takes_1 : decode cX8_takes 1 = .ok (.invokevirtual 104, 3) := by decide +kernel
theorem dX8_takes_4 : decode cX8_takes 4 = .ok (.ifCond .ne 5, 3) := by decide +kernel
theorem dX8_takes_7 : decode cX8_takes 7 = .ok (.iconst 0, 1) := by decide +kernel
theorem dX8_takes_8 : decode cX8_takes 8 = .ok (.ireturn, 1) := by decide +kernel
theorem dX8_takes_9 : decode cX8_takes 9 = .ok (.iload_n 1, 1) := by decide +kernel
theorem dX8_takes_10 : decode cX8_takes 10 = .ok (.ifCond .ne 18, 3) := by decide +kernel
theorem dX8_takes_13 : decode cX8_takes 13 = .ok (.aload_n 0, 1) := by decide +kernel
theorem dX8_takes_14 : decode cX8_takes 14 = .ok (.aload_n 0, 1) := by decide +kernel
theorem dX8_takes_15 : decode cX8_takes 15 = .ok (.getfield 89, 3) := by decide +kernel
theorem dX8_takes_18 : decode cX8_takes 18 = .ok (.putfield 101, 3) := by decide +kernel
theorem dX8_takes_21 : decode cX8_takes 21 = .ok (.aload_n 0, 1) := by decide +kernel
theorem dX8_takes_22 : decode cX8_takes 22 = .ok (.iload_n 2, 1) := by decide +kernel
theorem dX8_takes_23 : decode cX8_takes 23 = .ok (.putfield 108, 3) := by decide +kernel
theorem dX8_takes_26 : decode cX8_takes 26 = .ok (.iconst 0, 1) := by decide +kernel
theorem dX8_takes_27 : decode cX8_takes 27 = .ok (.ireturn, 1) := by decide +kernel
theorem dX8_takes_28 : decode cX8_takes 28 = .ok (.aload_n 0, 1) := by decide +kernel
theorem dX8_takes_29 : decode cX8_takes 29 = .ok (.getfield 95, 3) := by decide +kernel
theorem dX8_takes_32 : decode cX8_takes 32 = .ok (.istore_n 3, 1) := by decide +kernel
theorem dX8_takes_33 : decode cX8_takes 33 = .ok (.aload_n 0, 1) := by decide +kernel
theorem dX8_takes_34 : decode cX8_takes 34 = .ok (.invokevirtual 111, 3) := by decide +kernel
theorem dX8_takes_37 : decode cX8_takes 37 = .ok (.iload_n 3, 1) := by decide +kernel
theorem dX8_takes_38 : decode cX8_takes 38 = .ok (.ireturn, 1) := by decide +kernel
set_option maxRecDepth 20000 in
theorem ggX8_figure_X8_isWell : GoodIn wsX8_figure wsX8_isWell := goodIn_r _ [7, 8, 29, 30, 31, 32, 33, 34, 35, 36, 37, 38, 39, 40, 41, 42, 43, 44, 45, 46, 47, 48, 49, 50, 51] (by decide +kernel) (by decide +kernel)
set_option maxRecDepth 20000 in
theorem gX8_figure_X8_isWell : GoodIn wsX8_figure (wsV RX8 104 RX8 yX8_isWell wsX8_isWell) := goodIn_app (goodIn_of _ (by decide +kernel)) ggX8_figure_X8_isWell
set_option maxRecDepth 20000 in
theorem ggX8_figure_X8_takes : GoodIn wsX8_figure wsX8_takes := goodIn_r _ [12, 13, 8, 14, 2, 3, 4, 5, 6, 7, 15, 16, 17, 18, 19, 1, 20, 21, 22, 23, 24, 25, 26, 27, 28, 29, 30, 31, 32, 33, 34, 35, 36, 37, 38, 39, 40, 41, 42, 43, 44, 45, 46, 47, 48, 49, 50, 51] (by decide +kernel) (by decide +kernel)
set_option maxRecDepth 20000 in
theorem gX8_figure_X8_takes : GoodIn wsX8_figure (wsV RX8 114 RX8 yX8_takes wsX8_takes) := goodIn_app (goodIn_of _ (by decide +kernel)) ggX8_figure_X8_takes
set_option maxRecDepth 20000 in
theorem ggX8_figure_X8_in : GoodIn wsX8_figure wsX8_in := goodIn_r _ [28] (by decide +kernel) (by decide +kernel)
set_option maxRecDepth 20000 in
theorem gX8_figure_X8_in : GoodIn wsX8_figure (va_wsS RX8 56 yX8_in wsX8_in) := goodIn_app (goodIn_of _ (by decide +kernel)) ggX8_figure_X8_in
theorem dX8_figure_0 : decode cX8_figure 0 = .ok (.aload_n 0, 1) := by decide +kernel
theorem dX8_figure_1 : decode cX8_figure 1 = .ok (.invokevirtual 104, 3) := by decide +kernel
theorem dX8_figure_4 : decode cX8_figure 4 = .ok (.ifCond .eq 18, 3) := by decide +kernel
theorem dX8_figure_7 : decode cX8_figure 7 = .ok (.aload_n 0, 1) := by decide +kernel
theorem dX8_figure_8 : decode cX8_figure 8 = .ok (.getfield 98, 3) := by decide +kernel
theorem dX8_figure_11 : decode cX8_figure 11 = .ok (.iconst 2, 1) := by decide +kernel
theorem dX8_figure_12 : decode cX8_figure 12 = .ok (.if_icmp .eq 10, 3) := by decide +kernel
theorem dX8_figure_15 : decode cX8_figure 15 = .ok (.aload_n 0, 1) := by decide +kernel
theorem dX8_figure_16 : decode cX8_figure 16 = .ok (.iconst 0, 1) := by decide +kernel
theorem dX8_figure_17 : decode cX8_figure 17 = .ok (.iconst 1, 1) := by decide +kernel
theorem dX8_figure_18 : decode cX8_figure 18 = .ok (.invokevirtual 114, 3) := by decide +kernel
theorem dX8_figure_21 : decode cX8_figure 21 = .ok (.ireturn, 1) := by decide +kernel
theorem dX8_figure_22 : decode cX8_figure 22 = .ok (.aload_n 0, 1) := by decide +kernel
theorem dX8_figure_23 : decode cX8_figure 23 = .ok (.aload_n 0, 1) := by decide +kernel
theorem dX8_figure_24 : decode cX8_figure 24 = .ok (.getfield 95, 3) := by decide +kernel
theorem dX8_figure_27 : decode cX8_figure 27 = .ok (.iload_n 1, 1) := by decide +kernel
theorem dX8_figure_28 : decode cX8_figure 28 = .ok (.iload_n 2, 1) := by decide +kernel
theorem dX8_figure_29 : decode cX8_figure 29 = .ok (.invokestatic 56, 3) := by decide +kernel
theorem dX8_figure_32 : decode cX8_figure 32 = .ok (.iconst 2, 1) := by decide +kernel
theorem dX8_figure_33 : decode cX8_figure 33 = .ok (.invokevirtual 114, 3) := by decide +kernel
theorem dX8_figure_36 : decode cX8_figure 36 = .ok (.ireturn, 1) := by decide +kernel
theorem dX8_kindOf_0 : decode cX8_kindOf 0 = .ok (.iload_n 0, 1) := by decide +kernel
theorem dX8_kindOf_1 : decode cX8_kindOf 1 = .ok (.bipush 107, 2) := by decide +kernel
theorem dX8_kindOf_3 : decode cX8_kindOf 3 = .ok (.if_icmp .ne 7, 3) := by decide +kernel
theorem dX8_kindOf_6 : decode cX8_kindOf 6 = .ok (.iconst 1, 1) := by decide +kernel
theorem dX8_kindOf_7 : decode cX8_kindOf 7 = .ok (.goto 44, 3) := by decide +kernel
theorem dX8_kindOf_10 : decode cX8_kindOf 10 = .ok (.iload_n 0, 1) := by decide +kernel
theorem dX8_kindOf_11 : decode cX8_kindOf 11 = .ok (.bipush 115, 2) := by decide +kernel
theorem dX8_kindOf_13 : decode cX8_kindOf 13 = .ok (.if_icmp .ne 7, 3) := by decide +kernel
theorem dX8_kindOf_16 : decode cX8_kindOf 16 = .ok (.iconst 2, 1) := by decide +kernel
theorem dX8_kindOf_17 : decode cX8_kindOf 17 = .ok (.goto 34, 3) := by decide +kernel
theorem dX8_kindOf_20 : decode cX8_kindOf 20 = .ok (.iload_n 0, 1) := by decide +kernel
theorem dX8_kindOf_21 : decode cX8_kindOf 21 = .ok (.bipush 101, 2) := by decide +kernel
theorem dX8_kindOf_23 : decode cX8_kindOf 23 = .ok (.if_icmp .ne 7, 3) := by decide +kernel
theorem dX8_kindOf_26 : decode cX8_kindOf 26 = .ok (.iconst 3, 1) := by decide +kernel
theorem dX8_kindOf_27 : decode cX8_kindOf 27 = .ok (.goto 24, 3) := by decide +kernel
theorem dX8_kindOf_30 : decode cX8_kindOf 30 = .ok (.iload_n 0, 1) := by decide +kernel
theorem dX8_kindOf_31 : decode cX8_kindOf 31 = .ok (.bipush 100, 2) := by decide +kernel
theorem dX8_kindOf_33 : decode cX8_kindOf 33 = .ok (.if_icmp .ne 7, 3) := by decide +kernel
theorem dX8_kindOf_36 : decode cX8_kindOf 36 = .ok (.iconst 4, 1) := by decide +kernel
theorem dX8_kindOf_37 : decode cX8_kindOf 37 = .ok (.goto 14, 3) := by decide +kernel
theorem dX8_kindOf_40 : decode cX8_kindOf 40 = .ok (.iload_n 0, 1) := by decide +kernel
theorem dX8_kindOf_41 : decode cX8_kindOf 41 = .ok (.bipush 103, 2) := by decide +kernel
theorem dX8_kindOf_43 : decode cX8_kindOf 43 = .ok (.if_icmp .ne 7, 3) := by decide +kernel
theorem dX8_kindOf_46 : decode cX8_kindOf 46 = .ok (.iconst 5, 1) := by decide +kernel
theorem dX8_kindOf_47 : decode cX8_kindOf 47 = .ok (.goto 4, 3) := by decide +kernel
theorem dX8_kindOf_50 : decode cX8_kindOf 50 = .ok (.iconst 0, 1) := by decide +kernel
theorem dX8_kindOf_51 : decode cX8_kindOf 51 = .ok (.ireturn, 1) := by decide +kernel
set_option maxRecDepth 20000 in
theorem ggX8_follows_X8_takes : GoodIn wsX8_follows wsX8_takes := goodIn_r _ [6, 7, 8, 9, 10, 11, 12, 13, 5, 14, 15, 16, 17, 18, 19, 1, 20, 21, 22, 23, 24, 25, 26, 27, 28, 33, 34, 35, 36, 37, 38, 39, 40, 41, 42, 43, 44, 45, 46, 47, 48, 49, 50, 51, 52, 53, 54, 55] (by decide +kernel) (by decide +kernel)
set_option maxRecDepth 20000 in
theorem gX8_follows_X8_takes : GoodIn wsX8_follows (wsV RX8 114 RX8 yX8_takes wsX8_takes) := goodIn_app (goodIn_of _ (by decide +kernel)) ggX8_follows_X8_takes
set_option maxRecDepth 20000 in
theorem ggX8_follows_X8_figure : GoodIn wsX8_follows wsX8_figure := goodIn_r _ [32, 1, 10, 11, 12, 13, 5, 14, 8, 2, 3, 4, 6, 7, 9, 15, 16, 17, 18, 19, 20, 21, 22, 23, 24, 25, 26, 27, 28, 33, 34, 35, 36, 37, 38, 39, 40, 41, 42, 43, 44, 45, 46, 47, 48, 49, 50, 51, 52, 53, 54, 55] (by decide +kernel) (by decide +kernel)
set_option maxRecDepth 20000 in
theorem gX8_follows_X8_figure : GoodIn wsX8_follows (wsV RX8 118 RX8 yX8_figure wsX8_figure) := goodIn_app (goodIn_of _ (by decide +kernel)) ggX8_follows_X8_figure
theorem dX8_follows_0 : decode cX8_follows 0 = .ok (.aload_n 0, 1) := by decide +kernel
theorem dX8_follows_1 : decode cX8_follows 1 = .ok (.aload_n 0, 1) := by decide +kernel
theorem dX8_follows_2 : decode cX8_follows 2 = .ok (.getfield 98, 3) := by decide +kernel
theorem dX8_follows_5 : decode cX8_follows 5 = .ok (.iconst 3, 1) := by decide +kernel
theorem dX8_follows_6 : decode cX8_follows 6 = .ok (.if_icmp .ne 7, 3) := by decide +kernel
theorem dX8_follows_9 : decode cX8_follows 9 = .ok (.iconst 1, 1) := by decide +kernel
theorem dX8_follows_10 : decode cX8_follows 10 = .ok (.goto 4, 3) := by decide +kernel
theorem dX8_follows_13 : decode cX8_follows 13 = .ok (.iconst 0, 1) := by decide +kernel
theorem dX8_follows_14 : decode cX8_follows 14 = .ok (.iconst 1, 1) := by decide +kernel
theorem dX8_follows_15 : decode cX8_follows 15 = .ok (.invokevirtual 114, 3) := by decide +kernel
theorem dX8_follows_18 : decode cX8_follows 18 = .ok (.pop, 1) := by decide +kernel
theorem dX8_follows_19 : decode cX8_follows 19 = .ok (.aload_n 0, 1) := by decide +kernel
theorem dX8_follows_20 : decode cX8_follows 20 = .ok (.iload_n 1, 1) := by decide +kernel
theorem dX8_follows_21 : decode cX8_follows 21 = .ok (.iload_n 2, 1) := by decide +kernel
theorem dX8_follows_22 : decode cX8_follows 22 = .ok (.invokevirtual 118, 3) := by decide +kernel
theorem dX8_follows_25 : decode cX8_follows 25 = .ok (.ireturn, 1) := by decide +kernel
theorem dX8_isTold_0 : decode cX8_isTold 0 = .ok (.iconst 0, 1) := by decide +kernel
theorem dX8_isTold_1 : decode cX8_isTold 1 = .ok (.istore 4, 2) := by decide +kernel
theorem dX8_isTold_3 : decode cX8_isTold 3 = .ok (.iconst 0, 1) := by decide +kernel
theorem dX8_isTold_4 : decode cX8_isTold 4 = .ok (.istore 5, 2) := by decide +kernel
theorem dX8_isTold_6 : decode cX8_isTold 6 = .ok (.iload 5, 2) := by decide +kernel
theorem dX8_isTold_8 : decode cX8_isTold 8 = .ok (.aload_n 0, 1) := by decide +kernel
theorem dX8_isTold_9 : decode cX8_isTold 9 = .ok (.getfield 28, 3) := by decide +kernel
theorem dX8_isTold_12 : decode cX8_isTold 12 = .ok (.iconst 3, 1) := by decide +kernel
theorem dX8_isTold_13 : decode cX8_isTold 13 = .ok (.iaload, 1) := by decide +kernel
theorem dX8_isTold_14 : decode cX8_isTold 14 = .ok (.if_icmp .ge 67, 3) := by decide +kernel
theorem dX8_isTold_17 : decode cX8_isTold 17 = .ok (.bipush 8, 2) := by decide +kernel
theorem dX8_isTold_19 : decode cX8_isTold 19 = .ok (.iconst 3, 1) := by decide +kernel
theorem dX8_isTold_20 : decode cX8_isTold 20 = .ok (.iload 5, 2) := by decide +kernel
theorem dX8_isTold_22 : decode cX8_isTold 22 = .ok (.imul, 1) := by decide +kernel
theorem dX8_isTold_23 : decode cX8_isTold 23 = .ok (.iadd, 1) := by decide +kernel
theorem dX8_isTold_24 : decode cX8_isTold 24 = .ok (.istore 6, 2) := by decide +kernel
theorem dX8_isTold_26 : decode cX8_isTold 26 = .ok (.iload 4, 2) := by decide +kernel
theorem dX8_isTold_28 : decode cX8_isTold 28 = .ok (.ifCond .ne 40, 3) := by decide +kernel
theorem dX8_isTold_31 : decode cX8_isTold 31 = .ok (.aload_n 0, 1) := by decide +kernel
theorem dX8_isTold_32 : decode cX8_isTold 32 = .ok (.getfield 28, 3) := by decide +kernel
theorem dX8_isTold_35 : decode cX8_isTold 35 = .ok (.iload 6, 2) := by decide +kernel
theorem dX8_isTold_37 : decode cX8_isTold 37 = .ok (.iaload, 1) := by decide +kernel
theorem dX8_isTold_38 : decode cX8_isTold 38 = .ok (.iload_n 1, 1) := by decide +kernel
theorem dX8_isTold_39 : decode cX8_isTold 39 = .ok (.if_icmp .ne 33, 3) := by decide +kernel
theorem dX8_isTold_42 : decode cX8_isTold 42 = .ok (.aload_n 0, 1) := by decide +kernel
theorem dX8_isTold_43 : decode cX8_isTold 43 = .ok (.getfield 28, 3) := by decide +kernel
theorem dX8_isTold_46 : decode cX8_isTold 46 = .ok (.iload 6, 2) := by decide +kernel
theorem dX8_isTold_48 : decode cX8_isTold 48 = .ok (.iconst 1, 1) := by decide +kernel
theorem dX8_isTold_49 : decode cX8_isTold 49 = .ok (.iadd, 1) := by decide +kernel
theorem dX8_isTold_50 : decode cX8_isTold 50 = .ok (.iaload, 1) := by decide +kernel
theorem dX8_isTold_51 : decode cX8_isTold 51 = .ok (.iload_n 2, 1) := by decide +kernel
theorem dX8_isTold_52 : decode cX8_isTold 52 = .ok (.if_icmp .ne 20, 3) := by decide +kernel
theorem dX8_isTold_55 : decode cX8_isTold 55 = .ok (.aload_n 0, 1) := by decide +kernel
theorem dX8_isTold_56 : decode cX8_isTold 56 = .ok (.getfield 28, 3) := by decide +kernel
theorem dX8_isTold_59 : decode cX8_isTold 59 = .ok (.iload 6, 2) := by decide +kernel
theorem dX8_isTold_61 : decode cX8_isTold 61 = .ok (.iconst 2, 1) := by decide +kernel
theorem dX8_isTold_62 : decode cX8_isTold 62 = .ok (.iadd, 1) := by decide +kernel
theorem dX8_isTold_63 : decode cX8_isTold 63 = .ok (.iaload, 1) := by decide +kernel
theorem dX8_isTold_64 : decode cX8_isTold 64 = .ok (.iload_n 3, 1) := by decide +kernel
theorem dX8_isTold_65 : decode cX8_isTold 65 = .ok (.if_icmp .ne 7, 3) := by decide +kernel
theorem dX8_isTold_68 : decode cX8_isTold 68 = .ok (.iconst 1, 1) := by decide +kernel
theorem dX8_isTold_69 : decode cX8_isTold 69 = .ok (.goto 4, 3) := by decide +kernel
theorem dX8_isTold_72 : decode cX8_isTold 72 = .ok (.iconst 0, 1) := by decide +kernel
theorem dX8_isTold_73 : decode cX8_isTold 73 = .ok (.istore 4, 2) := by decide +kernel
theorem dX8_isTold_75 : decode cX8_isTold 75 = .ok (.iinc 5 1, 3) := by decide +kernel
theorem dX8_isTold_78 : decode cX8_isTold 78 = .ok (.goto (-72), 3) := by decide +kernel
theorem dX8_isTold_81 : decode cX8_isTold 81 = .ok (.iload 4, 2) := by decide +kernel
theorem dX8_isTold_83 : decode cX8_isTold 83 = .ok (.ireturn, 1) := by decide +kernel
set_option maxRecDepth 20000 in
theorem ggX8_letterOf_X8_takes : GoodIn wsX8_letterOf wsX8_takes := goodIn_r _ [6, 7, 8, 9, 10, 11, 12, 13, 5, 14, 15, 16, 17, 18, 19, 1, 20, 21, 22, 23, 24, 25, 26, 27, 28, 29, 30, 31, 32, 33, 34, 35, 36, 37, 38, 39, 40, 41, 42, 43, 44, 45, 46, 47, 48, 49, 50, 51] (by decide +kernel) (by decide +kernel)
set_option maxRecDepth 20000 in
theorem gX8_letterOf_X8_takes : GoodIn wsX8_letterOf (wsV RX8 114 RX8 yX8_takes wsX8_takes) := goodIn_app (goodIn_of _ (by decide +kernel)) ggX8_letterOf_X8_takes
theorem dX8_letterOf_0 : decode cX8_letterOf 0 = .ok (.aload_n 0, 1) := by decide +kernel
theorem dX8_letterOf_1 : decode cX8_letterOf 1 = .ok (.aload_n 0, 1) := by decide +kernel
theorem dX8_letterOf_2 : decode cX8_letterOf 2 = .ok (.getfield 98, 3) := by decide +kernel
theorem dX8_letterOf_5 : decode cX8_letterOf 5 = .ok (.iconst 1, 1) := by decide +kernel
theorem dX8_letterOf_6 : decode cX8_letterOf 6 = .ok (.if_icmp .ne 7, 3) := by decide +kernel
theorem dX8_letterOf_9 : decode cX8_letterOf 9 = .ok (.iconst 1, 1) := by decide +kernel
theorem dX8_letterOf_10 : decode cX8_letterOf 10 = .ok (.goto 4, 3) := by decide +kernel
theorem dX8_letterOf_13 : decode cX8_letterOf 13 = .ok (.iconst 0, 1) := by decide +kernel
theorem dX8_letterOf_14 : decode cX8_letterOf 14 = .ok (.iconst 1, 1) := by decide +kernel
theorem dX8_letterOf_15 : decode cX8_letterOf 15 = .ok (.invokevirtual 114, 3) := by decide +kernel
theorem dX8_letterOf_18 : decode cX8_letterOf 18 = .ok (.bipush 97, 2) := by decide +kernel
theorem dX8_letterOf_20 : decode cX8_letterOf 20 = .ok (.isub, 1) := by decide +kernel
theorem dX8_letterOf_21 : decode cX8_letterOf 21 = .ok (.ireturn, 1) := by decide +kernel
set_option maxRecDepth 20000 in
theorem ggX8_readsWord_X8_takes : GoodIn wsX8_readsWord wsX8_takes := goodIn_r _ [8, 9, 10, 11, 3, 12, 13, 14, 7, 15, 16, 17, 18, 19, 20, 2, 21, 22, 23, 24, 25, 26, 27, 28, 29, 38, 39, 40, 41, 42, 43, 44, 45, 46, 47, 48, 49, 50, 51, 52, 53, 54, 55, 56, 57, 58, 59, 60] (by decide +kernel) (by decide +kernel)
set_option maxRecDepth 20000 in
theorem gX8_readsWord_X8_takes : GoodIn wsX8_readsWord (wsV RX8 114 RX8 yX8_takes wsX8_takes) := goodIn_app (goodIn_of _ (by decide +kernel)) ggX8_readsWord_X8_takes
set_option maxRecDepth 20000 in
theorem ggX8_readsWord_X8_letterOf : GoodIn wsX8_readsWord wsX8_letterOf := goodIn_r _ [33, 2, 4, 5, 6, 7, 8, 9, 10, 11, 3, 12, 13, 14, 15, 16, 17, 18, 19, 20, 21, 22, 23, 24, 25, 26, 27, 28, 29, 38, 39, 40, 41, 42, 43, 44, 45, 46, 47, 48, 49, 50, 51, 52, 53, 54, 55, 56, 57, 58, 59, 60] (by decide +kernel) (by decide +kernel)
set_option maxRecDepth 20000 in
theorem gX8_readsWord_X8_letterOf : GoodIn wsX8_readsWord (wsV RX8 121 RX8 yX8_letterOf wsX8_letterOf) := goodIn_app (goodIn_of _ (by decide +kernel)) ggX8_readsWord_X8_letterOf
set_option maxRecDepth 20000 in
theorem ggX8_readsWord_X8_isWell : GoodIn wsX8_readsWord wsX8_isWell := goodIn_r _ [15, 10, 38, 39, 40, 41, 42, 43, 44, 45, 46, 47, 48, 49, 50, 51, 52, 53, 54, 55, 56, 57, 58, 59, 60] (by decide +kernel) (by decide +kernel)
set_option maxRecDepth 20000 in
theorem gX8_readsWord_X8_isWell : GoodIn wsX8_readsWord (wsV RX8 104 RX8 yX8_isWell wsX8_isWell) := goodIn_app (goodIn_of _ (by decide +kernel)) ggX8_readsWord_X8_isWell
set_option maxRecDepth 20000 in
theorem ggX8_readsWord_X8_isTold : GoodIn wsX8_readsWord wsX8_isTold := goodIn_r _ [37, 1, 38, 39, 40, 41, 42, 43, 44, 45, 46, 47, 48, 49, 50, 51, 52, 53, 54, 55, 56, 57, 58, 59, 60] (by decide +kernel) (by decide +kernel)
set_option maxRecDepth 20000 in
theorem gX8_readsWord_X8_isTold : GoodIn wsX8_readsWord (wsV RX8 125 RX8 yX8_isTold wsX8_isTold) := goodIn_app (goodIn_of _ (by decide +kernel)) ggX8_readsWord_X8_isTold
theorem dX8_readsWord_0 : decode cX8_readsWord 0 = .ok (.aload_n 0, 1) := by decide +kernel
theorem dX8_readsWord_1 : decode cX8_readsWord 1 = .ok (.aload_n 0, 1) := by decide +kernel
theorem dX8_readsWord_2 : decode cX8_readsWord 2 = .ok (.getfield 28, 3) := by decide +kernel
theorem dX8_readsWord_5 : decode cX8_readsWord 5 = .ok (.iconst 3, 1) := by decide +kernel
theorem dX8_readsWord_6 : decode cX8_readsWord 6 = .ok (.iaload, 1) := by decide +kernel
theorem dX8_readsWord_7 : decode cX8_readsWord 7 = .ok (.bipush 6, 2) := by decide +kernel
theorem dX8_readsWord_9 : decode cX8_readsWord 9 = .ok (.if_icmp .ge 7, 3) := by decide +kernel
theorem dX8_readsWord_12 : decode cX8_readsWord 12 = .ok (.iconst 1, 1) := by decide +kernel
theorem dX8_readsWord_13 : decode cX8_readsWord 13 = .ok (.goto 4, 3) := by decide +kernel
theorem dX8_readsWord_16 : decode cX8_readsWord 16 = .ok (.iconst 0, 1) := by decide +kernel
theorem dX8_readsWord_17 : decode cX8_readsWord 17 = .ok (.iconst 3, 1) := by decide +kernel
theorem dX8_readsWord_18 : decode cX8_readsWord 18 = .ok (.invokevirtual 114, 3) := by decide +kernel
theorem dX8_readsWord_21 : decode cX8_readsWord 21 = .ok (.pop, 1) := by decide +kernel
theorem dX8_readsWord_22 : decode cX8_readsWord 22 = .ok (.bipush 8, 2) := by decide +kernel
theorem dX8_readsWord_24 : decode cX8_readsWord 24 = .ok (.iconst 3, 1) := by decide +kernel
theorem dX8_readsWord_25 : decode cX8_readsWord 25 = .ok (.aload_n 0, 1) := by decide +kernel
theorem dX8_readsWord_26 : decode cX8_readsWord 26 = .ok (.getfield 28, 3) := by decide +kernel
theorem dX8_readsWord_29 : decode cX8_readsWord 29 = .ok (.iconst 3, 1) := by decide +kernel
theorem dX8_readsWord_30 : decode cX8_readsWord 30 = .ok (.iaload, 1) := by decide +kernel
theorem dX8_readsWord_31 : decode cX8_readsWord 31 = .ok (.bipush 6, 2) := by decide +kernel
theorem dX8_readsWord_33 : decode cX8_readsWord 33 = .ok (.if_icmp .ge 12, 3) := by decide +kernel
theorem dX8_readsWord_36 : decode cX8_readsWord 36 = .ok (.aload_n 0, 1) := by decide +kernel
theorem dX8_readsWord_37 : decode cX8_readsWord 37 = .ok (.getfield 28, 3) := by decide +kernel
theorem dX8_readsWord_40 : decode cX8_readsWord 40 = .ok (.iconst 3, 1) := by decide +kernel
theorem dX8_readsWord_41 : decode cX8_readsWord 41 = .ok (.iaload, 1) := by decide +kernel
theorem dX8_readsWord_42 : decode cX8_readsWord 42 = .ok (.goto 4, 3) := by decide +kernel
theorem dX8_readsWord_45 : decode cX8_readsWord 45 = .ok (.iconst 0, 1) := by decide +kernel
theorem dX8_readsWord_46 : decode cX8_readsWord 46 = .ok (.imul, 1) := by decide +kernel
theorem dX8_readsWord_47 : decode cX8_readsWord 47 = .ok (.iadd, 1) := by decide +kernel
theorem dX8_readsWord_48 : decode cX8_readsWord 48 = .ok (.istore_n 1, 1) := by decide +kernel
theorem dX8_readsWord_49 : decode cX8_readsWord 49 = .ok (.aload_n 0, 1) := by decide +kernel
theorem dX8_readsWord_50 : decode cX8_readsWord 50 = .ok (.invokevirtual 121, 3) := by decide +kernel
theorem dX8_readsWord_53 : decode cX8_readsWord 53 = .ok (.istore_n 2, 1) := by decide +kernel
theorem dX8_readsWord_54 : decode cX8_readsWord 54 = .ok (.aload_n 0, 1) := by decide +kernel
theorem dX8_readsWord_55 : decode cX8_readsWord 55 = .ok (.invokevirtual 121, 3) := by decide +kernel
theorem dX8_readsWord_58 : decode cX8_readsWord 58 = .ok (.istore_n 3, 1) := by decide +kernel
theorem dX8_readsWord_59 : decode cX8_readsWord 59 = .ok (.aload_n 0, 1) := by decide +kernel
theorem dX8_readsWord_60 : decode cX8_readsWord 60 = .ok (.invokevirtual 104, 3) := by decide +kernel
theorem dX8_readsWord_63 : decode cX8_readsWord 63 = .ok (.ifCond .eq 18, 3) := by decide +kernel
theorem dX8_readsWord_66 : decode cX8_readsWord 66 = .ok (.aload_n 0, 1) := by decide +kernel
theorem dX8_readsWord_67 : decode cX8_readsWord 67 = .ok (.getfield 98, 3) := by decide +kernel
theorem dX8_readsWord_70 : decode cX8_readsWord 70 = .ok (.iconst 1, 1) := by decide +kernel
theorem dX8_readsWord_71 : decode cX8_readsWord 71 = .ok (.if_icmp .eq 10, 3) := by decide +kernel
theorem dX8_readsWord_74 : decode cX8_readsWord 74 = .ok (.aload_n 0, 1) := by decide +kernel
theorem dX8_readsWord_75 : decode cX8_readsWord 75 = .ok (.iconst 0, 1) := by decide +kernel
theorem dX8_readsWord_76 : decode cX8_readsWord 76 = .ok (.iconst 1, 1) := by decide +kernel
theorem dX8_readsWord_77 : decode cX8_readsWord 77 = .ok (.invokevirtual 114, 3) := by decide +kernel
theorem dX8_readsWord_80 : decode cX8_readsWord 80 = .ok (.pop, 1) := by decide +kernel
theorem dX8_readsWord_81 : decode cX8_readsWord 81 = .ok (.aload_n 0, 1) := by decide +kernel
theorem dX8_readsWord_82 : decode cX8_readsWord 82 = .ok (.aload_n 0, 1) := by decide +kernel
theorem dX8_readsWord_83 : decode cX8_readsWord 83 = .ok (.iload_n 2, 1) := by decide +kernel
theorem dX8_readsWord_84 : decode cX8_readsWord 84 = .ok (.iload_n 3, 1) := by decide +kernel
theorem dX8_readsWord_85 : decode cX8_readsWord 85 = .ok (.aload_n 0, 1) := by decide +kernel
theorem dX8_readsWord_86 : decode cX8_readsWord 86 = .ok (.getfield 95, 3) := by decide +kernel
theorem dX8_readsWord_89 : decode cX8_readsWord 89 = .ok (.bipush 97, 2) := by decide +kernel
theorem dX8_readsWord_91 : decode cX8_readsWord 91 = .ok (.isub, 1) := by decide +kernel
theorem dX8_readsWord_92 : decode cX8_readsWord 92 = .ok (.invokevirtual 125, 3) := by decide +kernel
theorem dX8_readsWord_95 : decode cX8_readsWord 95 = .ok (.ifCond .ne 7, 3) := by decide +kernel
theorem dX8_readsWord_98 : decode cX8_readsWord 98 = .ok (.iconst 1, 1) := by decide +kernel
theorem dX8_readsWord_99 : decode cX8_readsWord 99 = .ok (.goto 4, 3) := by decide +kernel
theorem dX8_readsWord_102 : decode cX8_readsWord 102 = .ok (.iconst 0, 1) := by decide +kernel
theorem dX8_readsWord_103 : decode cX8_readsWord 103 = .ok (.iconst 2, 1) := by decide +kernel
theorem dX8_readsWord_104 : decode cX8_readsWord 104 = .ok (.invokevirtual 114, 3) := by decide +kernel
theorem dX8_readsWord_107 : decode cX8_readsWord 107 = .ok (.bipush 97, 2) := by decide +kernel
theorem dX8_readsWord_109 : decode cX8_readsWord 109 = .ok (.isub, 1) := by decide +kernel
theorem dX8_readsWord_110 : decode cX8_readsWord 110 = .ok (.istore 4, 2) := by decide +kernel
theorem dX8_readsWord_112 : decode cX8_readsWord 112 = .ok (.aload_n 0, 1) := by decide +kernel
theorem dX8_readsWord_113 : decode cX8_readsWord 113 = .ok (.aload_n 0, 1) := by decide +kernel
theorem dX8_readsWord_114 : decode cX8_readsWord 114 = .ok (.getfield 98, 3) := by decide +kernel
theorem dX8_readsWord_117 : decode cX8_readsWord 117 = .ok (.iconst 4, 1) := by decide +kernel
theorem dX8_readsWord_118 : decode cX8_readsWord 118 = .ok (.if_icmp .ne 7, 3) := by decide +kernel
theorem dX8_readsWord_121 : decode cX8_readsWord 121 = .ok (.iconst 1, 1) := by decide +kernel
theorem dX8_readsWord_122 : decode cX8_readsWord 122 = .ok (.goto 4, 3) := by decide +kernel
theorem dX8_readsWord_125 : decode cX8_readsWord 125 = .ok (.iconst 0, 1) := by decide +kernel
theorem dX8_readsWord_126 : decode cX8_readsWord 126 = .ok (.iconst 1, 1) := by decide +kernel
theorem dX8_readsWord_127 : decode cX8_readsWord 127 = .ok (.invokevirtual 114, 3) := by decide +kernel
theorem dX8_readsWord_130 : decode cX8_readsWord 130 = .ok (.pop, 1) := by decide +kernel
theorem dX8_readsWord_131 : decode cX8_readsWord 131 = .ok (.aload_n 0, 1) := by decide +kernel
theorem dX8_readsWord_132 : decode cX8_readsWord 132 = .ok (.invokevirtual 104, 3) := by decide +kernel
theorem dX8_readsWord_135 : decode cX8_readsWord 135 = .ok (.ifCond .eq 39, 3) := by decide +kernel
theorem dX8_readsWord_138 : decode cX8_readsWord 138 = .ok (.aload_n 0, 1) := by decide +kernel
theorem dX8_readsWord_139 : decode cX8_readsWord 139 = .ok (.getfield 28, 3) := by decide +kernel
theorem dX8_readsWord_142 : decode cX8_readsWord 142 = .ok (.iload_n 1, 1) := by decide +kernel
theorem dX8_readsWord_143 : decode cX8_readsWord 143 = .ok (.iload_n 2, 1) := by decide +kernel
theorem dX8_readsWord_144 : decode cX8_readsWord 144 = .ok (.iastore, 1) := by decide +kernel
theorem dX8_readsWord_145 : decode cX8_readsWord 145 = .ok (.aload_n 0, 1) := by decide +kernel
theorem dX8_readsWord_146 : decode cX8_readsWord 146 = .ok (.getfield 28, 3) := by decide +kernel
theorem dX8_readsWord_149 : decode cX8_readsWord 149 = .ok (.iload_n 1, 1) := by decide +kernel
theorem dX8_readsWord_150 : decode cX8_readsWord 150 = .ok (.iconst 1, 1) := by decide +kernel
theorem dX8_readsWord_151 : decode cX8_readsWord 151 = .ok (.iadd, 1) := by decide +kernel
theorem dX8_readsWord_152 : decode cX8_readsWord 152 = .ok (.iload_n 3, 1) := by decide +kernel
theorem dX8_readsWord_153 : decode cX8_readsWord 153 = .ok (.iastore, 1) := by decide +kernel
theorem dX8_readsWord_154 : decode cX8_readsWord 154 = .ok (.aload_n 0, 1) := by decide +kernel
theorem dX8_readsWord_155 : decode cX8_readsWord 155 = .ok (.getfield 28, 3) := by decide +kernel
theorem dX8_readsWord_158 : decode cX8_readsWord 158 = .ok (.iload_n 1, 1) := by decide +kernel
theorem dX8_readsWord_159 : decode cX8_readsWord 159 = .ok (.iconst 2, 1) := by decide +kernel
theorem dX8_readsWord_160 : decode cX8_readsWord 160 = .ok (.iadd, 1) := by decide +kernel
theorem dX8_readsWord_161 : decode cX8_readsWord 161 = .ok (.iload 4, 2) := by decide +kernel
theorem dX8_readsWord_163 : decode cX8_readsWord 163 = .ok (.iastore, 1) := by decide +kernel
theorem dX8_readsWord_164 : decode cX8_readsWord 164 = .ok (.aload_n 0, 1) := by decide +kernel
theorem dX8_readsWord_165 : decode cX8_readsWord 165 = .ok (.getfield 28, 3) := by decide +kernel
theorem dX8_readsWord_168 : decode cX8_readsWord 168 = .ok (.iconst 3, 1) := by decide +kernel
theorem dX8_readsWord_169 : decode cX8_readsWord 169 = .ok (.dup2, 1) := by decide +kernel
theorem dX8_readsWord_170 : decode cX8_readsWord 170 = .ok (.iaload, 1) := by decide +kernel
theorem dX8_readsWord_171 : decode cX8_readsWord 171 = .ok (.iconst 1, 1) := by decide +kernel
theorem dX8_readsWord_172 : decode cX8_readsWord 172 = .ok (.iadd, 1) := by decide +kernel
theorem dX8_readsWord_173 : decode cX8_readsWord 173 = .ok (.iastore, 1) := by decide +kernel
theorem dX8_readsWord_174 : decode cX8_readsWord 174 = .ok (.return_, 1) := by decide +kernel
set_option maxRecDepth 20000 in
theorem ggX8_readsGuard_X8_kindOf : GoodIn wsX8_readsGuard wsX8_kindOf := goodIn_r _ [7] (by decide +kernel) (by decide +kernel)
set_option maxRecDepth 20000 in
theorem gX8_readsGuard_X8_kindOf : GoodIn wsX8_readsGuard (va_wsS RX8 128 yX8_kindOf wsX8_kindOf) := goodIn_app (goodIn_of _ (by decide +kernel)) ggX8_readsGuard_X8_kindOf
set_option maxRecDepth 20000 in
theorem ggX8_readsGuard_X8_takes : GoodIn wsX8_readsGuard wsX8_takes := goodIn_r _ [11, 12, 13, 14, 1, 15, 16, 17, 6, 18, 19, 20, 21, 22, 23, 3, 24, 25, 26, 27, 28, 29, 30, 31, 32, 37, 38, 39, 40, 41, 42, 43, 44, 45, 46, 47, 48, 49, 50, 51, 52, 53, 54, 55, 56, 57, 58, 59] (by decide +kernel) (by decide +kernel)
set_option maxRecDepth 20000 in
theorem gX8_readsGuard_X8_takes : GoodIn wsX8_readsGuard (wsV RX8 114 RX8 yX8_takes wsX8_takes) := goodIn_app (goodIn_of _ (by decide +kernel)) ggX8_readsGuard_X8_takes
set_option maxRecDepth 20000 in
theorem ggX8_readsGuard_X8_figure : GoodIn wsX8_readsGuard wsX8_figure := goodIn_r _ [36, 3, 1, 15, 16, 17, 6, 18, 13, 8, 9, 10, 11, 12, 14, 19, 20, 21, 22, 23, 24, 25, 26, 27, 28, 29, 30, 31, 32, 37, 38, 39, 40, 41, 42, 43, 44, 45, 46, 47, 48, 49, 50, 51, 52, 53, 54, 55, 56, 57, 58, 59] (by decide +kernel) (by decide +kernel)
set_option maxRecDepth 20000 in
theorem gX8_readsGuard_X8_figure : GoodIn wsX8_readsGuard (wsV RX8 118 RX8 yX8_figure wsX8_figure) := goodIn_app (goodIn_of _ (by decide +kernel)) ggX8_readsGuard_X8_figure
set_option maxRecDepth 20000 in
theorem ggX8_readsGuard_X8_isWell : GoodIn wsX8_readsGuard wsX8_isWell := goodIn_r _ [18, 13, 37, 38, 39, 40, 41, 42, 43, 44, 45, 46, 47, 48, 49, 50, 51, 52, 53, 54, 55, 56, 57, 58, 59] (by decide +kernel) (by decide +kernel)
set_option maxRecDepth 20000 in
theorem gX8_readsGuard_X8_isWell : GoodIn wsX8_readsGuard (wsV RX8 104 RX8 yX8_isWell wsX8_isWell) := goodIn_app (goodIn_of _ (by decide +kernel)) ggX8_readsGuard_X8_isWell
theorem dX8_readsGuard_0 : decode cX8_readsGuard 0 = .ok (.aload_n 0, 1) := by decide +kernel
theorem dX8_readsGuard_1 : decode cX8_readsGuard 1 = .ok (.getfield 95, 3) := by decide +kernel
theorem dX8_readsGuard_4 : decode cX8_readsGuard 4 = .ok (.invokestatic 128, 3) := by decide +kernel
theorem dX8_readsGuard_7 : decode cX8_readsGuard 7 = .ok (.istore_n 1, 1) := by decide +kernel
theorem dX8_readsGuard_8 : decode cX8_readsGuard 8 = .ok (.aload_n 0, 1) := by decide +kernel
theorem dX8_readsGuard_9 : decode cX8_readsGuard 9 = .ok (.aload_n 0, 1) := by decide +kernel
theorem dX8_readsGuard_10 : decode cX8_readsGuard 10 = .ok (.getfield 28, 3) := by decide +kernel
theorem dX8_readsGuard_13 : decode cX8_readsGuard 13 = .ok (.iconst 4, 1) := by decide +kernel
theorem dX8_readsGuard_14 : decode cX8_readsGuard 14 = .ok (.iaload, 1) := by decide +kernel
theorem dX8_readsGuard_15 : decode cX8_readsGuard 15 = .ok (.iconst 4, 1) := by decide +kernel
theorem dX8_readsGuard_16 : decode cX8_readsGuard 16 = .ok (.if_icmp .ge 7, 3) := by decide +kernel
theorem dX8_readsGuard_19 : decode cX8_readsGuard 19 = .ok (.iconst 1, 1) := by decide +kernel
theorem dX8_readsGuard_20 : decode cX8_readsGuard 20 = .ok (.goto 4, 3) := by decide +kernel
theorem dX8_readsGuard_23 : decode cX8_readsGuard 23 = .ok (.iconst 0, 1) := by decide +kernel
theorem dX8_readsGuard_24 : decode cX8_readsGuard 24 = .ok (.iconst 3, 1) := by decide +kernel
theorem dX8_readsGuard_25 : decode cX8_readsGuard 25 = .ok (.invokevirtual 114, 3) := by decide +kernel
theorem dX8_readsGuard_28 : decode cX8_readsGuard 28 = .ok (.pop, 1) := by decide +kernel
theorem dX8_readsGuard_29 : decode cX8_readsGuard 29 = .ok (.bipush 26, 2) := by decide +kernel
theorem dX8_readsGuard_31 : decode cX8_readsGuard 31 = .ok (.iconst 3, 1) := by decide +kernel
theorem dX8_readsGuard_32 : decode cX8_readsGuard 32 = .ok (.aload_n 0, 1) := by decide +kernel
theorem dX8_readsGuard_33 : decode cX8_readsGuard 33 = .ok (.getfield 28, 3) := by decide +kernel
theorem dX8_readsGuard_36 : decode cX8_readsGuard 36 = .ok (.iconst 4, 1) := by decide +kernel
theorem dX8_readsGuard_37 : decode cX8_readsGuard 37 = .ok (.iaload, 1) := by decide +kernel
theorem dX8_readsGuard_38 : decode cX8_readsGuard 38 = .ok (.iconst 4, 1) := by decide +kernel
theorem dX8_readsGuard_39 : decode cX8_readsGuard 39 = .ok (.if_icmp .ge 12, 3) := by decide +kernel
theorem dX8_readsGuard_42 : decode cX8_readsGuard 42 = .ok (.aload_n 0, 1) := by decide +kernel
theorem dX8_readsGuard_43 : decode cX8_readsGuard 43 = .ok (.getfield 28, 3) := by decide +kernel
theorem dX8_readsGuard_46 : decode cX8_readsGuard 46 = .ok (.iconst 4, 1) := by decide +kernel
theorem dX8_readsGuard_47 : decode cX8_readsGuard 47 = .ok (.iaload, 1) := by decide +kernel
theorem dX8_readsGuard_48 : decode cX8_readsGuard 48 = .ok (.goto 4, 3) := by decide +kernel
theorem dX8_readsGuard_51 : decode cX8_readsGuard 51 = .ok (.iconst 0, 1) := by decide +kernel
theorem dX8_readsGuard_52 : decode cX8_readsGuard 52 = .ok (.imul, 1) := by decide +kernel
theorem dX8_readsGuard_53 : decode cX8_readsGuard 53 = .ok (.iadd, 1) := by decide +kernel
theorem dX8_readsGuard_54 : decode cX8_readsGuard 54 = .ok (.istore_n 2, 1) := by decide +kernel
theorem dX8_readsGuard_55 : decode cX8_readsGuard 55 = .ok (.aload_n 0, 1) := by decide +kernel
theorem dX8_readsGuard_56 : decode cX8_readsGuard 56 = .ok (.iconst 0, 1) := by decide +kernel
theorem dX8_readsGuard_57 : decode cX8_readsGuard 57 = .ok (.bipush 9, 2) := by decide +kernel
theorem dX8_readsGuard_59 : decode cX8_readsGuard 59 = .ok (.invokevirtual 118, 3) := by decide +kernel
theorem dX8_readsGuard_62 : decode cX8_readsGuard 62 = .ok (.istore_n 3, 1) := by decide +kernel
theorem dX8_readsGuard_63 : decode cX8_readsGuard 63 = .ok (.aload_n 0, 1) := by decide +kernel
theorem dX8_readsGuard_64 : decode cX8_readsGuard 64 = .ok (.aload_n 0, 1) := by decide +kernel
theorem dX8_readsGuard_65 : decode cX8_readsGuard 65 = .ok (.getfield 98, 3) := by decide +kernel
theorem dX8_readsGuard_68 : decode cX8_readsGuard 68 = .ok (.iconst 4, 1) := by decide +kernel
theorem dX8_readsGuard_69 : decode cX8_readsGuard 69 = .ok (.if_icmp .ne 7, 3) := by decide +kernel
theorem dX8_readsGuard_72 : decode cX8_readsGuard 72 = .ok (.iconst 1, 1) := by decide +kernel
theorem dX8_readsGuard_73 : decode cX8_readsGuard 73 = .ok (.goto 4, 3) := by decide +kernel
theorem dX8_readsGuard_76 : decode cX8_readsGuard 76 = .ok (.iconst 0, 1) := by decide +kernel
theorem dX8_readsGuard_77 : decode cX8_readsGuard 77 = .ok (.iconst 1, 1) := by decide +kernel
theorem dX8_readsGuard_78 : decode cX8_readsGuard 78 = .ok (.invokevirtual 114, 3) := by decide +kernel
theorem dX8_readsGuard_81 : decode cX8_readsGuard 81 = .ok (.pop, 1) := by decide +kernel
theorem dX8_readsGuard_82 : decode cX8_readsGuard 82 = .ok (.aload_n 0, 1) := by decide +kernel
theorem dX8_readsGuard_83 : decode cX8_readsGuard 83 = .ok (.invokevirtual 104, 3) := by decide +kernel
theorem dX8_readsGuard_86 : decode cX8_readsGuard 86 = .ok (.ifCond .eq 47, 3) := by decide +kernel
theorem dX8_readsGuard_89 : decode cX8_readsGuard 89 = .ok (.aload_n 0, 1) := by decide +kernel
theorem dX8_readsGuard_90 : decode cX8_readsGuard 90 = .ok (.getfield 28, 3) := by decide +kernel
theorem dX8_readsGuard_93 : decode cX8_readsGuard 93 = .ok (.iload_n 2, 1) := by decide +kernel
theorem dX8_readsGuard_94 : decode cX8_readsGuard 94 = .ok (.iload_n 1, 1) := by decide +kernel
theorem dX8_readsGuard_95 : decode cX8_readsGuard 95 = .ok (.iastore, 1) := by decide +kernel
theorem dX8_readsGuard_96 : decode cX8_readsGuard 96 = .ok (.aload_n 0, 1) := by decide +kernel
theorem dX8_readsGuard_97 : decode cX8_readsGuard 97 = .ok (.getfield 28, 3) := by decide +kernel
theorem dX8_readsGuard_100 : decode cX8_readsGuard 100 = .ok (.iload_n 2, 1) := by decide +kernel
theorem dX8_readsGuard_101 : decode cX8_readsGuard 101 = .ok (.iconst 1, 1) := by decide +kernel
theorem dX8_readsGuard_102 : decode cX8_readsGuard 102 = .ok (.iadd, 1) := by decide +kernel
theorem dX8_readsGuard_103 : decode cX8_readsGuard 103 = .ok (.iload_n 3, 1) := by decide +kernel
theorem dX8_readsGuard_104 : decode cX8_readsGuard 104 = .ok (.iastore, 1) := by decide +kernel
theorem dX8_readsGuard_105 : decode cX8_readsGuard 105 = .ok (.aload_n 0, 1) := by decide +kernel
theorem dX8_readsGuard_106 : decode cX8_readsGuard 106 = .ok (.getfield 28, 3) := by decide +kernel
theorem dX8_readsGuard_109 : decode cX8_readsGuard 109 = .ok (.bipush 6, 2) := by decide +kernel
theorem dX8_readsGuard_111 : decode cX8_readsGuard 111 = .ok (.dup2, 1) := by decide +kernel
theorem dX8_readsGuard_112 : decode cX8_readsGuard 112 = .ok (.iaload, 1) := by decide +kernel
theorem dX8_readsGuard_113 : decode cX8_readsGuard 113 = .ok (.iconst 1, 1) := by decide +kernel
theorem dX8_readsGuard_114 : decode cX8_readsGuard 114 = .ok (.aload_n 0, 1) := by decide +kernel
theorem dX8_readsGuard_115 : decode cX8_readsGuard 115 = .ok (.getfield 28, 3) := by decide +kernel
theorem dX8_readsGuard_118 : decode cX8_readsGuard 118 = .ok (.iconst 4, 1) := by decide +kernel
theorem dX8_readsGuard_119 : decode cX8_readsGuard 119 = .ok (.iaload, 1) := by decide +kernel
theorem dX8_readsGuard_120 : decode cX8_readsGuard 120 = .ok (.ishl, 1) := by decide +kernel
theorem dX8_readsGuard_121 : decode cX8_readsGuard 121 = .ok (.ior, 1) := by decide +kernel
theorem dX8_readsGuard_122 : decode cX8_readsGuard 122 = .ok (.iastore, 1) := by decide +kernel
theorem dX8_readsGuard_123 : decode cX8_readsGuard 123 = .ok (.aload_n 0, 1) := by decide +kernel
theorem dX8_readsGuard_124 : decode cX8_readsGuard 124 = .ok (.getfield 28, 3) := by decide +kernel
theorem dX8_readsGuard_127 : decode cX8_readsGuard 127 = .ok (.iconst 4, 1) := by decide +kernel
theorem dX8_readsGuard_128 : decode cX8_readsGuard 128 = .ok (.dup2, 1) := by decide +kernel
theorem dX8_readsGuard_129 : decode cX8_readsGuard 129 = .ok (.iaload, 1) := by decide +kernel
theorem dX8_readsGuard_130 : decode cX8_readsGuard 130 = .ok (.iconst 1, 1) := by decide +kernel
theorem dX8_readsGuard_131 : decode cX8_readsGuard 131 = .ok (.iadd, 1) := by decide +kernel
theorem dX8_readsGuard_132 : decode cX8_readsGuard 132 = .ok (.iastore, 1) := by decide +kernel
theorem dX8_readsGuard_133 : decode cX8_readsGuard 133 = .ok (.return_, 1) := by decide +kernel
set_option maxRecDepth 20000 in
theorem ggX8_must_X8_isWell : GoodIn wsX8_must wsX8_isWell := goodIn_r _ [5, 6, 29, 30, 31, 32, 33, 34, 35, 36, 37, 38, 39, 40, 41, 42, 43, 44, 45, 46, 47, 48, 49, 50, 51] (by decide +kernel) (by decide +kernel)
set_option maxRecDepth 20000 in
theorem gX8_must_X8_isWell : GoodIn wsX8_must (wsV RX8 104 RX8 yX8_isWell wsX8_isWell) := goodIn_app (goodIn_of _ (by decide +kernel)) ggX8_must_X8_isWell
set_option maxRecDepth 20000 in
theorem ggX8_must_X8_takes : GoodIn wsX8_must wsX8_takes := goodIn_r _ [10, 11, 6, 12, 13, 1, 2, 3, 4, 5, 14, 15, 16, 17, 18, 19, 20, 21, 22, 23, 24, 25, 26, 27, 28, 29, 30, 31, 32, 33, 34, 35, 36, 37, 38, 39, 40, 41, 42, 43, 44, 45, 46, 47, 48, 49, 50, 51] (by decide +kernel) (by decide +kernel)
set_option maxRecDepth 20000 in
theorem gX8_must_X8_takes : GoodIn wsX8_must (wsV RX8 114 RX8 yX8_takes wsX8_takes) := goodIn_app (goodIn_of _ (by decide +kernel)) ggX8_must_X8_takes
theorem dX8_must_0 : decode cX8_must 0 = .ok (.aload_n 0, 1) := by decide +kernel
theorem dX8_must_1 : decode cX8_must 1 = .ok (.invokevirtual 104, 3) := by decide +kernel
theorem dX8_must_4 : decode cX8_must 4 = .ok (.ifCond .eq 14, 3) := by decide +kernel
theorem dX8_must_7 : decode cX8_must 7 = .ok (.iload_n 1, 1) := by decide +kernel
theorem dX8_must_8 : decode cX8_must 8 = .ok (.ifCond .ne 10, 3) := by decide +kernel
theorem dX8_must_11 : decode cX8_must 11 = .ok (.aload_n 0, 1) := by decide +kernel
theorem dX8_must_12 : decode cX8_must 12 = .ok (.iconst 0, 1) := by decide +kernel
theorem dX8_must_13 : decode cX8_must 13 = .ok (.iconst 1, 1) := by decide +kernel
theorem dX8_must_14 : decode cX8_must 14 = .ok (.invokevirtual 114, 3) := by decide +kernel
theorem dX8_must_17 : decode cX8_must 17 = .ok (.pop, 1) := by decide +kernel
theorem dX8_must_18 : decode cX8_must 18 = .ok (.return_, 1) := by decide +kernel
set_option maxRecDepth 20000 in
theorem ggX8_gate_X8_advances : GoodIn wsX8_gate wsX8_advances := goodIn_r _ [14, 2, 15, 5, 4, 16, 17, 18, 13, 19, 6, 20, 21, 22, 23, 67, 68, 69, 70, 71, 72, 73, 74, 75, 76, 77, 78, 79, 80, 81, 82, 83, 84, 85, 86, 87, 88, 89] (by decide +kernel) (by decide +kernel)
set_option maxRecDepth 20000 in
theorem gX8_gate_X8_advances : GoodIn wsX8_gate (wsV RX8 111 RX8 yX8_advances wsX8_advances) := goodIn_app (goodIn_of _ (by decide +kernel)) ggX8_gate_X8_advances
set_option maxRecDepth 20000 in
theorem ggX8_gate_X8_takes : GoodIn wsX8_gate wsX8_takes := goodIn_r _ [27, 15, 3, 28, 5, 29, 30, 31, 13, 32, 10, 11, 12, 14, 2, 4, 16, 17, 18, 19, 6, 20, 21, 22, 23, 67, 68, 69, 70, 71, 72, 73, 74, 75, 76, 77, 78, 79, 80, 81, 82, 83, 84, 85, 86, 87, 88, 89] (by decide +kernel) (by decide +kernel)
set_option maxRecDepth 20000 in
theorem gX8_gate_X8_takes : GoodIn wsX8_gate (wsV RX8 114 RX8 yX8_takes wsX8_takes) := goodIn_app (goodIn_of _ (by decide +kernel)) ggX8_gate_X8_takes
set_option maxRecDepth 20000 in
theorem ggX8_gate_X8_figure : GoodIn wsX8_gate wsX8_figure := goodIn_r _ [36, 4, 5, 29, 30, 31, 13, 32, 3, 24, 25, 26, 27, 15, 28, 10, 11, 12, 14, 2, 16, 17, 18, 19, 6, 20, 21, 22, 23, 67, 68, 69, 70, 71, 72, 73, 74, 75, 76, 77, 78, 79, 80, 81, 82, 83, 84, 85, 86, 87, 88, 89] (by decide +kernel) (by decide +kernel)
set_option maxRecDepth 20000 in
theorem gX8_gate_X8_figure : GoodIn wsX8_gate (wsV RX8 118 RX8 yX8_figure wsX8_figure) := goodIn_app (goodIn_of _ (by decide +kernel)) ggX8_gate_X8_figure
set_option maxRecDepth 20000 in
theorem ggX8_gate_X8_follows : GoodIn wsX8_gate wsX8_follows := goodIn_r _ [40, 4, 24, 25, 26, 13, 27, 15, 3, 28, 5, 29, 30, 31, 32, 10, 11, 12, 14, 2, 16, 17, 18, 19, 6, 20, 21, 22, 23, 33, 34, 35, 36, 67, 68, 69, 70, 71, 72, 73, 74, 75, 76, 77, 78, 79, 80, 81, 82, 83, 84, 85, 86, 87, 88, 89] (by decide +kernel) (by decide +kernel)
set_option maxRecDepth 20000 in
theorem gX8_gate_X8_follows : GoodIn wsX8_gate (wsV RX8 131 RX8 yX8_follows wsX8_follows) := goodIn_app (goodIn_of _ (by decide +kernel)) ggX8_gate_X8_follows
set_option maxRecDepth 20000 in
theorem ggX8_gate_X8_must : GoodIn wsX8_gate wsX8_must := goodIn_r _ [44, 29, 30, 31, 13, 32, 3, 24, 25, 26, 27, 15, 28, 5, 10, 11, 12, 14, 2, 4, 16, 17, 18, 19, 6, 20, 21, 22, 23, 67, 68, 69, 70, 71, 72, 73, 74, 75, 76, 77, 78, 79, 80, 81, 82, 83, 84, 85, 86, 87, 88, 89] (by decide +kernel) (by decide +kernel)
set_option maxRecDepth 20000 in
theorem gX8_gate_X8_must : GoodIn wsX8_gate (wsV RX8 134 RX8 yX8_must wsX8_must) := goodIn_app (goodIn_of _ (by decide +kernel)) ggX8_gate_X8_must
set_option maxRecDepth 20000 in
theorem ggX8_gate_X8_isWell : GoodIn wsX8_gate wsX8_isWell := goodIn_r _ [32, 3, 67, 68, 69, 70, 71, 72, 73, 74, 75, 76, 77, 78, 79, 80, 81, 82, 83, 84, 85, 86, 87, 88, 89] (by decide +kernel) (by decide +kernel)
set_option maxRecDepth 20000 in
theorem gX8_gate_X8_isWell : GoodIn wsX8_gate (wsV RX8 104 RX8 yX8_isWell wsX8_isWell) := goodIn_app (goodIn_of _ (by decide +kernel)) ggX8_gate_X8_isWell
set_option maxRecDepth 20000 in
theorem ggX8_gate_X8_readsWord : GoodIn wsX8_gate wsX8_readsWord := goodIn_r _ [48, 1, 4, 5, 24, 25, 26, 13, 27, 15, 3, 28, 29, 30, 31, 32, 10, 11, 12, 14, 2, 16, 17, 18, 19, 6, 20, 21, 22, 23, 49, 50, 51, 52, 53, 54, 55, 56, 67, 68, 69, 70, 71, 72, 73, 74, 75, 76, 77, 78, 79, 80, 81, 82, 83, 84, 85, 86, 87, 88, 89] (by decide +kernel) (by decide +kernel)
set_option maxRecDepth 20000 in
theorem gX8_gate_X8_readsWord : GoodIn wsX8_gate (wsV RX8 138 RX8 yX8_readsWord wsX8_readsWord) := goodIn_app (goodIn_of _ (by decide +kernel)) ggX8_gate_X8_readsWord
set_option maxRecDepth 20000 in
theorem ggX8_gate_X8_kindOf : GoodIn wsX8_gate wsX8_kindOf := goodIn_r _ [59] (by decide +kernel) (by decide +kernel)
set_option maxRecDepth 20000 in
theorem gX8_gate_X8_kindOf : GoodIn wsX8_gate (va_wsS RX8 128 yX8_kindOf wsX8_kindOf) := goodIn_app (goodIn_of _ (by decide +kernel)) ggX8_gate_X8_kindOf
set_option maxRecDepth 20000 in
theorem ggX8_gate_X8_readsGuard : GoodIn wsX8_gate wsX8_readsGuard := goodIn_r _ [63, 5, 1, 4, 57, 58, 13, 59, 24, 25, 26, 27, 15, 3, 28, 29, 30, 31, 32, 10, 11, 12, 14, 2, 16, 17, 18, 19, 6, 20, 21, 22, 23, 33, 34, 35, 36, 67, 68, 69, 70, 71, 72, 73, 74, 75, 76, 77, 78, 79, 80, 81, 82, 83, 84, 85, 86, 87, 88, 89] (by decide +kernel) (by decide +kernel)
set_option maxRecDepth 20000 in
theorem gX8_gate_X8_readsGuard : GoodIn wsX8_gate (wsV RX8 141 RX8 yX8_readsGuard wsX8_readsGuard) := goodIn_app (goodIn_of _ (by decide +kernel)) ggX8_gate_X8_readsGuard
set_option maxRecDepth 20000 in
theorem ggX8_gate_X8_copies : GoodIn wsX8_gate wsX8_copies := goodIn_r _ [66] (by decide +kernel) (by decide +kernel)
set_option maxRecDepth 20000 in
theorem gX8_gate_X8_copies : GoodIn wsX8_gate (va_wsS RX8 145 yX8_copies wsX8_copies) := goodIn_app (goodIn_of _ (by decide +kernel)) ggX8_gate_X8_copies
theorem dX8_gate_0 : decode cX8_gate 0 = .ok (.iconst 0, 1) := by decide +kernel
theorem dX8_gate_1 : decode cX8_gate 1 = .ok (.istore_n 1, 1) := by decide +kernel
theorem dX8_gate_2 : decode cX8_gate 2 = .ok (.iload_n 1, 1) := by decide +kernel
theorem dX8_gate_3 : decode cX8_gate 3 = .ok (.bipush 65, 2) := by decide +kernel
theorem dX8_gate_5 : decode cX8_gate 5 = .ok (.if_icmp .ge 16, 3) := by decide +kernel
theorem dX8_gate_8 : decode cX8_gate 8 = .ok (.aload_n 0, 1) := by decide +kernel
theorem dX8_gate_9 : decode cX8_gate 9 = .ok (.getfield 28, 3) := by decide +kernel
theorem dX8_gate_12 : decode cX8_gate 12 = .ok (.iload_n 1, 1) := by decide +kernel
theorem dX8_gate_13 : decode cX8_gate 13 = .ok (.iconst 0, 1) := by decide +kernel
theorem dX8_gate_14 : decode cX8_gate 14 = .ok (.iastore, 1) := by decide +kernel
theorem dX8_gate_15 : decode cX8_gate 15 = .ok (.iinc 1 1, 3) := by decide +kernel
theorem dX8_gate_18 : decode cX8_gate 18 = .ok (.goto (-16), 3) := by decide +kernel
theorem dX8_gate_21 : decode cX8_gate 21 = .ok (.aload_n 0, 1) := by decide +kernel
theorem dX8_gate_22 : decode cX8_gate 22 = .ok (.iconst 0, 1) := by decide +kernel
theorem dX8_gate_23 : decode cX8_gate 23 = .ok (.putfield 86, 3) := by decide +kernel
theorem dX8_gate_26 : decode cX8_gate 26 = .ok (.aload_n 0, 1) := by decide +kernel
theorem dX8_gate_27 : decode cX8_gate 27 = .ok (.iconst (-1), 1) := by decide +kernel
theorem dX8_gate_28 : decode cX8_gate 28 = .ok (.putfield 101, 3) := by decide +kernel
theorem dX8_gate_31 : decode cX8_gate 31 = .ok (.aload_n 0, 1) := by decide +kernel
theorem dX8_gate_32 : decode cX8_gate 32 = .ok (.invokevirtual 111, 3) := by decide +kernel
theorem dX8_gate_35 : decode cX8_gate 35 = .ok (.aload_n 0, 1) := by decide +kernel
theorem dX8_gate_36 : decode cX8_gate 36 = .ok (.aload_n 0, 1) := by decide +kernel
theorem dX8_gate_37 : decode cX8_gate 37 = .ok (.getfield 98, 3) := by decide +kernel
theorem dX8_gate_40 : decode cX8_gate 40 = .ok (.iconst 1, 1) := by decide +kernel
theorem dX8_gate_41 : decode cX8_gate 41 = .ok (.if_icmp .ne 16, 3) := by decide +kernel
theorem dX8_gate_44 : decode cX8_gate 44 = .ok (.aload_n 0, 1) := by decide +kernel
theorem dX8_gate_45 : decode cX8_gate 45 = .ok (.getfield 95, 3) := by decide +kernel
theorem dX8_gate_48 : decode cX8_gate 48 = .ok (.bipush 113, 2) := by decide +kernel
theorem dX8_gate_50 : decode cX8_gate 50 = .ok (.if_icmp .ne 7, 3) := by decide +kernel
theorem dX8_gate_53 : decode cX8_gate 53 = .ok (.iconst 1, 1) := by decide +kernel
theorem dX8_gate_54 : decode cX8_gate 54 = .ok (.goto 4, 3) := by decide +kernel
theorem dX8_gate_57 : decode cX8_gate 57 = .ok (.iconst 0, 1) := by decide +kernel
theorem dX8_gate_58 : decode cX8_gate 58 = .ok (.iconst 1, 1) := by decide +kernel
theorem dX8_gate_59 : decode cX8_gate 59 = .ok (.invokevirtual 114, 3) := by decide +kernel
theorem dX8_gate_62 : decode cX8_gate 62 = .ok (.pop, 1) := by decide +kernel
theorem dX8_gate_63 : decode cX8_gate 63 = .ok (.aload_n 0, 1) := by decide +kernel
theorem dX8_gate_64 : decode cX8_gate 64 = .ok (.getfield 28, 3) := by decide +kernel
theorem dX8_gate_67 : decode cX8_gate 67 = .ok (.iconst 0, 1) := by decide +kernel
theorem dX8_gate_68 : decode cX8_gate 68 = .ok (.aload_n 0, 1) := by decide +kernel
theorem dX8_gate_69 : decode cX8_gate 69 = .ok (.iconst 0, 1) := by decide +kernel
theorem dX8_gate_70 : decode cX8_gate 70 = .ok (.bipush 9, 2) := by decide +kernel
theorem dX8_gate_72 : decode cX8_gate 72 = .ok (.invokevirtual 118, 3) := by decide +kernel
theorem dX8_gate_75 : decode cX8_gate 75 = .ok (.iastore, 1) := by decide +kernel
theorem dX8_gate_76 : decode cX8_gate 76 = .ok (.aload_n 0, 1) := by decide +kernel
theorem dX8_gate_77 : decode cX8_gate 77 = .ok (.getfield 28, 3) := by decide +kernel
theorem dX8_gate_80 : decode cX8_gate 80 = .ok (.iconst 1, 1) := by decide +kernel
theorem dX8_gate_81 : decode cX8_gate 81 = .ok (.aload_n 0, 1) := by decide +kernel
theorem dX8_gate_82 : decode cX8_gate 82 = .ok (.iconst 0, 1) := by decide +kernel
theorem dX8_gate_83 : decode cX8_gate 83 = .ok (.bipush 9, 2) := by decide +kernel
theorem dX8_gate_85 : decode cX8_gate 85 = .ok (.invokevirtual 131, 3) := by decide +kernel
theorem dX8_gate_88 : decode cX8_gate 88 = .ok (.iastore, 1) := by decide +kernel
theorem dX8_gate_89 : decode cX8_gate 89 = .ok (.aload_n 0, 1) := by decide +kernel
theorem dX8_gate_90 : decode cX8_gate 90 = .ok (.getfield 28, 3) := by decide +kernel
theorem dX8_gate_93 : decode cX8_gate 93 = .ok (.iconst 2, 1) := by decide +kernel
theorem dX8_gate_94 : decode cX8_gate 94 = .ok (.aload_n 0, 1) := by decide +kernel
theorem dX8_gate_95 : decode cX8_gate 95 = .ok (.iconst 0, 1) := by decide +kernel
theorem dX8_gate_96 : decode cX8_gate 96 = .ok (.bipush 6, 2) := by decide +kernel
theorem dX8_gate_98 : decode cX8_gate 98 = .ok (.invokevirtual 131, 3) := by decide +kernel
theorem dX8_gate_101 : decode cX8_gate 101 = .ok (.iastore, 1) := by decide +kernel
theorem dX8_gate_102 : decode cX8_gate 102 = .ok (.aload_n 0, 1) := by decide +kernel
theorem dX8_gate_103 : decode cX8_gate 103 = .ok (.aload_n 0, 1) := by decide +kernel
theorem dX8_gate_104 : decode cX8_gate 104 = .ok (.getfield 98, 3) := by decide +kernel
theorem dX8_gate_107 : decode cX8_gate 107 = .ok (.iconst 4, 1) := by decide +kernel
theorem dX8_gate_108 : decode cX8_gate 108 = .ok (.if_icmp .ne 7, 3) := by decide +kernel
theorem dX8_gate_111 : decode cX8_gate 111 = .ok (.iconst 1, 1) := by decide +kernel
theorem dX8_gate_112 : decode cX8_gate 112 = .ok (.goto 4, 3) := by decide +kernel
theorem dX8_gate_115 : decode cX8_gate 115 = .ok (.iconst 0, 1) := by decide +kernel
theorem dX8_gate_116 : decode cX8_gate 116 = .ok (.iconst 1, 1) := by decide +kernel
theorem dX8_gate_117 : decode cX8_gate 117 = .ok (.invokevirtual 114, 3) := by decide +kernel
theorem dX8_gate_120 : decode cX8_gate 120 = .ok (.pop, 1) := by decide +kernel
theorem dX8_gate_121 : decode cX8_gate 121 = .ok (.aload_n 0, 1) := by decide +kernel
theorem dX8_gate_122 : decode cX8_gate 122 = .ok (.aload_n 0, 1) := by decide +kernel
theorem dX8_gate_123 : decode cX8_gate 123 = .ok (.getfield 98, 3) := by decide +kernel
theorem dX8_gate_126 : decode cX8_gate 126 = .ok (.iconst 1, 1) := by decide +kernel
theorem dX8_gate_127 : decode cX8_gate 127 = .ok (.if_icmp .ne 16, 3) := by decide +kernel
theorem dX8_gate_130 : decode cX8_gate 130 = .ok (.aload_n 0, 1) := by decide +kernel
theorem dX8_gate_131 : decode cX8_gate 131 = .ok (.getfield 95, 3) := by decide +kernel
theorem dX8_gate_134 : decode cX8_gate 134 = .ok (.bipush 119, 2) := by decide +kernel
theorem dX8_gate_136 : decode cX8_gate 136 = .ok (.if_icmp .ne 7, 3) := by decide +kernel
theorem dX8_gate_139 : decode cX8_gate 139 = .ok (.iconst 1, 1) := by decide +kernel
theorem dX8_gate_140 : decode cX8_gate 140 = .ok (.goto 4, 3) := by decide +kernel
theorem dX8_gate_143 : decode cX8_gate 143 = .ok (.iconst 0, 1) := by decide +kernel
theorem dX8_gate_144 : decode cX8_gate 144 = .ok (.invokevirtual 134, 3) := by decide +kernel
theorem dX8_gate_147 : decode cX8_gate 147 = .ok (.aload_n 0, 1) := by decide +kernel
theorem dX8_gate_148 : decode cX8_gate 148 = .ok (.invokevirtual 104, 3) := by decide +kernel
theorem dX8_gate_151 : decode cX8_gate 151 = .ok (.ifCond .eq 27, 3) := by decide +kernel
theorem dX8_gate_154 : decode cX8_gate 154 = .ok (.aload_n 0, 1) := by decide +kernel
theorem dX8_gate_155 : decode cX8_gate 155 = .ok (.getfield 98, 3) := by decide +kernel
theorem dX8_gate_158 : decode cX8_gate 158 = .ok (.iconst 1, 1) := by decide +kernel
theorem dX8_gate_159 : decode cX8_gate 159 = .ok (.if_icmp .ne 19, 3) := by decide +kernel
theorem dX8_gate_162 : decode cX8_gate 162 = .ok (.aload_n 0, 1) := by decide +kernel
theorem dX8_gate_163 : decode cX8_gate 163 = .ok (.getfield 95, 3) := by decide +kernel
theorem dX8_gate_166 : decode cX8_gate 166 = .ok (.bipush 119, 2) := by decide +kernel
theorem dX8_gate_168 : decode cX8_gate 168 = .ok (.if_icmp .ne 10, 3) := by decide +kernel
theorem dX8_gate_171 : decode cX8_gate 171 = .ok (.aload_n 0, 1) := by decide +kernel
theorem dX8_gate_172 : decode cX8_gate 172 = .ok (.invokevirtual 138, 3) := by decide +kernel
theorem dX8_gate_175 : decode cX8_gate 175 = .ok (.goto (-28), 3) := by decide +kernel
theorem dX8_gate_178 : decode cX8_gate 178 = .ok (.aload_n 0, 1) := by decide +kernel
theorem dX8_gate_179 : decode cX8_gate 179 = .ok (.aload_n 0, 1) := by decide +kernel
theorem dX8_gate_180 : decode cX8_gate 180 = .ok (.getfield 98, 3) := by decide +kernel
theorem dX8_gate_183 : decode cX8_gate 183 = .ok (.iconst 1, 1) := by decide +kernel
theorem dX8_gate_184 : decode cX8_gate 184 = .ok (.if_icmp .ne 17, 3) := by decide +kernel
theorem dX8_gate_187 : decode cX8_gate 187 = .ok (.aload_n 0, 1) := by decide +kernel
theorem dX8_gate_188 : decode cX8_gate 188 = .ok (.getfield 95, 3) := by decide +kernel
theorem dX8_gate_191 : decode cX8_gate 191 = .ok (.invokestatic 128, 3) := by decide +kernel
theorem dX8_gate_194 : decode cX8_gate 194 = .ok (.ifCond .le 7, 3) := by decide +kernel
theorem dX8_gate_197 : decode cX8_gate 197 = .ok (.iconst 1, 1) := by decide +kernel
theorem dX8_gate_198 : decode cX8_gate 198 = .ok (.goto 4, 3) := by decide +kernel
theorem dX8_gate_201 : decode cX8_gate 201 = .ok (.iconst 0, 1) := by decide +kernel
theorem dX8_gate_202 : decode cX8_gate 202 = .ok (.invokevirtual 134, 3) := by decide +kernel
theorem dX8_gate_205 : decode cX8_gate 205 = .ok (.aload_n 0, 1) := by decide +kernel
theorem dX8_gate_206 : decode cX8_gate 206 = .ok (.invokevirtual 104, 3) := by decide +kernel
theorem dX8_gate_209 : decode cX8_gate 209 = .ok (.ifCond .eq 28, 3) := by decide +kernel
theorem dX8_gate_212 : decode cX8_gate 212 = .ok (.aload_n 0, 1) := by decide +kernel
theorem dX8_gate_213 : decode cX8_gate 213 = .ok (.getfield 98, 3) := by decide +kernel
theorem dX8_gate_216 : decode cX8_gate 216 = .ok (.iconst 1, 1) := by decide +kernel
theorem dX8_gate_217 : decode cX8_gate 217 = .ok (.if_icmp .ne 20, 3) := by decide +kernel
theorem dX8_gate_220 : decode cX8_gate 220 = .ok (.aload_n 0, 1) := by decide +kernel
theorem dX8_gate_221 : decode cX8_gate 221 = .ok (.getfield 95, 3) := by decide +kernel
theorem dX8_gate_224 : decode cX8_gate 224 = .ok (.invokestatic 128, 3) := by decide +kernel
theorem dX8_gate_227 : decode cX8_gate 227 = .ok (.ifCond .le 10, 3) := by decide +kernel
theorem dX8_gate_230 : decode cX8_gate 230 = .ok (.aload_n 0, 1) := by decide +kernel
theorem dX8_gate_231 : decode cX8_gate 231 = .ok (.invokevirtual 141, 3) := by decide +kernel
theorem dX8_gate_234 : decode cX8_gate 234 = .ok (.goto (-29), 3) := by decide +kernel
theorem dX8_gate_237 : decode cX8_gate 237 = .ok (.aload_n 0, 1) := by decide +kernel
theorem dX8_gate_238 : decode cX8_gate 238 = .ok (.aload_n 0, 1) := by decide +kernel
theorem dX8_gate_239 : decode cX8_gate 239 = .ok (.getfield 98, 3) := by decide +kernel
theorem dX8_gate_242 : decode cX8_gate 242 = .ok (.ifCond .ne 7, 3) := by decide +kernel
theorem dX8_gate_245 : decode cX8_gate 245 = .ok (.iconst 1, 1) := by decide +kernel
theorem dX8_gate_246 : decode cX8_gate 246 = .ok (.goto 4, 3) := by decide +kernel
theorem dX8_gate_249 : decode cX8_gate 249 = .ok (.iconst 0, 1) := by decide +kernel
theorem dX8_gate_250 : decode cX8_gate 250 = .ok (.invokevirtual 134, 3) := by decide +kernel
theorem dX8_gate_253 : decode cX8_gate 253 = .ok (.aload_n 0, 1) := by decide +kernel
theorem dX8_gate_254 : decode cX8_gate 254 = .ok (.iconst 0, 1) := by decide +kernel
theorem dX8_gate_255 : decode cX8_gate 255 = .ok (.putfield 82, 3) := by decide +kernel
theorem dX8_gate_258 : decode cX8_gate 258 = .ok (.aload_n 0, 1) := by decide +kernel
theorem dX8_gate_259 : decode cX8_gate 259 = .ok (.invokevirtual 104, 3) := by decide +kernel
theorem dX8_gate_262 : decode cX8_gate 262 = .ok (.ifCond .ne 11, 3) := by decide +kernel
theorem dX8_gate_265 : decode cX8_gate 265 = .ok (.ldc 144, 2) := by decide +kernel
theorem dX8_gate_267 : decode cX8_gate 267 = .ok (.aload_n 0, 1) := by decide +kernel
theorem dX8_gate_268 : decode cX8_gate 268 = .ok (.getfield 101, 3) := by decide +kernel
theorem dX8_gate_271 : decode cX8_gate 271 = .ok (.isub, 1) := by decide +kernel
theorem dX8_gate_272 : decode cX8_gate 272 = .ok (.ireturn, 1) := by decide +kernel
theorem dX8_gate_273 : decode cX8_gate 273 = .ok (.aload_n 0, 1) := by decide +kernel
theorem dX8_gate_274 : decode cX8_gate 274 = .ok (.getfield 28, 3) := by decide +kernel
theorem dX8_gate_277 : decode cX8_gate 277 = .ok (.iconst 0, 1) := by decide +kernel
theorem dX8_gate_278 : decode cX8_gate 278 = .ok (.aload_n 0, 1) := by decide +kernel
theorem dX8_gate_279 : decode cX8_gate 279 = .ok (.getfield 25, 3) := by decide +kernel
theorem dX8_gate_282 : decode cX8_gate 282 = .ok (.iconst 0, 1) := by decide +kernel
theorem dX8_gate_283 : decode cX8_gate 283 = .ok (.invokestatic 145, 3) := by decide +kernel
theorem dX8_gate_286 : decode cX8_gate 286 = .ok (.aload_n 0, 1) := by decide +kernel
theorem dX8_gate_287 : decode cX8_gate 287 = .ok (.iconst 0, 1) := by decide +kernel
theorem dX8_gate_288 : decode cX8_gate 288 = .ok (.putfield 149, 3) := by decide +kernel
theorem dX8_gate_291 : decode cX8_gate 291 = .ok (.aload_n 0, 1) := by decide +kernel
theorem dX8_gate_292 : decode cX8_gate 292 = .ok (.getfield 25, 3) := by decide +kernel
theorem dX8_gate_295 : decode cX8_gate 295 = .ok (.iconst 3, 1) := by decide +kernel
theorem dX8_gate_296 : decode cX8_gate 296 = .ok (.iaload, 1) := by decide +kernel
theorem dX8_gate_297 : decode cX8_gate 297 = .ok (.ireturn, 1) := by decide +kernel
theorem dX8_fault_0 : decode cX8_fault 0 = .ok (.aload_n 0, 1) := by decide +kernel
theorem dX8_fault_1 : decode cX8_fault 1 = .ok (.getfield 108, 3) := by decide +kernel
theorem dX8_fault_4 : decode cX8_fault 4 = .ok (.ireturn, 1) := by decide +kernel
theorem dX8_isGate_0 : decode cX8_isGate 0 = .ok (.aload_n 0, 1) := by decide +kernel
theorem dX8_isGate_1 : decode cX8_isGate 1 = .ok (.getfield 25, 3) := by decide +kernel
theorem dX8_isGate_4 : decode cX8_isGate 4 = .ok (.iconst 3, 1) := by decide +kernel
theorem dX8_isGate_5 : decode cX8_isGate 5 = .ok (.iaload, 1) := by decide +kernel
theorem dX8_isGate_6 : decode cX8_isGate 6 = .ok (.ifCond .le 7, 3) := by decide +kernel
theorem dX8_isGate_9 : decode cX8_isGate 9 = .ok (.iconst 1, 1) := by decide +kernel
theorem dX8_isGate_10 : decode cX8_isGate 10 = .ok (.goto 4, 3) := by decide +kernel
theorem dX8_isGate_13 : decode cX8_isGate 13 = .ok (.iconst 0, 1) := by decide +kernel
theorem dX8_isGate_14 : decode cX8_isGate 14 = .ok (.ireturn, 1) := by decide +kernel
set_option maxRecDepth 20000 in
theorem ggX8_isWord_X8_in : GoodIn wsX8_isWord wsX8_in := goodIn_r _ [5] (by decide +kernel) (by decide +kernel)
set_option maxRecDepth 20000 in
theorem gX8_isWord_X8_in : GoodIn wsX8_isWord (va_wsS RX8 56 yX8_in wsX8_in) := goodIn_app (goodIn_of _ (by decide +kernel)) ggX8_isWord_X8_in
theorem dX8_isWord_0 : decode cX8_isWord 0 = .ok (.iload_n 1, 1) := by decide +kernel
theorem dX8_isWord_1 : decode cX8_isWord 1 = .ok (.iconst 0, 1) := by decide +kernel
theorem dX8_isWord_2 : decode cX8_isWord 2 = .ok (.aload_n 0, 1) := by decide +kernel
theorem dX8_isWord_3 : decode cX8_isWord 3 = .ok (.getfield 25, 3) := by decide +kernel
theorem dX8_isWord_6 : decode cX8_isWord 6 = .ok (.iconst 3, 1) := by decide +kernel
theorem dX8_isWord_7 : decode cX8_isWord 7 = .ok (.iaload, 1) := by decide +kernel
theorem dX8_isWord_8 : decode cX8_isWord 8 = .ok (.iconst 1, 1) := by decide +kernel
theorem dX8_isWord_9 : decode cX8_isWord 9 = .ok (.isub, 1) := by decide +kernel
theorem dX8_isWord_10 : decode cX8_isWord 10 = .ok (.invokestatic 56, 3) := by decide +kernel
theorem dX8_isWord_13 : decode cX8_isWord 13 = .ok (.ireturn, 1) := by decide +kernel
set_option maxRecDepth 20000 in
theorem ggX8_isGuard_X8_in : GoodIn wsX8_isGuard wsX8_in := goodIn_r _ [5] (by decide +kernel) (by decide +kernel)
set_option maxRecDepth 20000 in
theorem gX8_isGuard_X8_in : GoodIn wsX8_isGuard (va_wsS RX8 56 yX8_in wsX8_in) := goodIn_app (goodIn_of _ (by decide +kernel)) ggX8_isGuard_X8_in
theorem dX8_isGuard_0 : decode cX8_isGuard 0 = .ok (.iload_n 1, 1) := by decide +kernel
theorem dX8_isGuard_1 : decode cX8_isGuard 1 = .ok (.iconst 0, 1) := by decide +kernel
theorem dX8_isGuard_2 : decode cX8_isGuard 2 = .ok (.aload_n 0, 1) := by decide +kernel
theorem dX8_isGuard_3 : decode cX8_isGuard 3 = .ok (.getfield 25, 3) := by decide +kernel
theorem dX8_isGuard_6 : decode cX8_isGuard 6 = .ok (.iconst 4, 1) := by decide +kernel
theorem dX8_isGuard_7 : decode cX8_isGuard 7 = .ok (.iaload, 1) := by decide +kernel
theorem dX8_isGuard_8 : decode cX8_isGuard 8 = .ok (.iconst 1, 1) := by decide +kernel
theorem dX8_isGuard_9 : decode cX8_isGuard 9 = .ok (.isub, 1) := by decide +kernel
theorem dX8_isGuard_10 : decode cX8_isGuard 10 = .ok (.invokestatic 56, 3) := by decide +kernel
theorem dX8_isGuard_13 : decode cX8_isGuard 13 = .ok (.ireturn, 1) := by decide +kernel
set_option maxRecDepth 20000 in
theorem ggX8_isHour_X8_in : GoodIn wsX8_isHour wsX8_in := goodIn_r _ [4] (by decide +kernel) (by decide +kernel)
set_option maxRecDepth 20000 in
theorem gX8_isHour_X8_in : GoodIn wsX8_isHour (va_wsS RX8 56 yX8_in wsX8_in) := goodIn_app (goodIn_of _ (by decide +kernel)) ggX8_isHour_X8_in
theorem dX8_isHour_0 : decode cX8_isHour 0 = .ok (.iload_n 0, 1) := by decide +kernel
theorem dX8_isHour_1 : decode cX8_isHour 1 = .ok (.iconst 0, 1) := by decide +kernel
theorem dX8_isHour_2 : decode cX8_isHour 2 = .ok (.iconst 5, 1) := by decide +kernel
theorem dX8_isHour_3 : decode cX8_isHour 3 = .ok (.invokestatic 56, 3) := by decide +kernel
theorem dX8_isHour_6 : decode cX8_isHour 6 = .ok (.ireturn, 1) := by decide +kernel
set_option maxRecDepth 20000 in
theorem ggX8_isFar_X8_in : GoodIn wsX8_isFar wsX8_in := goodIn_r _ [4] (by decide +kernel) (by decide +kernel)
set_option maxRecDepth 20000 in
theorem gX8_isFar_X8_in : GoodIn wsX8_isFar (va_wsS RX8 56 yX8_in wsX8_in) := goodIn_app (goodIn_of _ (by decide +kernel)) ggX8_isFar_X8_in
theorem dX8_isFar_0 : decode cX8_isFar 0 = .ok (.iload_n 0, 1) := by decide +kernel
theorem dX8_isFar_1 : decode cX8_isFar 1 = .ok (.iconst 0, 1) := by decide +kernel
theorem dX8_isFar_2 : decode cX8_isFar 2 = .ok (.bipush 60, 2) := by decide +kernel
theorem dX8_isFar_4 : decode cX8_isFar 4 = .ok (.invokestatic 56, 3) := by decide +kernel
theorem dX8_isFar_7 : decode cX8_isFar 7 = .ok (.ireturn, 1) := by decide +kernel
set_option maxRecDepth 20000 in
theorem ggX8_areWords_X8_in : GoodIn wsX8_areWords wsX8_in := goodIn_r _ [5] (by decide +kernel) (by decide +kernel)
set_option maxRecDepth 20000 in
theorem gX8_areWords_X8_in : GoodIn wsX8_areWords (va_wsS RX8 56 yX8_in wsX8_in) := goodIn_app (goodIn_of _ (by decide +kernel)) ggX8_areWords_X8_in
theorem dX8_areWords_0 : decode cX8_areWords 0 = .ok (.iload_n 1, 1) := by decide +kernel
theorem dX8_areWords_1 : decode cX8_areWords 1 = .ok (.iconst 0, 1) := by decide +kernel
theorem dX8_areWords_2 : decode cX8_areWords 2 = .ok (.iconst 1, 1) := by decide +kernel
theorem dX8_areWords_3 : decode cX8_areWords 3 = .ok (.aload_n 0, 1) := by decide +kernel
theorem dX8_areWords_4 : decode cX8_areWords 4 = .ok (.getfield 25, 3) := by decide +kernel
theorem dX8_areWords_7 : decode cX8_areWords 7 = .ok (.iconst 3, 1) := by decide +kernel
theorem dX8_areWords_8 : decode cX8_areWords 8 = .ok (.iaload, 1) := by decide +kernel
theorem dX8_areWords_9 : decode cX8_areWords 9 = .ok (.ishl, 1) := by decide +kernel
theorem dX8_areWords_10 : decode cX8_areWords 10 = .ok (.iconst 1, 1) := by decide +kernel
theorem dX8_areWords_11 : decode cX8_areWords 11 = .ok (.isub, 1) := by decide +kernel
theorem dX8_areWords_12 : decode cX8_areWords 12 = .ok (.invokestatic 56, 3) := by decide +kernel
theorem dX8_areWords_15 : decode cX8_areWords 15 = .ok (.ireturn, 1) := by decide +kernel
theorem dX8_secretOf_0 : decode cX8_secretOf 0 = .ok (.iload_n 1, 1) := by decide +kernel
theorem dX8_secretOf_1 : decode cX8_secretOf 1 = .ok (.bipush 7, 2) := by decide +kernel
theorem dX8_secretOf_3 : decode cX8_secretOf 3 = .ok (.irem, 1) := by decide +kernel
theorem dX8_secretOf_4 : decode cX8_secretOf 4 = .ok (.aload_n 0, 1) := by decide +kernel
theorem dX8_secretOf_5 : decode cX8_secretOf 5 = .ok (.iconst 2, 1) := by decide +kernel
theorem dX8_secretOf_6 : decode cX8_secretOf 6 = .ok (.iaload, 1) := by decide +kernel
theorem dX8_secretOf_7 : decode cX8_secretOf 7 = .ok (.if_icmp .ne 7, 3) := by decide +kernel
theorem dX8_secretOf_10 : decode cX8_secretOf 10 = .ok (.iconst 0, 1) := by decide +kernel
theorem dX8_secretOf_11 : decode cX8_secretOf 11 = .ok (.goto 16, 3) := by decide +kernel
theorem dX8_secretOf_14 : decode cX8_secretOf 14 = .ok (.aload_n 0, 1) := by decide +kernel
theorem dX8_secretOf_15 : decode cX8_secretOf 15 = .ok (.iconst 0, 1) := by decide +kernel
theorem dX8_secretOf_16 : decode cX8_secretOf 16 = .ok (.iaload, 1) := by decide +kernel
theorem dX8_secretOf_17 : decode cX8_secretOf 17 = .ok (.aload_n 0, 1) := by decide +kernel
theorem dX8_secretOf_18 : decode cX8_secretOf 18 = .ok (.iconst 1, 1) := by decide +kernel
theorem dX8_secretOf_19 : decode cX8_secretOf 19 = .ok (.iaload, 1) := by decide +kernel
theorem dX8_secretOf_20 : decode cX8_secretOf 20 = .ok (.iload_n 1, 1) := by decide +kernel
theorem dX8_secretOf_21 : decode cX8_secretOf 21 = .ok (.imul, 1) := by decide +kernel
theorem dX8_secretOf_22 : decode cX8_secretOf 22 = .ok (.iadd, 1) := by decide +kernel
theorem dX8_secretOf_23 : decode cX8_secretOf 23 = .ok (.aload_n 0, 1) := by decide +kernel
theorem dX8_secretOf_24 : decode cX8_secretOf 24 = .ok (.iconst 3, 1) := by decide +kernel
theorem dX8_secretOf_25 : decode cX8_secretOf 25 = .ok (.iaload, 1) := by decide +kernel
theorem dX8_secretOf_26 : decode cX8_secretOf 26 = .ok (.irem, 1) := by decide +kernel
theorem dX8_secretOf_27 : decode cX8_secretOf 27 = .ok (.ireturn, 1) := by decide +kernel
theorem dX8_distance_0 : decode cX8_distance 0 = .ok (.iconst 0, 1) := by decide +kernel
theorem dX8_distance_1 : decode cX8_distance 1 = .ok (.istore_n 3, 1) := by decide +kernel
theorem dX8_distance_2 : decode cX8_distance 2 = .ok (.iconst 0, 1) := by decide +kernel
theorem dX8_distance_3 : decode cX8_distance 3 = .ok (.istore 4, 2) := by decide +kernel
theorem dX8_distance_5 : decode cX8_distance 5 = .ok (.iload 4, 2) := by decide +kernel
theorem dX8_distance_7 : decode cX8_distance 7 = .ok (.iconst 3, 1) := by decide +kernel
theorem dX8_distance_8 : decode cX8_distance 8 = .ok (.if_icmp .ge 48, 3) := by decide +kernel
theorem dX8_distance_11 : decode cX8_distance 11 = .ok (.iload_n 3, 1) := by decide +kernel
theorem dX8_distance_12 : decode cX8_distance 12 = .ok (.aload_n 0, 1) := by decide +kernel
theorem dX8_distance_13 : decode cX8_distance 13 = .ok (.getfield 25, 3) := by decide +kernel
theorem dX8_distance_16 : decode cX8_distance 16 = .ok (.bipush 8, 2) := by decide +kernel
theorem dX8_distance_18 : decode cX8_distance 18 = .ok (.iconst 3, 1) := by decide +kernel
theorem dX8_distance_19 : decode cX8_distance 19 = .ok (.iload_n 1, 1) := by decide +kernel
theorem dX8_distance_20 : decode cX8_distance 20 = .ok (.imul, 1) := by decide +kernel
theorem dX8_distance_21 : decode cX8_distance 21 = .ok (.iadd, 1) := by decide +kernel
theorem dX8_distance_22 : decode cX8_distance 22 = .ok (.iload 4, 2) := by decide +kernel
theorem dX8_distance_24 : decode cX8_distance 24 = .ok (.iadd, 1) := by decide +kernel
theorem dX8_distance_25 : decode cX8_distance 25 = .ok (.iaload, 1) := by decide +kernel
theorem dX8_distance_26 : decode cX8_distance 26 = .ok (.aload_n 0, 1) := by decide +kernel
theorem dX8_distance_27 : decode cX8_distance 27 = .ok (.getfield 25, 3) := by decide +kernel
theorem dX8_distance_30 : decode cX8_distance 30 = .ok (.bipush 8, 2) := by decide +kernel
theorem dX8_distance_32 : decode cX8_distance 32 = .ok (.iconst 3, 1) := by decide +kernel
theorem dX8_distance_33 : decode cX8_distance 33 = .ok (.iload_n 2, 1) := by decide +kernel
theorem dX8_distance_34 : decode cX8_distance 34 = .ok (.imul, 1) := by decide +kernel
theorem dX8_distance_35 : decode cX8_distance 35 = .ok (.iadd, 1) := by decide +kernel
theorem dX8_distance_36 : decode cX8_distance 36 = .ok (.iload 4, 2) := by decide +kernel
theorem dX8_distance_38 : decode cX8_distance 38 = .ok (.iadd, 1) := by decide +kernel
theorem dX8_distance_39 : decode cX8_distance 39 = .ok (.iaload, 1) := by decide +kernel
theorem dX8_distance_40 : decode cX8_distance 40 = .ok (.if_icmp .ne 7, 3) := by decide +kernel
theorem dX8_distance_43 : decode cX8_distance 43 = .ok (.iconst 0, 1) := by decide +kernel
theorem dX8_distance_44 : decode cX8_distance 44 = .ok (.goto 4, 3) := by decide +kernel
theorem dX8_distance_47 : decode cX8_distance 47 = .ok (.iconst 1, 1) := by decide +kernel
theorem dX8_distance_48 : decode cX8_distance 48 = .ok (.iadd, 1) := by decide +kernel
theorem dX8_distance_49 : decode cX8_distance 49 = .ok (.istore_n 3, 1) := by decide +kernel
theorem dX8_distance_50 : decode cX8_distance 50 = .ok (.iinc 4 1, 3) := by decide +kernel
theorem dX8_distance_53 : decode cX8_distance 53 = .ok (.goto (-48), 3) := by decide +kernel
theorem dX8_distance_56 : decode cX8_distance 56 = .ok (.iload_n 3, 1) := by decide +kernel
theorem dX8_distance_57 : decode cX8_distance 57 = .ok (.ireturn, 1) := by decide +kernel
theorem dX8_lips_0 : decode cX8_lips 0 = .ok (.iconst 0, 1) := by decide +kernel
theorem dX8_lips_1 : decode cX8_lips 1 = .ok (.istore_n 3, 1) := by decide +kernel
theorem dX8_lips_2 : decode cX8_lips 2 = .ok (.iconst 0, 1) := by decide +kernel
theorem dX8_lips_3 : decode cX8_lips 3 = .ok (.istore 4, 2) := by decide +kernel
theorem dX8_lips_5 : decode cX8_lips 5 = .ok (.iload 4, 2) := by decide +kernel
theorem dX8_lips_7 : decode cX8_lips 7 = .ok (.iconst 3, 1) := by decide +kernel
theorem dX8_lips_8 : decode cX8_lips 8 = .ok (.if_icmp .ge 52, 3) := by decide +kernel
theorem dX8_lips_11 : decode cX8_lips 11 = .ok (.iload_n 3, 1) := by decide +kernel
theorem dX8_lips_12 : decode cX8_lips 12 = .ok (.aload_n 0, 1) := by decide +kernel
theorem dX8_lips_13 : decode cX8_lips 13 = .ok (.getfield 25, 3) := by decide +kernel
theorem dX8_lips_16 : decode cX8_lips 16 = .ok (.bipush 8, 2) := by decide +kernel
theorem dX8_lips_18 : decode cX8_lips 18 = .ok (.iconst 3, 1) := by decide +kernel
theorem dX8_lips_19 : decode cX8_lips 19 = .ok (.iload_n 1, 1) := by decide +kernel
theorem dX8_lips_20 : decode cX8_lips 20 = .ok (.imul, 1) := by decide +kernel
theorem dX8_lips_21 : decode cX8_lips 21 = .ok (.iadd, 1) := by decide +kernel
theorem dX8_lips_22 : decode cX8_lips 22 = .ok (.iload 4, 2) := by decide +kernel
theorem dX8_lips_24 : decode cX8_lips 24 = .ok (.iadd, 1) := by decide +kernel
theorem dX8_lips_25 : decode cX8_lips 25 = .ok (.iaload, 1) := by decide +kernel
theorem dX8_lips_26 : decode cX8_lips 26 = .ok (.iconst 5, 1) := by decide +kernel
theorem dX8_lips_27 : decode cX8_lips 27 = .ok (.irem, 1) := by decide +kernel
theorem dX8_lips_28 : decode cX8_lips 28 = .ok (.aload_n 0, 1) := by decide +kernel
theorem dX8_lips_29 : decode cX8_lips 29 = .ok (.getfield 25, 3) := by decide +kernel
theorem dX8_lips_32 : decode cX8_lips 32 = .ok (.bipush 8, 2) := by decide +kernel
theorem dX8_lips_34 : decode cX8_lips 34 = .ok (.iconst 3, 1) := by decide +kernel
theorem dX8_lips_35 : decode cX8_lips 35 = .ok (.iload_n 2, 1) := by decide +kernel
theorem dX8_lips_36 : decode cX8_lips 36 = .ok (.imul, 1) := by decide +kernel
theorem dX8_lips_37 : decode cX8_lips 37 = .ok (.iadd, 1) := by decide +kernel
theorem dX8_lips_38 : decode cX8_lips 38 = .ok (.iload 4, 2) := by decide +kernel
theorem dX8_lips_40 : decode cX8_lips 40 = .ok (.iadd, 1) := by decide +kernel
theorem dX8_lips_41 : decode cX8_lips 41 = .ok (.iaload, 1) := by decide +kernel
theorem dX8_lips_42 : decode cX8_lips 42 = .ok (.iconst 5, 1) := by decide +kernel
theorem dX8_lips_43 : decode cX8_lips 43 = .ok (.irem, 1) := by decide +kernel
theorem dX8_lips_44 : decode cX8_lips 44 = .ok (.if_icmp .ne 7, 3) := by decide +kernel
theorem dX8_lips_47 : decode cX8_lips 47 = .ok (.iconst 1, 1) := by decide +kernel
theorem dX8_lips_48 : decode cX8_lips 48 = .ok (.goto 4, 3) := by decide +kernel
theorem dX8_lips_51 : decode cX8_lips 51 = .ok (.iconst 0, 1) := by decide +kernel
theorem dX8_lips_52 : decode cX8_lips 52 = .ok (.iadd, 1) := by decide +kernel
theorem dX8_lips_53 : decode cX8_lips 53 = .ok (.istore_n 3, 1) := by decide +kernel
theorem dX8_lips_54 : decode cX8_lips 54 = .ok (.iinc 4 1, 3) := by decide +kernel
theorem dX8_lips_57 : decode cX8_lips 57 = .ok (.goto (-52), 3) := by decide +kernel
theorem dX8_lips_60 : decode cX8_lips 60 = .ok (.iload_n 3, 1) := by decide +kernel
theorem dX8_lips_61 : decode cX8_lips 61 = .ok (.ireturn, 1) := by decide +kernel
set_option maxRecDepth 20000 in
theorem ggX8_takesBy_X8_distance : GoodIn wsX8_takesBy wsX8_distance := goodIn_r _ [5, 6, 11, 12, 13, 14, 15, 16, 17, 18, 19, 20, 21, 22, 23, 24, 25, 26, 27, 28, 29, 30, 31, 32, 33] (by decide +kernel) (by decide +kernel)
set_option maxRecDepth 20000 in
theorem gX8_takesBy_X8_distance : GoodIn wsX8_takesBy (wsV RX8 152 RX8 yX8_distance wsX8_distance) := goodIn_app (goodIn_of _ (by decide +kernel)) ggX8_takesBy_X8_distance
set_option maxRecDepth 20000 in
theorem ggX8_takesBy_X8_lips : GoodIn wsX8_takesBy wsX8_lips := goodIn_r _ [10, 6, 11, 12, 13, 14, 15, 16, 17, 18, 19, 20, 21, 22, 23, 24, 25, 26, 27, 28, 29, 30, 31, 32, 33] (by decide +kernel) (by decide +kernel)
set_option maxRecDepth 20000 in
theorem gX8_takesBy_X8_lips : GoodIn wsX8_takesBy (wsV RX8 155 RX8 yX8_lips wsX8_lips) := goodIn_app (goodIn_of _ (by decide +kernel)) ggX8_takesBy_X8_lips
theorem dX8_takesBy_0 : decode cX8_takesBy 0 = .ok (.iload_n 1, 1) := by decide +kernel
theorem dX8_takesBy_1 : decode cX8_takesBy 1 = .ok (.tableswitch 100 1 4 #[31, 46, 62, 84], 31) := by decide +kernel
theorem dX8_takesBy_32 : decode cX8_takesBy 32 = .ok (.aload_n 0, 1) := by decide +kernel
theorem dX8_takesBy_33 : decode cX8_takesBy 33 = .ok (.iload_n 2, 1) := by decide +kernel
theorem dX8_takesBy_34 : decode cX8_takesBy 34 = .ok (.iload_n 3, 1) := by decide +kernel
theorem dX8_takesBy_35 : decode cX8_takesBy 35 = .ok (.invokevirtual 152, 3) := by decide +kernel
theorem dX8_takesBy_38 : decode cX8_takesBy 38 = .ok (.ifCond .ne 7, 3) := by decide +kernel
theorem dX8_takesBy_41 : decode cX8_takesBy 41 = .ok (.iconst 1, 1) := by decide +kernel
theorem dX8_takesBy_42 : decode cX8_takesBy 42 = .ok (.goto 4, 3) := by decide +kernel
theorem dX8_takesBy_45 : decode cX8_takesBy 45 = .ok (.iconst 0, 1) := by decide +kernel
theorem dX8_takesBy_46 : decode cX8_takesBy 46 = .ok (.ireturn, 1) := by decide +kernel
theorem dX8_takesBy_47 : decode cX8_takesBy 47 = .ok (.aload_n 0, 1) := by decide +kernel
theorem dX8_takesBy_48 : decode cX8_takesBy 48 = .ok (.iload_n 2, 1) := by decide +kernel
theorem dX8_takesBy_49 : decode cX8_takesBy 49 = .ok (.iload_n 3, 1) := by decide +kernel
theorem dX8_takesBy_50 : decode cX8_takesBy 50 = .ok (.invokevirtual 152, 3) := by decide +kernel
theorem dX8_takesBy_53 : decode cX8_takesBy 53 = .ok (.iconst 2, 1) := by decide +kernel
theorem dX8_takesBy_54 : decode cX8_takesBy 54 = .ok (.if_icmp .ge 7, 3) := by decide +kernel
theorem dX8_takesBy_57 : decode cX8_takesBy 57 = .ok (.iconst 1, 1) := by decide +kernel
theorem dX8_takesBy_58 : decode cX8_takesBy 58 = .ok (.goto 4, 3) := by decide +kernel
theorem dX8_takesBy_61 : decode cX8_takesBy 61 = .ok (.iconst 0, 1) := by decide +kernel
theorem dX8_takesBy_62 : decode cX8_takesBy 62 = .ok (.ireturn, 1) := by decide +kernel
theorem dX8_takesBy_63 : decode cX8_takesBy 63 = .ok (.aload_n 0, 1) := by decide +kernel
theorem dX8_takesBy_64 : decode cX8_takesBy 64 = .ok (.iload_n 2, 1) := by decide +kernel
theorem dX8_takesBy_65 : decode cX8_takesBy 65 = .ok (.iload_n 3, 1) := by decide +kernel
theorem dX8_takesBy_66 : decode cX8_takesBy 66 = .ok (.invokevirtual 152, 3) := by decide +kernel
theorem dX8_takesBy_69 : decode cX8_takesBy 69 = .ok (.ifCond .ne 14, 3) := by decide +kernel
theorem dX8_takesBy_72 : decode cX8_takesBy 72 = .ok (.iload 4, 2) := by decide +kernel
theorem dX8_takesBy_74 : decode cX8_takesBy 74 = .ok (.iconst 2, 1) := by decide +kernel
theorem dX8_takesBy_75 : decode cX8_takesBy 75 = .ok (.irem, 1) := by decide +kernel
theorem dX8_takesBy_76 : decode cX8_takesBy 76 = .ok (.ifCond .ne 7, 3) := by decide +kernel
theorem dX8_takesBy_79 : decode cX8_takesBy 79 = .ok (.iconst 1, 1) := by decide +kernel
theorem dX8_takesBy_80 : decode cX8_takesBy 80 = .ok (.goto 4, 3) := by decide +kernel
theorem dX8_takesBy_83 : decode cX8_takesBy 83 = .ok (.iconst 0, 1) := by decide +kernel
theorem dX8_takesBy_84 : decode cX8_takesBy 84 = .ok (.ireturn, 1) := by decide +kernel
theorem dX8_takesBy_85 : decode cX8_takesBy 85 = .ok (.aload_n 0, 1) := by decide +kernel
theorem dX8_takesBy_86 : decode cX8_takesBy 86 = .ok (.iload_n 2, 1) := by decide +kernel
theorem dX8_takesBy_87 : decode cX8_takesBy 87 = .ok (.iload_n 3, 1) := by decide +kernel
theorem dX8_takesBy_88 : decode cX8_takesBy 88 = .ok (.invokevirtual 155, 3) := by decide +kernel
theorem dX8_takesBy_91 : decode cX8_takesBy 91 = .ok (.iconst 3, 1) := by decide +kernel
theorem dX8_takesBy_92 : decode cX8_takesBy 92 = .ok (.if_icmp .ne 7, 3) := by decide +kernel
theorem dX8_takesBy_95 : decode cX8_takesBy 95 = .ok (.iconst 1, 1) := by decide +kernel
theorem dX8_takesBy_96 : decode cX8_takesBy 96 = .ok (.goto 4, 3) := by decide +kernel
theorem dX8_takesBy_99 : decode cX8_takesBy 99 = .ok (.iconst 0, 1) := by decide +kernel
theorem dX8_takesBy_100 : decode cX8_takesBy 100 = .ok (.ireturn, 1) := by decide +kernel
theorem dX8_takesBy_101 : decode cX8_takesBy 101 = .ok (.aload_n 0, 1) := by decide +kernel
theorem dX8_takesBy_102 : decode cX8_takesBy 102 = .ok (.iload_n 2, 1) := by decide +kernel
theorem dX8_takesBy_103 : decode cX8_takesBy 103 = .ok (.iload_n 3, 1) := by decide +kernel
theorem dX8_takesBy_104 : decode cX8_takesBy 104 = .ok (.invokevirtual 155, 3) := by decide +kernel
theorem dX8_takesBy_107 : decode cX8_takesBy 107 = .ok (.iconst 1, 1) := by decide +kernel
theorem dX8_takesBy_108 : decode cX8_takesBy 108 = .ok (.if_icmp .le 7, 3) := by decide +kernel
theorem dX8_takesBy_111 : decode cX8_takesBy 111 = .ok (.iconst 1, 1) := by decide +kernel
theorem dX8_takesBy_112 : decode cX8_takesBy 112 = .ok (.goto 4, 3) := by decide +kernel
theorem dX8_takesBy_115 : decode cX8_takesBy 115 = .ok (.iconst 0, 1) := by decide +kernel
theorem dX8_takesBy_116 : decode cX8_takesBy 116 = .ok (.ireturn, 1) := by decide +kernel
theorem dX8_guardOn_0 : decode cX8_guardOn 0 = .ok (.iload_n 2, 1) := by decide +kernel
theorem dX8_guardOn_1 : decode cX8_guardOn 1 = .ok (.iload_n 1, 1) := by decide +kernel
theorem dX8_guardOn_2 : decode cX8_guardOn 2 = .ok (.iadd, 1) := by decide +kernel
theorem dX8_guardOn_3 : decode cX8_guardOn 3 = .ok (.aload_n 0, 1) := by decide +kernel
theorem dX8_guardOn_4 : decode cX8_guardOn 4 = .ok (.getfield 25, 3) := by decide +kernel
theorem dX8_guardOn_7 : decode cX8_guardOn 7 = .ok (.iconst 4, 1) := by decide +kernel
theorem dX8_guardOn_8 : decode cX8_guardOn 8 = .ok (.iaload, 1) := by decide +kernel
theorem dX8_guardOn_9 : decode cX8_guardOn 9 = .ok (.irem, 1) := by decide +kernel
theorem dX8_guardOn_10 : decode cX8_guardOn 10 = .ok (.ireturn, 1) := by decide +kernel
theorem dX8_kindIn_0 : decode cX8_kindIn 0 = .ok (.aload_n 0, 1) := by decide +kernel
theorem dX8_kindIn_1 : decode cX8_kindIn 1 = .ok (.getfield 25, 3) := by decide +kernel
theorem dX8_kindIn_4 : decode cX8_kindIn 4 = .ok (.bipush 26, 2) := by decide +kernel
theorem dX8_kindIn_6 : decode cX8_kindIn 6 = .ok (.iconst 3, 1) := by decide +kernel
theorem dX8_kindIn_7 : decode cX8_kindIn 7 = .ok (.iload_n 1, 1) := by decide +kernel
theorem dX8_kindIn_8 : decode cX8_kindIn 8 = .ok (.imul, 1) := by decide +kernel
theorem dX8_kindIn_9 : decode cX8_kindIn 9 = .ok (.iadd, 1) := by decide +kernel
theorem dX8_kindIn_10 : decode cX8_kindIn 10 = .ok (.iaload, 1) := by decide +kernel
theorem dX8_kindIn_11 : decode cX8_kindIn 11 = .ok (.ireturn, 1) := by decide +kernel
set_option maxRecDepth 20000 in
theorem ggX8_isTaken_X8_guardOn : GoodIn wsX8_isTaken wsX8_guardOn := goodIn_r _ [5, 6, 26, 27, 28, 29, 30, 31, 32, 33, 34, 35, 36, 37, 38, 39, 40, 41, 42, 43, 44, 45, 46, 47, 48] (by decide +kernel) (by decide +kernel)
set_option maxRecDepth 20000 in
theorem gX8_isTaken_X8_guardOn : GoodIn wsX8_isTaken (wsV RX8 158 RX8 yX8_guardOn wsX8_guardOn) := goodIn_app (goodIn_of _ (by decide +kernel)) ggX8_isTaken_X8_guardOn
set_option maxRecDepth 20000 in
theorem ggX8_isTaken_X8_has : GoodIn wsX8_isTaken wsX8_has := goodIn_r _ [9] (by decide +kernel) (by decide +kernel)
set_option maxRecDepth 20000 in
theorem gX8_isTaken_X8_has : GoodIn wsX8_isTaken (va_wsS RX8 161 yX8_has wsX8_has) := goodIn_app (goodIn_of _ (by decide +kernel)) ggX8_isTaken_X8_has
set_option maxRecDepth 20000 in
theorem ggX8_isTaken_X8_kindIn : GoodIn wsX8_isTaken wsX8_kindIn := goodIn_r _ [13, 6, 26, 27, 28, 29, 30, 31, 32, 33, 34, 35, 36, 37, 38, 39, 40, 41, 42, 43, 44, 45, 46, 47, 48] (by decide +kernel) (by decide +kernel)
set_option maxRecDepth 20000 in
theorem gX8_isTaken_X8_kindIn : GoodIn wsX8_isTaken (wsV RX8 165 RX8 yX8_kindIn wsX8_kindIn) := goodIn_app (goodIn_of _ (by decide +kernel)) ggX8_isTaken_X8_kindIn
set_option maxRecDepth 20000 in
theorem ggX8_isTaken_X8_takesBy : GoodIn wsX8_isTaken wsX8_takesBy := goodIn_r _ [17, 18, 19, 20, 4, 21, 6, 22, 23, 24, 25, 26, 27, 28, 29, 30, 31, 32, 33, 34, 35, 36, 37, 38, 39, 40, 41, 42, 43, 44, 45, 46, 47, 48] (by decide +kernel) (by decide +kernel)
set_option maxRecDepth 20000 in
theorem gX8_isTaken_X8_takesBy : GoodIn wsX8_isTaken (wsV RX8 168 RX8 yX8_takesBy wsX8_takesBy) := goodIn_app (goodIn_of _ (by decide +kernel)) ggX8_isTaken_X8_takesBy
theorem dX8_isTaken_0 : decode cX8_isTaken 0 = .ok (.aload_n 0, 1) := by decide +kernel
theorem dX8_isTaken_1 : decode cX8_isTaken 1 = .ok (.iload_n 2, 1) := by decide +kernel
theorem dX8_isTaken_2 : decode cX8_isTaken 2 = .ok (.iload_n 3, 1) := by decide +kernel
theorem dX8_isTaken_3 : decode cX8_isTaken 3 = .ok (.invokevirtual 158, 3) := by decide +kernel
theorem dX8_isTaken_6 : decode cX8_isTaken 6 = .ok (.istore 6, 2) := by decide +kernel
theorem dX8_isTaken_8 : decode cX8_isTaken 8 = .ok (.iload 4, 2) := by decide +kernel
theorem dX8_isTaken_10 : decode cX8_isTaken 10 = .ok (.iload 6, 2) := by decide +kernel
theorem dX8_isTaken_12 : decode cX8_isTaken 12 = .ok (.invokestatic 161, 3) := by decide +kernel
theorem dX8_isTaken_15 : decode cX8_isTaken 15 = .ok (.ifCond .eq 24, 3) := by decide +kernel
theorem dX8_isTaken_18 : decode cX8_isTaken 18 = .ok (.aload_n 0, 1) := by decide +kernel
theorem dX8_isTaken_19 : decode cX8_isTaken 19 = .ok (.aload_n 0, 1) := by decide +kernel
theorem dX8_isTaken_20 : decode cX8_isTaken 20 = .ok (.iload 6, 2) := by decide +kernel
theorem dX8_isTaken_22 : decode cX8_isTaken 22 = .ok (.invokevirtual 165, 3) := by decide +kernel
theorem dX8_isTaken_25 : decode cX8_isTaken 25 = .ok (.iload_n 1, 1) := by decide +kernel
theorem dX8_isTaken_26 : decode cX8_isTaken 26 = .ok (.iload 5, 2) := by decide +kernel
theorem dX8_isTaken_28 : decode cX8_isTaken 28 = .ok (.iload_n 3, 1) := by decide +kernel
theorem dX8_isTaken_29 : decode cX8_isTaken 29 = .ok (.invokevirtual 168, 3) := by decide +kernel
