theorem dX6_readWord_131 : decode cX6_readWord 131 = .ok (.getfield 18, 3) := tb_d tk_X6_readWord_2 32 (131, .getfield 18, 3) rfl
theorem dX6_readWord_134 : decode cX6_readWord 134 = .ok (.dup, 1) := tb_d tk_X6_readWord_2 33 (134, .dup, 1) rfl
theorem dX6_readWord_135 : decode cX6_readWord 135 = .ok (.getfield 29, 3) := tb_d tk_X6_readWord_2 34 (135, .getfield 29, 3) rfl
theorem dX6_readWord_138 : decode cX6_readWord 138 = .ok (.iconst 1, 1) := tb_d tk_X6_readWord_2 35 (138, .iconst 1, 1) rfl
theorem dX6_readWord_139 : decode cX6_readWord 139 = .ok (.iadd, 1) := tb_d tk_X6_readWord_2 36 (139, .iadd, 1) rfl
theorem dX6_readWord_140 : decode cX6_readWord 140 = .ok (.putfield 29, 3) := tb_d tk_X6_readWord_2 37 (140, .putfield 29, 3) rfl
theorem dX6_readWord_143 : decode cX6_readWord 143 = .ok (.aload_n 0, 1) := tb_d tk_X6_readWord_2 38 (143, .aload_n 0, 1) rfl
theorem dX6_readWord_144 : decode cX6_readWord 144 = .ok (.bipush 59, 2) := tb_d tk_X6_readWord_2 39 (144, .bipush 59, 2) rfl
def tb_X6_readWord_3 : List (Nat × Instr × Nat) := [(146, .invokevirtual 59, 3), (149, .ireturn, 1)]
set_option maxRecDepth 100000 in
theorem tk_X6_readWord_3 : (tb_X6_readWord_3.all fun q => decide (decode cX6_readWord q.1 = .ok q.2)) = true := by decide +kernel
theorem dX6_readWord_146 : decode cX6_readWord 146 = .ok (.invokevirtual 59, 3) := tb_d tk_X6_readWord_3 0 (146, .invokevirtual 59, 3) rfl
theorem dX6_readWord_149 : decode cX6_readWord 149 = .ok (.ireturn, 1) := tb_d tk_X6_readWord_3 1 (149, .ireturn, 1) rfl
set_option maxRecDepth 20000 in
theorem ggX6_wasTold_X2_distance : GoodIn wsX6_wasTold wsX2_distance := goodIn_r _ [6, 7, 15, 16, 17, 18, 19, 20, 21, 22] (by decide +kernel) (by decide +kernel)
set_option maxRecDepth 20000 in
theorem gX6_wasTold_X2_distance : GoodIn wsX6_wasTold (wsV RX6 87 RX2 yX2_distance wsX2_distance) := goodIn_app (goodIn_of _ (by decide +kernel)) ggX6_wasTold_X2_distance
def tb_X6_wasTold_1 : List (Nat × Instr × Nat) := [(0, .iconst 0, 1), (1, .istore_n 2, 1), (2, .iload_n 2, 1), (3, .iload_n 1, 1), (4, .if_icmp .ge 23, 3), (7, .aload_n 0, 1), (8, .getfield 18, 3), (11, .iload_n 1, 1), (12, .iload_n 2, 1), (13, .invokevirtual 87, 3), (16, .ifCond .ne 5, 3), (19, .iconst 1, 1), (20, .ireturn, 1), (21, .iinc 2 1, 3), (24, .goto (-22), 3), (27, .iconst 0, 1), (28, .ireturn, 1)]
set_option maxRecDepth 100000 in
theorem tk_X6_wasTold_1 : (tb_X6_wasTold_1.all fun q => decide (decode cX6_wasTold q.1 = .ok q.2)) = true := by decide +kernel
theorem dX6_wasTold_0 : decode cX6_wasTold 0 = .ok (.iconst 0, 1) := tb_d tk_X6_wasTold_1 0 (0, .iconst 0, 1) rfl
theorem dX6_wasTold_1 : decode cX6_wasTold 1 = .ok (.istore_n 2, 1) := tb_d tk_X6_wasTold_1 1 (1, .istore_n 2, 1) rfl
theorem dX6_wasTold_2 : decode cX6_wasTold 2 = .ok (.iload_n 2, 1) := tb_d tk_X6_wasTold_1 2 (2, .iload_n 2, 1) rfl
theorem dX6_wasTold_3 : decode cX6_wasTold 3 = .ok (.iload_n 1, 1) := tb_d tk_X6_wasTold_1 3 (3, .iload_n 1, 1) rfl
theorem dX6_wasTold_4 : decode cX6_wasTold 4 = .ok (.if_icmp .ge 23, 3) := tb_d tk_X6_wasTold_1 4 (4, .if_icmp .ge 23, 3) rfl
theorem dX6_wasTold_7 : decode cX6_wasTold 7 = .ok (.aload_n 0, 1) := tb_d tk_X6_wasTold_1 5 (7, .aload_n 0, 1) rfl
theorem dX6_wasTold_8 : decode cX6_wasTold 8 = .ok (.getfield 18, 3) := tb_d tk_X6_wasTold_1 6 (8, .getfield 18, 3) rfl
theorem dX6_wasTold_11 : decode cX6_wasTold 11 = .ok (.iload_n 1, 1) := tb_d tk_X6_wasTold_1 7 (11, .iload_n 1, 1) rfl
theorem dX6_wasTold_12 : decode cX6_wasTold 12 = .ok (.iload_n 2, 1) := tb_d tk_X6_wasTold_1 8 (12, .iload_n 2, 1) rfl
theorem dX6_wasTold_13 : decode cX6_wasTold 13 = .ok (.invokevirtual 87, 3) := tb_d tk_X6_wasTold_1 9 (13, .invokevirtual 87, 3) rfl
theorem dX6_wasTold_16 : decode cX6_wasTold 16 = .ok (.ifCond .ne 5, 3) := tb_d tk_X6_wasTold_1 10 (16, .ifCond .ne 5, 3) rfl
theorem dX6_wasTold_19 : decode cX6_wasTold 19 = .ok (.iconst 1, 1) := tb_d tk_X6_wasTold_1 11 (19, .iconst 1, 1) rfl
theorem dX6_wasTold_20 : decode cX6_wasTold 20 = .ok (.ireturn, 1) := tb_d tk_X6_wasTold_1 12 (20, .ireturn, 1) rfl
theorem dX6_wasTold_21 : decode cX6_wasTold 21 = .ok (.iinc 2 1, 3) := tb_d tk_X6_wasTold_1 13 (21, .iinc 2 1, 3) rfl
theorem dX6_wasTold_24 : decode cX6_wasTold 24 = .ok (.goto (-22), 3) := tb_d tk_X6_wasTold_1 14 (24, .goto (-22), 3) rfl
theorem dX6_wasTold_27 : decode cX6_wasTold 27 = .ok (.iconst 0, 1) := tb_d tk_X6_wasTold_1 15 (27, .iconst 0, 1) rfl
theorem dX6_wasTold_28 : decode cX6_wasTold 28 = .ok (.ireturn, 1) := tb_d tk_X6_wasTold_1 16 (28, .ireturn, 1) rfl
set_option maxRecDepth 20000 in
theorem ggX6_readGuard_X6_here : GoodIn wsX6_readGuard wsX6_here := goodIn_r _ [12, 4, 13, 14, 35, 36, 37, 38, 39, 40, 41] (by decide +kernel) (by decide +kernel)
set_option maxRecDepth 20000 in
theorem gX6_readGuard_X6_here : GoodIn wsX6_readGuard (wsV RX6 42 RX6 yX6_here wsX6_here) := goodIn_app (goodIn_of _ (by decide +kernel)) ggX6_readGuard_X6_here
set_option maxRecDepth 20000 in
theorem ggX6_readGuard_X6_kindOf : GoodIn wsX6_readGuard wsX6_kindOf := goodIn_r _ [17, 1] (by decide +kernel) (by decide +kernel)
set_option maxRecDepth 20000 in
theorem gX6_readGuard_X6_kindOf : GoodIn wsX6_readGuard (va_wsS RX6 91 yX6_kindOf wsX6_kindOf) := goodIn_app (goodIn_of _ (by decide +kernel)) ggX6_readGuard_X6_kindOf
set_option maxRecDepth 20000 in
theorem ggX6_readGuard_X6_faulty : GoodIn wsX6_readGuard wsX6_faulty := goodIn_r _ [21, 22, 4, 23, 35, 36, 37, 38, 39, 40, 41] (by decide +kernel) (by decide +kernel)
set_option maxRecDepth 20000 in
theorem gX6_readGuard_X6_faulty : GoodIn wsX6_readGuard (wsV RX6 78 RX6 yX6_faulty wsX6_faulty) := goodIn_app (goodIn_of _ (by decide +kernel)) ggX6_readGuard_X6_faulty
set_option maxRecDepth 20000 in
theorem ggX6_readGuard_X6_readNumber : GoodIn wsX6_readGuard wsX6_readNumber := goodIn_r _ [27, 7, 4, 13, 14, 28, 29, 11, 30, 18, 19, 20, 21, 22, 23, 35, 36, 37, 38, 39, 40, 41] (by decide +kernel) (by decide +kernel)
set_option maxRecDepth 20000 in
theorem gX6_readGuard_X6_readNumber : GoodIn wsX6_readGuard (wsV RX6 63 RX6 yX6_readNumber wsX6_readNumber) := goodIn_app (goodIn_of _ (by decide +kernel)) ggX6_readGuard_X6_readNumber
set_option maxRecDepth 20000 in
theorem ggX6_readGuard_X6_readSign : GoodIn wsX6_readGuard wsX6_readSign := goodIn_r _ [34, 4, 8, 9, 10, 11, 12, 13, 14, 18, 19, 20, 21, 22, 23, 35, 36, 37, 38, 39, 40, 41] (by decide +kernel) (by decide +kernel)
set_option maxRecDepth 20000 in
theorem gX6_readGuard_X6_readSign : GoodIn wsX6_readGuard (wsV RX6 59 RX6 yX6_readSign wsX6_readSign) := goodIn_app (goodIn_of _ (by decide +kernel)) ggX6_readGuard_X6_readSign
def tb_X6_readGuard_1 : List (Nat × Instr × Nat) := [(0, .aload_n 0, 1), (1, .invokevirtual 42, 3), (4, .invokestatic 91, 3), (7, .istore_n 1, 1), (8, .iload_n 1, 1), (9, .ldc 95, 2), (11, .if_icmp .ne 9, 3), (14, .aload_n 0, 1), (15, .iconst 1, 1), (16, .invokevirtual 78, 3), (19, .ireturn, 1), (20, .aload_n 0, 1), (21, .getfield 18, 3), (24, .getfield 32, 3), (27, .iconst 4, 1), (28, .if_icmp .lt 9, 3), (31, .aload_n 0, 1), (32, .iconst 3, 1), (33, .invokevirtual 78, 3), (36, .ireturn, 1), (37, .aload_n 0, 1), (38, .dup, 1), (39, .getfield 26, 3), (42, .iconst 1, 1), (43, .iadd, 1), (44, .putfield 26, 3), (47, .aload_n 0, 1), (48, .bipush 9, 2), (50, .invokevirtual 63, 3), (53, .ifCond .ne 5, 3), (56, .iconst 0, 1), (57, .ireturn, 1), (58, .aload_n 0, 1), (59, .getfield 18, 3), (62, .getfield 96, 3), (65, .aload_n 0, 1), (66, .getfield 18, 3), (69, .getfield 32, 3), (72, .iload_n 1, 1), (73, .iastore, 1)]
set_option maxRecDepth 100000 in
theorem tk_X6_readGuard_1 : (tb_X6_readGuard_1.all fun q => decide (decode cX6_readGuard q.1 = .ok q.2)) = true := by decide +kernel
theorem dX6_readGuard_0 : decode cX6_readGuard 0 = .ok (.aload_n 0, 1) := tb_d tk_X6_readGuard_1 0 (0, .aload_n 0, 1) rfl
theorem dX6_readGuard_1 : decode cX6_readGuard 1 = .ok (.invokevirtual 42, 3) := tb_d tk_X6_readGuard_1 1 (1, .invokevirtual 42, 3) rfl
theorem dX6_readGuard_4 : decode cX6_readGuard 4 = .ok (.invokestatic 91, 3) := tb_d tk_X6_readGuard_1 2 (4, .invokestatic 91, 3) rfl
theorem dX6_readGuard_7 : decode cX6_readGuard 7 = .ok (.istore_n 1, 1) := tb_d tk_X6_readGuard_1 3 (7, .istore_n 1, 1) rfl
theorem dX6_readGuard_8 : decode cX6_readGuard 8 = .ok (.iload_n 1, 1) := tb_d tk_X6_readGuard_1 4 (8, .iload_n 1, 1) rfl
theorem dX6_readGuard_9 : decode cX6_readGuard 9 = .ok (.ldc 95, 2) := tb_d tk_X6_readGuard_1 5 (9, .ldc 95, 2) rfl
theorem dX6_readGuard_11 : decode cX6_readGuard 11 = .ok (.if_icmp .ne 9, 3) := tb_d tk_X6_readGuard_1 6 (11, .if_icmp .ne 9, 3) rfl
theorem dX6_readGuard_14 : decode cX6_readGuard 14 = .ok (.aload_n 0, 1) := tb_d tk_X6_readGuard_1 7 (14, .aload_n 0, 1) rfl
theorem dX6_readGuard_15 : decode cX6_readGuard 15 = .ok (.iconst 1, 1) := tb_d tk_X6_readGuard_1 8 (15, .iconst 1, 1) rfl
theorem dX6_readGuard_16 : decode cX6_readGuard 16 = .ok (.invokevirtual 78, 3) := tb_d tk_X6_readGuard_1 9 (16, .invokevirtual 78, 3) rfl
theorem dX6_readGuard_19 : decode cX6_readGuard 19 = .ok (.ireturn, 1) := tb_d tk_X6_readGuard_1 10 (19, .ireturn, 1) rfl
theorem dX6_readGuard_20 : decode cX6_readGuard 20 = .ok (.aload_n 0, 1) := tb_d tk_X6_readGuard_1 11 (20, .aload_n 0, 1) rfl
theorem dX6_readGuard_21 : decode cX6_readGuard 21 = .ok (.getfield 18, 3) := tb_d tk_X6_readGuard_1 12 (21, .getfield 18, 3) rfl
theorem dX6_readGuard_24 : decode cX6_readGuard 24 = .ok (.getfield 32, 3) := tb_d tk_X6_readGuard_1 13 (24, .getfield 32, 3) rfl
theorem dX6_readGuard_27 : decode cX6_readGuard 27 = .ok (.iconst 4, 1) := tb_d tk_X6_readGuard_1 14 (27, .iconst 4, 1) rfl
theorem dX6_readGuard_28 : decode cX6_readGuard 28 = .ok (.if_icmp .lt 9, 3) := tb_d tk_X6_readGuard_1 15 (28, .if_icmp .lt 9, 3) rfl
theorem dX6_readGuard_31 : decode cX6_readGuard 31 = .ok (.aload_n 0, 1) := tb_d tk_X6_readGuard_1 16 (31, .aload_n 0, 1) rfl
theorem dX6_readGuard_32 : decode cX6_readGuard 32 = .ok (.iconst 3, 1) := tb_d tk_X6_readGuard_1 17 (32, .iconst 3, 1) rfl
theorem dX6_readGuard_33 : decode cX6_readGuard 33 = .ok (.invokevirtual 78, 3) := tb_d tk_X6_readGuard_1 18 (33, .invokevirtual 78, 3) rfl
theorem dX6_readGuard_36 : decode cX6_readGuard 36 = .ok (.ireturn, 1) := tb_d tk_X6_readGuard_1 19 (36, .ireturn, 1) rfl
theorem dX6_readGuard_37 : decode cX6_readGuard 37 = .ok (.aload_n 0, 1) := tb_d tk_X6_readGuard_1 20 (37, .aload_n 0, 1) rfl
theorem dX6_readGuard_38 : decode cX6_readGuard 38 = .ok (.dup, 1) := tb_d tk_X6_readGuard_1 21 (38, .dup, 1) rfl
theorem dX6_readGuard_39 : decode cX6_readGuard 39 = .ok (.getfield 26, 3) := tb_d tk_X6_readGuard_1 22 (39, .getfield 26, 3) rfl
theorem dX6_readGuard_42 : decode cX6_readGuard 42 = .ok (.iconst 1, 1) := tb_d tk_X6_readGuard_1 23 (42, .iconst 1, 1) rfl
theorem dX6_readGuard_43 : decode cX6_readGuard 43 = .ok (.iadd, 1) := tb_d tk_X6_readGuard_1 24 (43, .iadd, 1) rfl
theorem dX6_readGuard_44 : decode cX6_readGuard 44 = .ok (.putfield 26, 3) := tb_d tk_X6_readGuard_1 25 (44, .putfield 26, 3) rfl
theorem dX6_readGuard_47 : decode cX6_readGuard 47 = .ok (.aload_n 0, 1) := tb_d tk_X6_readGuard_1 26 (47, .aload_n 0, 1) rfl
theorem dX6_readGuard_48 : decode cX6_readGuard 48 = .ok (.bipush 9, 2) := tb_d tk_X6_readGuard_1 27 (48, .bipush 9, 2) rfl
theorem dX6_readGuard_50 : decode cX6_readGuard 50 = .ok (.invokevirtual 63, 3) := tb_d tk_X6_readGuard_1 28 (50, .invokevirtual 63, 3) rfl
theorem dX6_readGuard_53 : decode cX6_readGuard 53 = .ok (.ifCond .ne 5, 3) := tb_d tk_X6_readGuard_1 29 (53, .ifCond .ne 5, 3) rfl
theorem dX6_readGuard_56 : decode cX6_readGuard 56 = .ok (.iconst 0, 1) := tb_d tk_X6_readGuard_1 30 (56, .iconst 0, 1) rfl
theorem dX6_readGuard_57 : decode cX6_readGuard 57 = .ok (.ireturn, 1) := tb_d tk_X6_readGuard_1 31 (57, .ireturn, 1) rfl
theorem dX6_readGuard_58 : decode cX6_readGuard 58 = .ok (.aload_n 0, 1) := tb_d tk_X6_readGuard_1 32 (58, .aload_n 0, 1) rfl
theorem dX6_readGuard_59 : decode cX6_readGuard 59 = .ok (.getfield 18, 3) := tb_d tk_X6_readGuard_1 33 (59, .getfield 18, 3) rfl
theorem dX6_readGuard_62 : decode cX6_readGuard 62 = .ok (.getfield 96, 3) := tb_d tk_X6_readGuard_1 34 (62, .getfield 96, 3) rfl
theorem dX6_readGuard_65 : decode cX6_readGuard 65 = .ok (.aload_n 0, 1) := tb_d tk_X6_readGuard_1 35 (65, .aload_n 0, 1) rfl
theorem dX6_readGuard_66 : decode cX6_readGuard 66 = .ok (.getfield 18, 3) := tb_d tk_X6_readGuard_1 36 (66, .getfield 18, 3) rfl
theorem dX6_readGuard_69 : decode cX6_readGuard 69 = .ok (.getfield 32, 3) := tb_d tk_X6_readGuard_1 37 (69, .getfield 32, 3) rfl
theorem dX6_readGuard_72 : decode cX6_readGuard 72 = .ok (.iload_n 1, 1) := tb_d tk_X6_readGuard_1 38 (72, .iload_n 1, 1) rfl
theorem dX6_readGuard_73 : decode cX6_readGuard 73 = .ok (.iastore, 1) := tb_d tk_X6_readGuard_1 39 (73, .iastore, 1) rfl
def tb_X6_readGuard_2 : List (Nat × Instr × Nat) := [(74, .aload_n 0, 1), (75, .getfield 18, 3), (78, .getfield 99, 3), (81, .aload_n 0, 1), (82, .getfield 18, 3), (85, .getfield 32, 3), (88, .aload_n 0, 1), (89, .getfield 66, 3), (92, .iastore, 1), (93, .aload_n 0, 1), (94, .getfield 18, 3), (97, .dup, 1), (98, .getfield 32, 3), (101, .iconst 1, 1), (102, .iadd, 1), (103, .putfield 32, 3), (106, .aload_n 0, 1), (107, .bipush 59, 2), (109, .invokevirtual 59, 3), (112, .ireturn, 1)]
set_option maxRecDepth 100000 in
theorem tk_X6_readGuard_2 : (tb_X6_readGuard_2.all fun q => decide (decode cX6_readGuard q.1 = .ok q.2)) = true := by decide +kernel
theorem dX6_readGuard_74 : decode cX6_readGuard 74 = .ok (.aload_n 0, 1) := tb_d tk_X6_readGuard_2 0 (74, .aload_n 0, 1) rfl
theorem dX6_readGuard_75 : decode cX6_readGuard 75 = .ok (.getfield 18, 3) := tb_d tk_X6_readGuard_2 1 (75, .getfield 18, 3) rfl
theorem dX6_readGuard_78 : decode cX6_readGuard 78 = .ok (.getfield 99, 3) := tb_d tk_X6_readGuard_2 2 (78, .getfield 99, 3) rfl
theorem dX6_readGuard_81 : decode cX6_readGuard 81 = .ok (.aload_n 0, 1) := tb_d tk_X6_readGuard_2 3 (81, .aload_n 0, 1) rfl
theorem dX6_readGuard_82 : decode cX6_readGuard 82 = .ok (.getfield 18, 3) := tb_d tk_X6_readGuard_2 4 (82, .getfield 18, 3) rfl
theorem dX6_readGuard_85 : decode cX6_readGuard 85 = .ok (.getfield 32, 3) := tb_d tk_X6_readGuard_2 5 (85, .getfield 32, 3) rfl
theorem dX6_readGuard_88 : decode cX6_readGuard 88 = .ok (.aload_n 0, 1) := tb_d tk_X6_readGuard_2 6 (88, .aload_n 0, 1) rfl
theorem dX6_readGuard_89 : decode cX6_readGuard 89 = .ok (.getfield 66, 3) := tb_d tk_X6_readGuard_2 7 (89, .getfield 66, 3) rfl
theorem dX6_readGuard_92 : decode cX6_readGuard 92 = .ok (.iastore, 1) := tb_d tk_X6_readGuard_2 8 (92, .iastore, 1) rfl
theorem dX6_readGuard_93 : decode cX6_readGuard 93 = .ok (.aload_n 0, 1) := tb_d tk_X6_readGuard_2 9 (93, .aload_n 0, 1) rfl
theorem dX6_readGuard_94 : decode cX6_readGuard 94 = .ok (.getfield 18, 3) := tb_d tk_X6_readGuard_2 10 (94, .getfield 18, 3) rfl
theorem dX6_readGuard_97 : decode cX6_readGuard 97 = .ok (.dup, 1) := tb_d tk_X6_readGuard_2 11 (97, .dup, 1) rfl
theorem dX6_readGuard_98 : decode cX6_readGuard 98 = .ok (.getfield 32, 3) := tb_d tk_X6_readGuard_2 12 (98, .getfield 32, 3) rfl
theorem dX6_readGuard_101 : decode cX6_readGuard 101 = .ok (.iconst 1, 1) := tb_d tk_X6_readGuard_2 13 (101, .iconst 1, 1) rfl
theorem dX6_readGuard_102 : decode cX6_readGuard 102 = .ok (.iadd, 1) := tb_d tk_X6_readGuard_2 14 (102, .iadd, 1) rfl
theorem dX6_readGuard_103 : decode cX6_readGuard 103 = .ok (.putfield 32, 3) := tb_d tk_X6_readGuard_2 15 (103, .putfield 32, 3) rfl
theorem dX6_readGuard_106 : decode cX6_readGuard 106 = .ok (.aload_n 0, 1) := tb_d tk_X6_readGuard_2 16 (106, .aload_n 0, 1) rfl
theorem dX6_readGuard_107 : decode cX6_readGuard 107 = .ok (.bipush 59, 2) := tb_d tk_X6_readGuard_2 17 (107, .bipush 59, 2) rfl
theorem dX6_readGuard_109 : decode cX6_readGuard 109 = .ok (.invokevirtual 59, 3) := tb_d tk_X6_readGuard_2 18 (109, .invokevirtual 59, 3) rfl
theorem dX6_readGuard_112 : decode cX6_readGuard 112 = .ok (.ireturn, 1) := tb_d tk_X6_readGuard_2 19 (112, .ireturn, 1) rfl
def tb_X6_kindOf_1 : List (Nat × Instr × Nat) := [(0, .iload_n 0, 1), (1, .lookupswitch 61 #[(100, 57), (101, 55), (103, 59), (107, 51), (115, 53)], 51), (52, .iconst 1, 1), (53, .ireturn, 1), (54, .iconst 2, 1), (55, .ireturn, 1), (56, .iconst 3, 1), (57, .ireturn, 1), (58, .iconst 4, 1), (59, .ireturn, 1), (60, .iconst 5, 1), (61, .ireturn, 1), (62, .ldc 95, 2), (64, .ireturn, 1)]
set_option maxRecDepth 100000 in
theorem tk_X6_kindOf_1 : (tb_X6_kindOf_1.all fun q => decide (decode cX6_kindOf q.1 = .ok q.2)) = true := by decide +kernel
theorem dX6_kindOf_0 : decode cX6_kindOf 0 = .ok (.iload_n 0, 1) := tb_d tk_X6_kindOf_1 0 (0, .iload_n 0, 1) rfl
theorem dX6_kindOf_1 : decode cX6_kindOf 1 = .ok (.lookupswitch 61 #[(100, 57), (101, 55), (103, 59), (107, 51), (115, 53)], 51) := tb_d tk_X6_kindOf_1 1 (1, .lookupswitch 61 #[(100, 57), (101, 55), (103, 59), (107, 51), (115, 53)], 51) rfl
theorem dX6_kindOf_52 : decode cX6_kindOf 52 = .ok (.iconst 1, 1) := tb_d tk_X6_kindOf_1 2 (52, .iconst 1, 1) rfl
theorem dX6_kindOf_53 : decode cX6_kindOf 53 = .ok (.ireturn, 1) := tb_d tk_X6_kindOf_1 3 (53, .ireturn, 1) rfl
theorem dX6_kindOf_54 : decode cX6_kindOf 54 = .ok (.iconst 2, 1) := tb_d tk_X6_kindOf_1 4 (54, .iconst 2, 1) rfl
theorem dX6_kindOf_55 : decode cX6_kindOf 55 = .ok (.ireturn, 1) := tb_d tk_X6_kindOf_1 5 (55, .ireturn, 1) rfl
theorem dX6_kindOf_56 : decode cX6_kindOf 56 = .ok (.iconst 3, 1) := tb_d tk_X6_kindOf_1 6 (56, .iconst 3, 1) rfl
theorem dX6_kindOf_57 : decode cX6_kindOf 57 = .ok (.ireturn, 1) := tb_d tk_X6_kindOf_1 7 (57, .ireturn, 1) rfl
theorem dX6_kindOf_58 : decode cX6_kindOf 58 = .ok (.iconst 4, 1) := tb_d tk_X6_kindOf_1 8 (58, .iconst 4, 1) rfl
theorem dX6_kindOf_59 : decode cX6_kindOf 59 = .ok (.ireturn, 1) := tb_d tk_X6_kindOf_1 9 (59, .ireturn, 1) rfl
theorem dX6_kindOf_60 : decode cX6_kindOf 60 = .ok (.iconst 5, 1) := tb_d tk_X6_kindOf_1 10 (60, .iconst 5, 1) rfl
theorem dX6_kindOf_61 : decode cX6_kindOf 61 = .ok (.ireturn, 1) := tb_d tk_X6_kindOf_1 11 (61, .ireturn, 1) rfl
theorem dX6_kindOf_62 : decode cX6_kindOf 62 = .ok (.ldc 95, 2) := tb_d tk_X6_kindOf_1 12 (62, .ldc 95, 2) rfl
theorem dX6_kindOf_64 : decode cX6_kindOf 64 = .ok (.ireturn, 1) := tb_d tk_X6_kindOf_1 13 (64, .ireturn, 1) rfl
set_option maxRecDepth 20000 in
theorem ggX6_readSign_X6_here : GoodIn wsX6_readSign wsX6_here := goodIn_r _ [6, 1, 7, 8, 15, 16, 17, 18, 19, 20, 21] (by decide +kernel) (by decide +kernel)
set_option maxRecDepth 20000 in
theorem gX6_readSign_X6_here : GoodIn wsX6_readSign (wsV RX6 42 RX6 yX6_here wsX6_here) := goodIn_app (goodIn_of _ (by decide +kernel)) ggX6_readSign_X6_here
set_option maxRecDepth 20000 in
theorem ggX6_readSign_X6_faulty : GoodIn wsX6_readSign wsX6_faulty := goodIn_r _ [12, 13, 1, 14, 15, 16, 17, 18, 19, 20, 21] (by decide +kernel) (by decide +kernel)
set_option maxRecDepth 20000 in
theorem gX6_readSign_X6_faulty : GoodIn wsX6_readSign (wsV RX6 78 RX6 yX6_faulty wsX6_faulty) := goodIn_app (goodIn_of _ (by decide +kernel)) ggX6_readSign_X6_faulty
def tb_X6_readSign_1 : List (Nat × Instr × Nat) := [(0, .aload_n 0, 1), (1, .invokevirtual 42, 3), (4, .iload_n 1, 1), (5, .if_icmp .eq 9, 3), (8, .aload_n 0, 1), (9, .iconst 1, 1), (10, .invokevirtual 78, 3), (13, .ireturn, 1), (14, .aload_n 0, 1), (15, .dup, 1), (16, .getfield 26, 3), (19, .iconst 1, 1), (20, .iadd, 1), (21, .putfield 26, 3), (24, .iconst 1, 1), (25, .ireturn, 1)]
set_option maxRecDepth 100000 in
theorem tk_X6_readSign_1 : (tb_X6_readSign_1.all fun q => decide (decode cX6_readSign q.1 = .ok q.2)) = true := by decide +kernel
theorem dX6_readSign_0 : decode cX6_readSign 0 = .ok (.aload_n 0, 1) := tb_d tk_X6_readSign_1 0 (0, .aload_n 0, 1) rfl
theorem dX6_readSign_1 : decode cX6_readSign 1 = .ok (.invokevirtual 42, 3) := tb_d tk_X6_readSign_1 1 (1, .invokevirtual 42, 3) rfl
theorem dX6_readSign_4 : decode cX6_readSign 4 = .ok (.iload_n 1, 1) := tb_d tk_X6_readSign_1 2 (4, .iload_n 1, 1) rfl
theorem dX6_readSign_5 : decode cX6_readSign 5 = .ok (.if_icmp .eq 9, 3) := tb_d tk_X6_readSign_1 3 (5, .if_icmp .eq 9, 3) rfl
theorem dX6_readSign_8 : decode cX6_readSign 8 = .ok (.aload_n 0, 1) := tb_d tk_X6_readSign_1 4 (8, .aload_n 0, 1) rfl
theorem dX6_readSign_9 : decode cX6_readSign 9 = .ok (.iconst 1, 1) := tb_d tk_X6_readSign_1 5 (9, .iconst 1, 1) rfl
theorem dX6_readSign_10 : decode cX6_readSign 10 = .ok (.invokevirtual 78, 3) := tb_d tk_X6_readSign_1 6 (10, .invokevirtual 78, 3) rfl
theorem dX6_readSign_13 : decode cX6_readSign 13 = .ok (.ireturn, 1) := tb_d tk_X6_readSign_1 7 (13, .ireturn, 1) rfl
theorem dX6_readSign_14 : decode cX6_readSign 14 = .ok (.aload_n 0, 1) := tb_d tk_X6_readSign_1 8 (14, .aload_n 0, 1) rfl
theorem dX6_readSign_15 : decode cX6_readSign 15 = .ok (.dup, 1) := tb_d tk_X6_readSign_1 9 (15, .dup, 1) rfl
theorem dX6_readSign_16 : decode cX6_readSign 16 = .ok (.getfield 26, 3) := tb_d tk_X6_readSign_1 10 (16, .getfield 26, 3) rfl
theorem dX6_readSign_19 : decode cX6_readSign 19 = .ok (.iconst 1, 1) := tb_d tk_X6_readSign_1 11 (19, .iconst 1, 1) rfl
theorem dX6_readSign_20 : decode cX6_readSign 20 = .ok (.iadd, 1) := tb_d tk_X6_readSign_1 12 (20, .iadd, 1) rfl
theorem dX6_readSign_21 : decode cX6_readSign 21 = .ok (.putfield 26, 3) := tb_d tk_X6_readSign_1 13 (21, .putfield 26, 3) rfl
theorem dX6_readSign_24 : decode cX6_readSign 24 = .ok (.iconst 1, 1) := tb_d tk_X6_readSign_1 14 (24, .iconst 1, 1) rfl
theorem dX6_readSign_25 : decode cX6_readSign 25 = .ok (.ireturn, 1) := tb_d tk_X6_readSign_1 15 (25, .ireturn, 1) rfl
set_option maxRecDepth 20000 in
theorem ggX6_readNumber_X6_isFigure : GoodIn wsX6_readNumber wsX6_isFigure := goodIn_r _ [8] (by decide +kernel) (by decide +kernel)
set_option maxRecDepth 20000 in
theorem gX6_readNumber_X6_isFigure : GoodIn wsX6_readNumber (va_wsS RX6 102 yX6_isFigure wsX6_isFigure) := goodIn_app (goodIn_of _ (by decide +kernel)) ggX6_readNumber_X6_isFigure
set_option maxRecDepth 20000 in
theorem ggX6_readNumber_X6_faulty : GoodIn wsX6_readNumber wsX6_faulty := goodIn_r _ [12, 13, 2, 14, 15, 16, 17, 18, 19, 20, 21] (by decide +kernel) (by decide +kernel)
set_option maxRecDepth 20000 in
theorem gX6_readNumber_X6_faulty : GoodIn wsX6_readNumber (wsV RX6 78 RX6 yX6_faulty wsX6_faulty) := goodIn_app (goodIn_of _ (by decide +kernel)) ggX6_readNumber_X6_faulty
def tb_X6_readNumber_1 : List (Nat × Instr × Nat) := [(0, .iconst 0, 1), (1, .istore_n 2, 1), (2, .aload_n 0, 1), (3, .iconst 0, 1), (4, .putfield 66, 3), (7, .aload_n 0, 1), (8, .getfield 26, 3), (11, .istore_n 3, 1), (12, .iload_n 3, 1), (13, .aload_n 0, 1), (14, .getfield 22, 3), (17, .if_icmp .ge 50, 3), (20, .iload_n 2, 1), (21, .iconst 3, 1), (22, .if_icmp .ge 45, 3), (25, .aload_n 0, 1), (26, .getfield 9, 3), (29, .iload_n 3, 1), (30, .iaload, 1), (31, .invokestatic 102, 3), (34, .ifCond .eq 33, 3), (37, .aload_n 0, 1), (38, .aload_n 0, 1), (39, .getfield 66, 3), (42, .bipush 10, 2), (44, .imul, 1), (45, .aload_n 0, 1), (46, .getfield 9, 3), (49, .iload_n 3, 1), (50, .iaload, 1), (51, .iadd, 1), (52, .bipush 48, 2), (54, .isub, 1), (55, .putfield 66, 3), (58, .iinc 2 1, 3), (61, .iinc 3 1, 3), (64, .goto (-52), 3), (67, .iload_n 2, 1), (68, .ifCond .eq 8, 3), (71, .iload_n 2, 1)]
set_option maxRecDepth 100000 in
theorem tk_X6_readNumber_1 : (tb_X6_readNumber_1.all fun q => decide (decode cX6_readNumber q.1 = .ok q.2)) = true := by decide +kernel
theorem dX6_readNumber_0 : decode cX6_readNumber 0 = .ok (.iconst 0, 1) := tb_d tk_X6_readNumber_1 0 (0, .iconst 0, 1) rfl
theorem dX6_readNumber_1 : decode cX6_readNumber 1 = .ok (.istore_n 2, 1) := tb_d tk_X6_readNumber_1 1 (1, .istore_n 2, 1) rfl
theorem dX6_readNumber_2 : decode cX6_readNumber 2 = .ok (.aload_n 0, 1) := tb_d tk_X6_readNumber_1 2 (2, .aload_n 0, 1) rfl
theorem dX6_readNumber_3 : decode cX6_readNumber 3 = .ok (.iconst 0, 1) := tb_d tk_X6_readNumber_1 3 (3, .iconst 0, 1) rfl
theorem dX6_readNumber_4 : decode cX6_readNumber 4 = .ok (.putfield 66, 3) := tb_d tk_X6_readNumber_1 4 (4, .putfield 66, 3) rfl
theorem dX6_readNumber_7 : decode cX6_readNumber 7 = .ok (.aload_n 0, 1) := tb_d tk_X6_readNumber_1 5 (7, .aload_n 0, 1) rfl
theorem dX6_readNumber_8 : decode cX6_readNumber 8 = .ok (.getfield 26, 3) := tb_d tk_X6_readNumber_1 6 (8, .getfield 26, 3) rfl
theorem dX6_readNumber_11 : decode cX6_readNumber 11 = .ok (.istore_n 3, 1) := tb_d tk_X6_readNumber_1 7 (11, .istore_n 3, 1) rfl
theorem dX6_readNumber_12 : decode cX6_readNumber 12 = .ok (.iload_n 3, 1) := tb_d tk_X6_readNumber_1 8 (12, .iload_n 3, 1) rfl
theorem dX6_readNumber_13 : decode cX6_readNumber 13 = .ok (.aload_n 0, 1) := tb_d tk_X6_readNumber_1 9 (13, .aload_n 0, 1) rfl
theorem dX6_readNumber_14 : decode cX6_readNumber 14 = .ok (.getfield 22, 3) := tb_d tk_X6_readNumber_1 10 (14, .getfield 22, 3) rfl
theorem dX6_readNumber_17 : decode cX6_readNumber 17 = .ok (.if_icmp .ge 50, 3) := tb_d tk_X6_readNumber_1 11 (17, .if_icmp .ge 50, 3) rfl
theorem dX6_readNumber_20 : decode cX6_readNumber 20 = .ok (.iload_n 2, 1) := tb_d tk_X6_readNumber_1 12 (20, .iload_n 2, 1) rfl
theorem dX6_readNumber_21 : decode cX6_readNumber 21 = .ok (.iconst 3, 1) := tb_d tk_X6_readNumber_1 13 (21, .iconst 3, 1) rfl
theorem dX6_readNumber_22 : decode cX6_readNumber 22 = .ok (.if_icmp .ge 45, 3) := tb_d tk_X6_readNumber_1 14 (22, .if_icmp .ge 45, 3) rfl
theorem dX6_readNumber_25 : decode cX6_readNumber 25 = .ok (.aload_n 0, 1) := tb_d tk_X6_readNumber_1 15 (25, .aload_n 0, 1) rfl
theorem dX6_readNumber_26 : decode cX6_readNumber 26 = .ok (.getfield 9, 3) := tb_d tk_X6_readNumber_1 16 (26, .getfield 9, 3) rfl
theorem dX6_readNumber_29 : decode cX6_readNumber 29 = .ok (.iload_n 3, 1) := tb_d tk_X6_readNumber_1 17 (29, .iload_n 3, 1) rfl
theorem dX6_readNumber_30 : decode cX6_readNumber 30 = .ok (.iaload, 1) := tb_d tk_X6_readNumber_1 18 (30, .iaload, 1) rfl
theorem dX6_readNumber_31 : decode cX6_readNumber 31 = .ok (.invokestatic 102, 3) := tb_d tk_X6_readNumber_1 19 (31, .invokestatic 102, 3) rfl
theorem dX6_readNumber_34 : decode cX6_readNumber 34 = .ok (.ifCond .eq 33, 3) := tb_d tk_X6_readNumber_1 20 (34, .ifCond .eq 33, 3) rfl
theorem dX6_readNumber_37 : decode cX6_readNumber 37 = .ok (.aload_n 0, 1) := tb_d tk_X6_readNumber_1 21 (37, .aload_n 0, 1) rfl
theorem dX6_readNumber_38 : decode cX6_readNumber 38 = .ok (.aload_n 0, 1) := tb_d tk_X6_readNumber_1 22 (38, .aload_n 0, 1) rfl
theorem dX6_readNumber_39 : decode cX6_readNumber 39 = .ok (.getfield 66, 3) := tb_d tk_X6_readNumber_1 23 (39, .getfield 66, 3) rfl
theorem dX6_readNumber_42 : decode cX6_readNumber 42 = .ok (.bipush 10, 2) := tb_d tk_X6_readNumber_1 24 (42, .bipush 10, 2) rfl
theorem dX6_readNumber_44 : decode cX6_readNumber 44 = .ok (.imul, 1) := tb_d tk_X6_readNumber_1 25 (44, .imul, 1) rfl
theorem dX6_readNumber_45 : decode cX6_readNumber 45 = .ok (.aload_n 0, 1) := tb_d tk_X6_readNumber_1 26 (45, .aload_n 0, 1) rfl
theorem dX6_readNumber_46 : decode cX6_readNumber 46 = .ok (.getfield 9, 3) := tb_d tk_X6_readNumber_1 27 (46, .getfield 9, 3) rfl
theorem dX6_readNumber_49 : decode cX6_readNumber 49 = .ok (.iload_n 3, 1) := tb_d tk_X6_readNumber_1 28 (49, .iload_n 3, 1) rfl
theorem dX6_readNumber_50 : decode cX6_readNumber 50 = .ok (.iaload, 1) := tb_d tk_X6_readNumber_1 29 (50, .iaload, 1) rfl
theorem dX6_readNumber_51 : decode cX6_readNumber 51 = .ok (.iadd, 1) := tb_d tk_X6_readNumber_1 30 (51, .iadd, 1) rfl
theorem dX6_readNumber_52 : decode cX6_readNumber 52 = .ok (.bipush 48, 2) := tb_d tk_X6_readNumber_1 31 (52, .bipush 48, 2) rfl
theorem dX6_readNumber_54 : decode cX6_readNumber 54 = .ok (.isub, 1) := tb_d tk_X6_readNumber_1 32 (54, .isub, 1) rfl
theorem dX6_readNumber_55 : decode cX6_readNumber 55 = .ok (.putfield 66, 3) := tb_d tk_X6_readNumber_1 33 (55, .putfield 66, 3) rfl
theorem dX6_readNumber_58 : decode cX6_readNumber 58 = .ok (.iinc 2 1, 3) := tb_d tk_X6_readNumber_1 34 (58, .iinc 2 1, 3) rfl
theorem dX6_readNumber_61 : decode cX6_readNumber 61 = .ok (.iinc 3 1, 3) := tb_d tk_X6_readNumber_1 35 (61, .iinc 3 1, 3) rfl
theorem dX6_readNumber_64 : decode cX6_readNumber 64 = .ok (.goto (-52), 3) := tb_d tk_X6_readNumber_1 36 (64, .goto (-52), 3) rfl
theorem dX6_readNumber_67 : decode cX6_readNumber 67 = .ok (.iload_n 2, 1) := tb_d tk_X6_readNumber_1 37 (67, .iload_n 2, 1) rfl
theorem dX6_readNumber_68 : decode cX6_readNumber 68 = .ok (.ifCond .eq 8, 3) := tb_d tk_X6_readNumber_1 38 (68, .ifCond .eq 8, 3) rfl
theorem dX6_readNumber_71 : decode cX6_readNumber 71 = .ok (.iload_n 2, 1) := tb_d tk_X6_readNumber_1 39 (71, .iload_n 2, 1) rfl
def tb_X6_readNumber_2 : List (Nat × Instr × Nat) := [(72, .iconst 2, 1), (73, .if_icmp .le 9, 3), (76, .aload_n 0, 1), (77, .iconst 1, 1), (78, .invokevirtual 78, 3), (81, .ireturn, 1), (82, .aload_n 0, 1), (83, .getfield 66, 3), (86, .iload_n 1, 1), (87, .if_icmp .le 9, 3), (90, .aload_n 0, 1), (91, .iconst 2, 1), (92, .invokevirtual 78, 3), (95, .ireturn, 1), (96, .aload_n 0, 1), (97, .dup, 1), (98, .getfield 26, 3), (101, .iload_n 2, 1), (102, .iadd, 1), (103, .putfield 26, 3), (106, .iconst 1, 1), (107, .ireturn, 1)]
set_option maxRecDepth 100000 in
theorem tk_X6_readNumber_2 : (tb_X6_readNumber_2.all fun q => decide (decode cX6_readNumber q.1 = .ok q.2)) = true := by decide +kernel
theorem dX6_readNumber_72 : decode cX6_readNumber 72 = .ok (.iconst 2, 1) := tb_d tk_X6_readNumber_2 0 (72, .iconst 2, 1) rfl
theorem dX6_readNumber_73 : decode cX6_readNumber 73 = .ok (.if_icmp .le 9, 3) := tb_d tk_X6_readNumber_2 1 (73, .if_icmp .le 9, 3) rfl
theorem dX6_readNumber_76 : decode cX6_readNumber 76 = .ok (.aload_n 0, 1) := tb_d tk_X6_readNumber_2 2 (76, .aload_n 0, 1) rfl
theorem dX6_readNumber_77 : decode cX6_readNumber 77 = .ok (.iconst 1, 1) := tb_d tk_X6_readNumber_2 3 (77, .iconst 1, 1) rfl
theorem dX6_readNumber_78 : decode cX6_readNumber 78 = .ok (.invokevirtual 78, 3) := tb_d tk_X6_readNumber_2 4 (78, .invokevirtual 78, 3) rfl
theorem dX6_readNumber_81 : decode cX6_readNumber 81 = .ok (.ireturn, 1) := tb_d tk_X6_readNumber_2 5 (81, .ireturn, 1) rfl
theorem dX6_readNumber_82 : decode cX6_readNumber 82 = .ok (.aload_n 0, 1) := tb_d tk_X6_readNumber_2 6 (82, .aload_n 0, 1) rfl
theorem dX6_readNumber_83 : decode cX6_readNumber 83 = .ok (.getfield 66, 3) := tb_d tk_X6_readNumber_2 7 (83, .getfield 66, 3) rfl
theorem dX6_readNumber_86 : decode cX6_readNumber 86 = .ok (.iload_n 1, 1) := tb_d tk_X6_readNumber_2 8 (86, .iload_n 1, 1) rfl
theorem dX6_readNumber_87 : decode cX6_readNumber 87 = .ok (.if_icmp .le 9, 3) := tb_d tk_X6_readNumber_2 9 (87, .if_icmp .le 9, 3) rfl
theorem dX6_readNumber_90 : decode cX6_readNumber 90 = .ok (.aload_n 0, 1) := tb_d tk_X6_readNumber_2 10 (90, .aload_n 0, 1) rfl
theorem dX6_readNumber_91 : decode cX6_readNumber 91 = .ok (.iconst 2, 1) := tb_d tk_X6_readNumber_2 11 (91, .iconst 2, 1) rfl
theorem dX6_readNumber_92 : decode cX6_readNumber 92 = .ok (.invokevirtual 78, 3) := tb_d tk_X6_readNumber_2 12 (92, .invokevirtual 78, 3) rfl
theorem dX6_readNumber_95 : decode cX6_readNumber 95 = .ok (.ireturn, 1) := tb_d tk_X6_readNumber_2 13 (95, .ireturn, 1) rfl
theorem dX6_readNumber_96 : decode cX6_readNumber 96 = .ok (.aload_n 0, 1) := tb_d tk_X6_readNumber_2 14 (96, .aload_n 0, 1) rfl
theorem dX6_readNumber_97 : decode cX6_readNumber 97 = .ok (.dup, 1) := tb_d tk_X6_readNumber_2 15 (97, .dup, 1) rfl
theorem dX6_readNumber_98 : decode cX6_readNumber 98 = .ok (.getfield 26, 3) := tb_d tk_X6_readNumber_2 16 (98, .getfield 26, 3) rfl
theorem dX6_readNumber_101 : decode cX6_readNumber 101 = .ok (.iload_n 2, 1) := tb_d tk_X6_readNumber_2 17 (101, .iload_n 2, 1) rfl
theorem dX6_readNumber_102 : decode cX6_readNumber 102 = .ok (.iadd, 1) := tb_d tk_X6_readNumber_2 18 (102, .iadd, 1) rfl
theorem dX6_readNumber_103 : decode cX6_readNumber 103 = .ok (.putfield 26, 3) := tb_d tk_X6_readNumber_2 19 (103, .putfield 26, 3) rfl
theorem dX6_readNumber_106 : decode cX6_readNumber 106 = .ok (.iconst 1, 1) := tb_d tk_X6_readNumber_2 20 (106, .iconst 1, 1) rfl
theorem dX6_readNumber_107 : decode cX6_readNumber 107 = .ok (.ireturn, 1) := tb_d tk_X6_readNumber_2 21 (107, .ireturn, 1) rfl
def tb_X6_isFigure_1 : List (Nat × Instr × Nat) := [(0, .iload_n 0, 1), (1, .bipush 48, 2), (3, .if_icmp .lt 13, 3), (6, .iload_n 0, 1), (7, .bipush 57, 2), (9, .if_icmp .gt 7, 3), (12, .iconst 1, 1), (13, .goto 4, 3), (16, .iconst 0, 1), (17, .ireturn, 1)]
set_option maxRecDepth 100000 in
theorem tk_X6_isFigure_1 : (tb_X6_isFigure_1.all fun q => decide (decode cX6_isFigure q.1 = .ok q.2)) = true := by decide +kernel
theorem dX6_isFigure_0 : decode cX6_isFigure 0 = .ok (.iload_n 0, 1) := tb_d tk_X6_isFigure_1 0 (0, .iload_n 0, 1) rfl
theorem dX6_isFigure_1 : decode cX6_isFigure 1 = .ok (.bipush 48, 2) := tb_d tk_X6_isFigure_1 1 (1, .bipush 48, 2) rfl
theorem dX6_isFigure_3 : decode cX6_isFigure 3 = .ok (.if_icmp .lt 13, 3) := tb_d tk_X6_isFigure_1 2 (3, .if_icmp .lt 13, 3) rfl
theorem dX6_isFigure_6 : decode cX6_isFigure 6 = .ok (.iload_n 0, 1) := tb_d tk_X6_isFigure_1 3 (6, .iload_n 0, 1) rfl
theorem dX6_isFigure_7 : decode cX6_isFigure 7 = .ok (.bipush 57, 2) := tb_d tk_X6_isFigure_1 4 (7, .bipush 57, 2) rfl
theorem dX6_isFigure_9 : decode cX6_isFigure 9 = .ok (.if_icmp .gt 7, 3) := tb_d tk_X6_isFigure_1 5 (9, .if_icmp .gt 7, 3) rfl
theorem dX6_isFigure_12 : decode cX6_isFigure 12 = .ok (.iconst 1, 1) := tb_d tk_X6_isFigure_1 6 (12, .iconst 1, 1) rfl
theorem dX6_isFigure_13 : decode cX6_isFigure 13 = .ok (.goto 4, 3) := tb_d tk_X6_isFigure_1 7 (13, .goto 4, 3) rfl
theorem dX6_isFigure_16 : decode cX6_isFigure 16 = .ok (.iconst 0, 1) := tb_d tk_X6_isFigure_1 8 (16, .iconst 0, 1) rfl
theorem dX6_isFigure_17 : decode cX6_isFigure 17 = .ok (.ireturn, 1) := tb_d tk_X6_isFigure_1 9 (17, .ireturn, 1) rfl
def tb_X6_here_1 : List (Nat × Instr × Nat) := [(0, .aload_n 0, 1), (1, .getfield 26, 3), (4, .aload_n 0, 1), (5, .getfield 22, 3), (8, .if_icmp .ge 15, 3), (11, .aload_n 0, 1), (12, .getfield 9, 3), (15, .aload_n 0, 1), (16, .getfield 26, 3), (19, .iaload, 1), (20, .goto 4, 3), (23, .iconst (-1), 1), (24, .ireturn, 1)]
set_option maxRecDepth 100000 in
theorem tk_X6_here_1 : (tb_X6_here_1.all fun q => decide (decode cX6_here q.1 = .ok q.2)) = true := by decide +kernel
theorem dX6_here_0 : decode cX6_here 0 = .ok (.aload_n 0, 1) := tb_d tk_X6_here_1 0 (0, .aload_n 0, 1) rfl
theorem dX6_here_1 : decode cX6_here 1 = .ok (.getfield 26, 3) := tb_d tk_X6_here_1 1 (1, .getfield 26, 3) rfl
theorem dX6_here_4 : decode cX6_here 4 = .ok (.aload_n 0, 1) := tb_d tk_X6_here_1 2 (4, .aload_n 0, 1) rfl
theorem dX6_here_5 : decode cX6_here 5 = .ok (.getfield 22, 3) := tb_d tk_X6_here_1 3 (5, .getfield 22, 3) rfl
theorem dX6_here_8 : decode cX6_here 8 = .ok (.if_icmp .ge 15, 3) := tb_d tk_X6_here_1 4 (8, .if_icmp .ge 15, 3) rfl
theorem dX6_here_11 : decode cX6_here 11 = .ok (.aload_n 0, 1) := tb_d tk_X6_here_1 5 (11, .aload_n 0, 1) rfl
theorem dX6_here_12 : decode cX6_here 12 = .ok (.getfield 9, 3) := tb_d tk_X6_here_1 6 (12, .getfield 9, 3) rfl
theorem dX6_here_15 : decode cX6_here 15 = .ok (.aload_n 0, 1) := tb_d tk_X6_here_1 7 (15, .aload_n 0, 1) rfl
theorem dX6_here_16 : decode cX6_here 16 = .ok (.getfield 26, 3) := tb_d tk_X6_here_1 8 (16, .getfield 26, 3) rfl
theorem dX6_here_19 : decode cX6_here 19 = .ok (.iaload, 1) := tb_d tk_X6_here_1 9 (19, .iaload, 1) rfl
theorem dX6_here_20 : decode cX6_here 20 = .ok (.goto 4, 3) := tb_d tk_X6_here_1 10 (20, .goto 4, 3) rfl
theorem dX6_here_23 : decode cX6_here 23 = .ok (.iconst (-1), 1) := tb_d tk_X6_here_1 11 (23, .iconst (-1), 1) rfl
theorem dX6_here_24 : decode cX6_here 24 = .ok (.ireturn, 1) := tb_d tk_X6_here_1 12 (24, .ireturn, 1) rfl
def tb_X6_faulty_1 : List (Nat × Instr × Nat) := [(0, .aload_n 0, 1), (1, .iload_n 1, 1), (2, .putfield 105, 3), (5, .aload_n 0, 1), (6, .aload_n 0, 1), (7, .getfield 26, 3), (10, .putfield 108, 3), (13, .iconst 0, 1), (14, .ireturn, 1)]
set_option maxRecDepth 100000 in
theorem tk_X6_faulty_1 : (tb_X6_faulty_1.all fun q => decide (decode cX6_faulty q.1 = .ok q.2)) = true := by decide +kernel
theorem dX6_faulty_0 : decode cX6_faulty 0 = .ok (.aload_n 0, 1) := tb_d tk_X6_faulty_1 0 (0, .aload_n 0, 1) rfl
theorem dX6_faulty_1 : decode cX6_faulty 1 = .ok (.iload_n 1, 1) := tb_d tk_X6_faulty_1 1 (1, .iload_n 1, 1) rfl
theorem dX6_faulty_2 : decode cX6_faulty 2 = .ok (.putfield 105, 3) := tb_d tk_X6_faulty_1 2 (2, .putfield 105, 3) rfl
theorem dX6_faulty_5 : decode cX6_faulty 5 = .ok (.aload_n 0, 1) := tb_d tk_X6_faulty_1 3 (5, .aload_n 0, 1) rfl
theorem dX6_faulty_6 : decode cX6_faulty 6 = .ok (.aload_n 0, 1) := tb_d tk_X6_faulty_1 4 (6, .aload_n 0, 1) rfl
theorem dX6_faulty_7 : decode cX6_faulty 7 = .ok (.getfield 26, 3) := tb_d tk_X6_faulty_1 5 (7, .getfield 26, 3) rfl
theorem dX6_faulty_10 : decode cX6_faulty 10 = .ok (.putfield 108, 3) := tb_d tk_X6_faulty_1 6 (10, .putfield 108, 3) rfl
theorem dX6_faulty_13 : decode cX6_faulty 13 = .ok (.iconst 0, 1) := tb_d tk_X6_faulty_1 7 (13, .iconst 0, 1) rfl
theorem dX6_faulty_14 : decode cX6_faulty 14 = .ok (.ireturn, 1) := tb_d tk_X6_faulty_1 8 (14, .ireturn, 1) rfl
set_option maxRecDepth 20000 in
theorem ggX7_init_X6_init : GoodIn wsX7_init wsX6_init := goodIn_r _ [30, 31, 2, 3, 32, 33, 34, 11, 12, 35, 36, 37, 38, 39, 40, 41, 42, 43, 44, 45, 46, 47, 48, 49, 50, 51, 52, 82, 83, 84, 85, 86, 87, 88, 89, 90, 91, 92, 93, 94, 95, 96, 111, 112, 113, 114, 115, 116, 117, 118] (by decide +kernel) (by decide +kernel)
set_option maxRecDepth 20000 in
theorem gX7_init_X6_init_n17 : GoodIn wsX7_init (wsX6_init) := ggX7_init_X6_init
set_option maxRecDepth 20000 in
theorem ggX7_init_X2_init : GoodIn wsX7_init wsX2_init := goodIn_r _ [37, 38, 2, 3, 32, 39, 40, 41, 42, 43, 44, 45, 46, 47, 48, 49, 50, 51, 52, 89, 90, 91, 92, 93, 94, 95, 96, 111, 112, 113, 114, 115, 116, 117, 118] (by decide +kernel) (by decide +kernel)
set_option maxRecDepth 20000 in
theorem gX7_init_X2_init_n24 : GoodIn wsX7_init (wsX2_init) := ggX7_init_X2_init
set_option maxRecDepth 20000 in
theorem ggX7_init_X0_init : GoodIn wsX7_init wsX0_init := goodIn_r _ [55, 56, 2, 3, 57, 58, 43, 44, 46, 47, 48, 32, 49, 50, 51, 52, 97, 98, 99, 111, 112, 113, 114, 115, 116, 117, 118] (by decide +kernel) (by decide +kernel)
set_option maxRecDepth 20000 in
theorem gX7_init_X0_init : GoodIn wsX7_init (wsX0_init) := ggX7_init_X0_init
set_option maxRecDepth 20000 in
theorem ggX7_init_X3_init : GoodIn wsX7_init wsX3_init := goodIn_r _ [60, 61, 2, 3, 32, 62, 63, 100, 101] (by decide +kernel) (by decide +kernel)
set_option maxRecDepth 20000 in
theorem gX7_init_X3_init_n42 : GoodIn wsX7_init (wsX3_init) := ggX7_init_X3_init
set_option maxRecDepth 20000 in
theorem ggX7_init_X1_init : GoodIn wsX7_init wsX1_init := goodIn_r _ [65, 66, 2, 3, 32, 67, 102, 103, 104, 105, 106, 107] (by decide +kernel) (by decide +kernel)
set_option maxRecDepth 20000 in
theorem gX7_init_X1_init_n49 : GoodIn wsX7_init (wsX1_init) := ggX7_init_X1_init
set_option maxRecDepth 20000 in
theorem ggX7_init_X5_init : GoodIn wsX7_init wsX5_init := goodIn_r _ [69, 70, 2, 3, 32, 71, 72, 108, 109, 110] (by decide +kernel) (by decide +kernel)
set_option maxRecDepth 20000 in
theorem gX7_init_X5_init_n54 : GoodIn wsX7_init (wsX5_init) := ggX7_init_X5_init
def tb_X7_init_1 : List (Nat × Instr × Nat) := [(0, .aload_n 0, 1), (1, .invokespecial 1, 3), (4, .aload_n 0, 1), (5, .bipush 8, 2), (7, .anewarray 9, 3), (10, .putfield 11, 3), (13, .aload_n 0, 1), (14, .new 15, 3), (17, .dup, 1), (18, .invokespecial 17, 3), (21, .putfield 18, 3), (24, .aload_n 0, 1), (25, .new 22, 3), (28, .dup, 1), (29, .invokespecial 24, 3), (32, .putfield 25, 3), (35, .aload_n 0, 1), (36, .new 29, 3), (39, .dup, 1), (40, .invokespecial 31, 3), (43, .putfield 32, 3), (46, .aload_n 0, 1), (47, .iconst 2, 1), (48, .anewarray 22, 3), (51, .putfield 36, 3), (54, .aload_n 0, 1), (55, .new 40, 3), (58, .dup, 1), (59, .invokespecial 42, 3), (62, .putfield 43, 3), (65, .aload_n 0, 1), (66, .new 47, 3), (69, .dup, 1), (70, .invokespecial 49, 3), (73, .putfield 50, 3), (76, .iconst 0, 1), (77, .istore_n 1, 1), (78, .iload_n 1, 1), (79, .bipush 8, 2), (81, .if_icmp .ge 22, 3)]
set_option maxRecDepth 100000 in
theorem tk_X7_init_1 : (tb_X7_init_1.all fun q => decide (decode cX7_init q.1 = .ok q.2)) = true := by decide +kernel
theorem dX7_init_0 : decode cX7_init 0 = .ok (.aload_n 0, 1) := tb_d tk_X7_init_1 0 (0, .aload_n 0, 1) rfl
theorem dX7_init_1 : decode cX7_init 1 = .ok (.invokespecial 1, 3) := tb_d tk_X7_init_1 1 (1, .invokespecial 1, 3) rfl
theorem dX7_init_4 : decode cX7_init 4 = .ok (.aload_n 0, 1) := tb_d tk_X7_init_1 2 (4, .aload_n 0, 1) rfl
theorem dX7_init_5 : decode cX7_init 5 = .ok (.bipush 8, 2) := tb_d tk_X7_init_1 3 (5, .bipush 8, 2) rfl
theorem dX7_init_7 : decode cX7_init 7 = .ok (.anewarray 9, 3) := tb_d tk_X7_init_1 4 (7, .anewarray 9, 3) rfl
theorem dX7_init_10 : decode cX7_init 10 = .ok (.putfield 11, 3) := tb_d tk_X7_init_1 5 (10, .putfield 11, 3) rfl
theorem dX7_init_13 : decode cX7_init 13 = .ok (.aload_n 0, 1) := tb_d tk_X7_init_1 6 (13, .aload_n 0, 1) rfl
theorem dX7_init_14 : decode cX7_init 14 = .ok (.new 15, 3) := tb_d tk_X7_init_1 7 (14, .new 15, 3) rfl
theorem dX7_init_17 : decode cX7_init 17 = .ok (.dup, 1) := tb_d tk_X7_init_1 8 (17, .dup, 1) rfl
theorem dX7_init_18 : decode cX7_init 18 = .ok (.invokespecial 17, 3) := tb_d tk_X7_init_1 9 (18, .invokespecial 17, 3) rfl
theorem dX7_init_21 : decode cX7_init 21 = .ok (.putfield 18, 3) := tb_d tk_X7_init_1 10 (21, .putfield 18, 3) rfl
theorem dX7_init_24 : decode cX7_init 24 = .ok (.aload_n 0, 1) := tb_d tk_X7_init_1 11 (24, .aload_n 0, 1) rfl
theorem dX7_init_25 : decode cX7_init 25 = .ok (.new 22, 3) := tb_d tk_X7_init_1 12 (25, .new 22, 3) rfl
theorem dX7_init_28 : decode cX7_init 28 = .ok (.dup, 1) := tb_d tk_X7_init_1 13 (28, .dup, 1) rfl
theorem dX7_init_29 : decode cX7_init 29 = .ok (.invokespecial 24, 3) := tb_d tk_X7_init_1 14 (29, .invokespecial 24, 3) rfl
theorem dX7_init_32 : decode cX7_init 32 = .ok (.putfield 25, 3) := tb_d tk_X7_init_1 15 (32, .putfield 25, 3) rfl
theorem dX7_init_35 : decode cX7_init 35 = .ok (.aload_n 0, 1) := tb_d tk_X7_init_1 16 (35, .aload_n 0, 1) rfl
theorem dX7_init_36 : decode cX7_init 36 = .ok (.new 29, 3) := tb_d tk_X7_init_1 17 (36, .new 29, 3) rfl
theorem dX7_init_39 : decode cX7_init 39 = .ok (.dup, 1) := tb_d tk_X7_init_1 18 (39, .dup, 1) rfl
theorem dX7_init_40 : decode cX7_init 40 = .ok (.invokespecial 31, 3) := tb_d tk_X7_init_1 19 (40, .invokespecial 31, 3) rfl
theorem dX7_init_43 : decode cX7_init 43 = .ok (.putfield 32, 3) := tb_d tk_X7_init_1 20 (43, .putfield 32, 3) rfl
theorem dX7_init_46 : decode cX7_init 46 = .ok (.aload_n 0, 1) := tb_d tk_X7_init_1 21 (46, .aload_n 0, 1) rfl
theorem dX7_init_47 : decode cX7_init 47 = .ok (.iconst 2, 1) := tb_d tk_X7_init_1 22 (47, .iconst 2, 1) rfl
theorem dX7_init_48 : decode cX7_init 48 = .ok (.anewarray 22, 3) := tb_d tk_X7_init_1 23 (48, .anewarray 22, 3) rfl
theorem dX7_init_51 : decode cX7_init 51 = .ok (.putfield 36, 3) := tb_d tk_X7_init_1 24 (51, .putfield 36, 3) rfl
theorem dX7_init_54 : decode cX7_init 54 = .ok (.aload_n 0, 1) := tb_d tk_X7_init_1 25 (54, .aload_n 0, 1) rfl
theorem dX7_init_55 : decode cX7_init 55 = .ok (.new 40, 3) := tb_d tk_X7_init_1 26 (55, .new 40, 3) rfl
theorem dX7_init_58 : decode cX7_init 58 = .ok (.dup, 1) := tb_d tk_X7_init_1 27 (58, .dup, 1) rfl
theorem dX7_init_59 : decode cX7_init 59 = .ok (.invokespecial 42, 3) := tb_d tk_X7_init_1 28 (59, .invokespecial 42, 3) rfl
theorem dX7_init_62 : decode cX7_init 62 = .ok (.putfield 43, 3) := tb_d tk_X7_init_1 29 (62, .putfield 43, 3) rfl
theorem dX7_init_65 : decode cX7_init 65 = .ok (.aload_n 0, 1) := tb_d tk_X7_init_1 30 (65, .aload_n 0, 1) rfl
theorem dX7_init_66 : decode cX7_init 66 = .ok (.new 47, 3) := tb_d tk_X7_init_1 31 (66, .new 47, 3) rfl
theorem dX7_init_69 : decode cX7_init 69 = .ok (.dup, 1) := tb_d tk_X7_init_1 32 (69, .dup, 1) rfl
theorem dX7_init_70 : decode cX7_init 70 = .ok (.invokespecial 49, 3) := tb_d tk_X7_init_1 33 (70, .invokespecial 49, 3) rfl
theorem dX7_init_73 : decode cX7_init 73 = .ok (.putfield 50, 3) := tb_d tk_X7_init_1 34 (73, .putfield 50, 3) rfl
theorem dX7_init_76 : decode cX7_init 76 = .ok (.iconst 0, 1) := tb_d tk_X7_init_1 35 (76, .iconst 0, 1) rfl
theorem dX7_init_77 : decode cX7_init 77 = .ok (.istore_n 1, 1) := tb_d tk_X7_init_1 36 (77, .istore_n 1, 1) rfl
theorem dX7_init_78 : decode cX7_init 78 = .ok (.iload_n 1, 1) := tb_d tk_X7_init_1 37 (78, .iload_n 1, 1) rfl
theorem dX7_init_79 : decode cX7_init 79 = .ok (.bipush 8, 2) := tb_d tk_X7_init_1 38 (79, .bipush 8, 2) rfl
theorem dX7_init_81 : decode cX7_init 81 = .ok (.if_icmp .ge 22, 3) := tb_d tk_X7_init_1 39 (81, .if_icmp .ge 22, 3) rfl
def tb_X7_init_2 : List (Nat × Instr × Nat) := [(84, .aload_n 0, 1), (85, .getfield 11, 3), (88, .iload_n 1, 1), (89, .new 9, 3), (92, .dup, 1), (93, .invokespecial 54, 3), (96, .aastore, 1), (97, .iinc 1 1, 3), (100, .goto (-22), 3), (103, .iconst 0, 1), (104, .istore_n 1, 1), (105, .iload_n 1, 1), (106, .iconst 2, 1), (107, .if_icmp .ge 22, 3), (110, .aload_n 0, 1), (111, .getfield 36, 3), (114, .iload_n 1, 1), (115, .new 22, 3), (118, .dup, 1), (119, .invokespecial 24, 3), (122, .aastore, 1), (123, .iinc 1 1, 3), (126, .goto (-21), 3), (129, .return_, 1)]
set_option maxRecDepth 100000 in
theorem tk_X7_init_2 : (tb_X7_init_2.all fun q => decide (decode cX7_init q.1 = .ok q.2)) = true := by decide +kernel
theorem dX7_init_84 : decode cX7_init 84 = .ok (.aload_n 0, 1) := tb_d tk_X7_init_2 0 (84, .aload_n 0, 1) rfl
theorem dX7_init_85 : decode cX7_init 85 = .ok (.getfield 11, 3) := tb_d tk_X7_init_2 1 (85, .getfield 11, 3) rfl
theorem dX7_init_88 : decode cX7_init 88 = .ok (.iload_n 1, 1) := tb_d tk_X7_init_2 2 (88, .iload_n 1, 1) rfl
theorem dX7_init_89 : decode cX7_init 89 = .ok (.new 9, 3) := tb_d tk_X7_init_2 3 (89, .new 9, 3) rfl
theorem dX7_init_92 : decode cX7_init 92 = .ok (.dup, 1) := tb_d tk_X7_init_2 4 (92, .dup, 1) rfl
theorem dX7_init_93 : decode cX7_init 93 = .ok (.invokespecial 54, 3) := tb_d tk_X7_init_2 5 (93, .invokespecial 54, 3) rfl
theorem dX7_init_96 : decode cX7_init 96 = .ok (.aastore, 1) := tb_d tk_X7_init_2 6 (96, .aastore, 1) rfl
theorem dX7_init_97 : decode cX7_init 97 = .ok (.iinc 1 1, 3) := tb_d tk_X7_init_2 7 (97, .iinc 1 1, 3) rfl
theorem dX7_init_100 : decode cX7_init 100 = .ok (.goto (-22), 3) := tb_d tk_X7_init_2 8 (100, .goto (-22), 3) rfl
theorem dX7_init_103 : decode cX7_init 103 = .ok (.iconst 0, 1) := tb_d tk_X7_init_2 9 (103, .iconst 0, 1) rfl
theorem dX7_init_104 : decode cX7_init 104 = .ok (.istore_n 1, 1) := tb_d tk_X7_init_2 10 (104, .istore_n 1, 1) rfl
theorem dX7_init_105 : decode cX7_init 105 = .ok (.iload_n 1, 1) := tb_d tk_X7_init_2 11 (105, .iload_n 1, 1) rfl
theorem dX7_init_106 : decode cX7_init 106 = .ok (.iconst 2, 1) := tb_d tk_X7_init_2 12 (106, .iconst 2, 1) rfl
theorem dX7_init_107 : decode cX7_init 107 = .ok (.if_icmp .ge 22, 3) := tb_d tk_X7_init_2 13 (107, .if_icmp .ge 22, 3) rfl
theorem dX7_init_110 : decode cX7_init 110 = .ok (.aload_n 0, 1) := tb_d tk_X7_init_2 14 (110, .aload_n 0, 1) rfl
theorem dX7_init_111 : decode cX7_init 111 = .ok (.getfield 36, 3) := tb_d tk_X7_init_2 15 (111, .getfield 36, 3) rfl
theorem dX7_init_114 : decode cX7_init 114 = .ok (.iload_n 1, 1) := tb_d tk_X7_init_2 16 (114, .iload_n 1, 1) rfl
theorem dX7_init_115 : decode cX7_init 115 = .ok (.new 22, 3) := tb_d tk_X7_init_2 17 (115, .new 22, 3) rfl
theorem dX7_init_118 : decode cX7_init 118 = .ok (.dup, 1) := tb_d tk_X7_init_2 18 (118, .dup, 1) rfl
theorem dX7_init_119 : decode cX7_init 119 = .ok (.invokespecial 24, 3) := tb_d tk_X7_init_2 19 (119, .invokespecial 24, 3) rfl
theorem dX7_init_122 : decode cX7_init 122 = .ok (.aastore, 1) := tb_d tk_X7_init_2 20 (122, .aastore, 1) rfl
theorem dX7_init_123 : decode cX7_init 123 = .ok (.iinc 1 1, 3) := tb_d tk_X7_init_2 21 (123, .iinc 1 1, 3) rfl
theorem dX7_init_126 : decode cX7_init 126 = .ok (.goto (-21), 3) := tb_d tk_X7_init_2 22 (126, .goto (-21), 3) rfl
theorem dX7_init_129 : decode cX7_init 129 = .ok (.return_, 1) := tb_d tk_X7_init_2 23 (129, .return_, 1) rfl
set_option maxRecDepth 20000 in
theorem ggX7_row_X7_isRow : GoodIn wsX7_row wsX7_isRow := goodIn_r _ [7] (by decide +kernel) (by decide +kernel)
set_option maxRecDepth 20000 in
theorem gX7_row_X7_isRow : GoodIn wsX7_row (wsV RX7 55 RX7 yX7_isRow wsX7_isRow) := goodIn_app (goodIn_of _ (by decide +kernel)) ggX7_row_X7_isRow
set_option maxRecDepth 20000 in
theorem ggX7_row_X7_found : GoodIn wsX7_row wsX7_found := goodIn_r _ [11, 12, 13, 26, 27, 28, 29, 30, 31, 32, 33, 34] (by decide +kernel) (by decide +kernel)
set_option maxRecDepth 20000 in
theorem gX7_row_X7_found : GoodIn wsX7_row (wsV RX7 60 RX7 yX7_found wsX7_found) := goodIn_app (goodIn_of _ (by decide +kernel)) ggX7_row_X7_found
set_option maxRecDepth 20000 in
theorem ggX7_row_X5_make : GoodIn wsX7_row wsX5_make := goodIn_r _ [18, 19, 20, 21, 35, 36, 37] (by decide +kernel) (by decide +kernel)
set_option maxRecDepth 20000 in
theorem gX7_row_X5_make : GoodIn wsX7_row (wsV RX7 64 RX5 yX5_make wsX5_make) := goodIn_app (goodIn_of _ (by decide +kernel)) ggX7_row_X5_make
set_option maxRecDepth 20000 in
theorem ggX7_row_X7_unfound : GoodIn wsX7_row wsX7_unfound := goodIn_r _ [25, 12, 26, 27, 28, 29, 30, 31, 32, 33, 34] (by decide +kernel) (by decide +kernel)
set_option maxRecDepth 20000 in
theorem gX7_row_X7_unfound : GoodIn wsX7_row (wsV RX7 68 RX7 yX7_unfound wsX7_unfound) := goodIn_app (goodIn_of _ (by decide +kernel)) ggX7_row_X7_unfound
def tb_X7_row_1 : List (Nat × Instr × Nat) := [(0, .aload_n 0, 1), (1, .iload_n 1, 1), (2, .invokevirtual 55, 3), (5, .ifCond .eq 18, 3), (8, .iload_n 2, 1), (9, .ifCond .lt 14, 3), (12, .iload_n 2, 1), (13, .iconst 2, 1), (14, .if_icmp .gt 9, 3), (17, .iload_n 3, 1), (18, .bipush 40, 2), (20, .if_icmp .le 6, 3), (23, .ldc 59, 2), (25, .ireturn, 1), (26, .iload_n 3, 1), (27, .ifCond .ge 9, 3), (30, .aload_n 0, 1), (31, .iconst 4, 1), (32, .invokevirtual 60, 3), (35, .ireturn, 1), (36, .aload_n 0, 1), (37, .getfield 11, 3), (40, .iload_n 1, 1), (41, .aaload, 1), (42, .iload_n 2, 1), (43, .iload_n 3, 1), (44, .invokevirtual 64, 3), (47, .aload_n 0, 1), (48, .iload_n 3, 1), (49, .invokevirtual 68, 3), (52, .ireturn, 1)]
set_option maxRecDepth 100000 in
theorem tk_X7_row_1 : (tb_X7_row_1.all fun q => decide (decode cX7_row q.1 = .ok q.2)) = true := by decide +kernel
theorem dX7_row_0 : decode cX7_row 0 = .ok (.aload_n 0, 1) := tb_d tk_X7_row_1 0 (0, .aload_n 0, 1) rfl
theorem dX7_row_1 : decode cX7_row 1 = .ok (.iload_n 1, 1) := tb_d tk_X7_row_1 1 (1, .iload_n 1, 1) rfl
theorem dX7_row_2 : decode cX7_row 2 = .ok (.invokevirtual 55, 3) := tb_d tk_X7_row_1 2 (2, .invokevirtual 55, 3) rfl
theorem dX7_row_5 : decode cX7_row 5 = .ok (.ifCond .eq 18, 3) := tb_d tk_X7_row_1 3 (5, .ifCond .eq 18, 3) rfl
theorem dX7_row_8 : decode cX7_row 8 = .ok (.iload_n 2, 1) := tb_d tk_X7_row_1 4 (8, .iload_n 2, 1) rfl
theorem dX7_row_9 : decode cX7_row 9 = .ok (.ifCond .lt 14, 3) := tb_d tk_X7_row_1 5 (9, .ifCond .lt 14, 3) rfl
theorem dX7_row_12 : decode cX7_row 12 = .ok (.iload_n 2, 1) := tb_d tk_X7_row_1 6 (12, .iload_n 2, 1) rfl
theorem dX7_row_13 : decode cX7_row 13 = .ok (.iconst 2, 1) := tb_d tk_X7_row_1 7 (13, .iconst 2, 1) rfl
theorem dX7_row_14 : decode cX7_row 14 = .ok (.if_icmp .gt 9, 3) := tb_d tk_X7_row_1 8 (14, .if_icmp .gt 9, 3) rfl
theorem dX7_row_17 : decode cX7_row 17 = .ok (.iload_n 3, 1) := tb_d tk_X7_row_1 9 (17, .iload_n 3, 1) rfl
theorem dX7_row_18 : decode cX7_row 18 = .ok (.bipush 40, 2) := tb_d tk_X7_row_1 10 (18, .bipush 40, 2) rfl
theorem dX7_row_20 : decode cX7_row 20 = .ok (.if_icmp .le 6, 3) := tb_d tk_X7_row_1 11 (20, .if_icmp .le 6, 3) rfl
theorem dX7_row_23 : decode cX7_row 23 = .ok (.ldc 59, 2) := tb_d tk_X7_row_1 12 (23, .ldc 59, 2) rfl
theorem dX7_row_25 : decode cX7_row 25 = .ok (.ireturn, 1) := tb_d tk_X7_row_1 13 (25, .ireturn, 1) rfl
theorem dX7_row_26 : decode cX7_row 26 = .ok (.iload_n 3, 1) := tb_d tk_X7_row_1 14 (26, .iload_n 3, 1) rfl
theorem dX7_row_27 : decode cX7_row 27 = .ok (.ifCond .ge 9, 3) := tb_d tk_X7_row_1 15 (27, .ifCond .ge 9, 3) rfl
theorem dX7_row_30 : decode cX7_row 30 = .ok (.aload_n 0, 1) := tb_d tk_X7_row_1 16 (30, .aload_n 0, 1) rfl
theorem dX7_row_31 : decode cX7_row 31 = .ok (.iconst 4, 1) := tb_d tk_X7_row_1 17 (31, .iconst 4, 1) rfl
theorem dX7_row_32 : decode cX7_row 32 = .ok (.invokevirtual 60, 3) := tb_d tk_X7_row_1 18 (32, .invokevirtual 60, 3) rfl
theorem dX7_row_35 : decode cX7_row 35 = .ok (.ireturn, 1) := tb_d tk_X7_row_1 19 (35, .ireturn, 1) rfl
theorem dX7_row_36 : decode cX7_row 36 = .ok (.aload_n 0, 1) := tb_d tk_X7_row_1 20 (36, .aload_n 0, 1) rfl
theorem dX7_row_37 : decode cX7_row 37 = .ok (.getfield 11, 3) := tb_d tk_X7_row_1 21 (37, .getfield 11, 3) rfl
theorem dX7_row_40 : decode cX7_row 40 = .ok (.iload_n 1, 1) := tb_d tk_X7_row_1 22 (40, .iload_n 1, 1) rfl
theorem dX7_row_41 : decode cX7_row 41 = .ok (.aaload, 1) := tb_d tk_X7_row_1 23 (41, .aaload, 1) rfl
theorem dX7_row_42 : decode cX7_row 42 = .ok (.iload_n 2, 1) := tb_d tk_X7_row_1 24 (42, .iload_n 2, 1) rfl
theorem dX7_row_43 : decode cX7_row 43 = .ok (.iload_n 3, 1) := tb_d tk_X7_row_1 25 (43, .iload_n 3, 1) rfl
theorem dX7_row_44 : decode cX7_row 44 = .ok (.invokevirtual 64, 3) := tb_d tk_X7_row_1 26 (44, .invokevirtual 64, 3) rfl
theorem dX7_row_47 : decode cX7_row 47 = .ok (.aload_n 0, 1) := tb_d tk_X7_row_1 27 (47, .aload_n 0, 1) rfl
theorem dX7_row_48 : decode cX7_row 48 = .ok (.iload_n 3, 1) := tb_d tk_X7_row_1 28 (48, .iload_n 3, 1) rfl
theorem dX7_row_49 : decode cX7_row 49 = .ok (.invokevirtual 68, 3) := tb_d tk_X7_row_1 29 (49, .invokevirtual 68, 3) rfl
theorem dX7_row_52 : decode cX7_row 52 = .ok (.ireturn, 1) := tb_d tk_X7_row_1 30 (52, .ireturn, 1) rfl
set_option maxRecDepth 20000 in
theorem ggX7_set_X7_isRow : GoodIn wsX7_set wsX7_isRow := goodIn_r _ [7] (by decide +kernel) (by decide +kernel)
set_option maxRecDepth 20000 in
theorem gX7_set_X7_isRow : GoodIn wsX7_set (wsV RX7 55 RX7 yX7_isRow wsX7_isRow) := goodIn_app (goodIn_of _ (by decide +kernel)) ggX7_set_X7_isRow
set_option maxRecDepth 20000 in
theorem ggX7_set_X5_findingOf : GoodIn wsX7_set wsX5_findingOf := goodIn_r _ [12, 13, 14, 15, 16, 11, 17, 18, 43, 44, 45] (by decide +kernel) (by decide +kernel)
set_option maxRecDepth 20000 in
theorem gX7_set_X5_findingOf : GoodIn wsX7_set (wsV RX7 71 RX5 yX5_findingOf wsX5_findingOf) := goodIn_app (goodIn_of _ (by decide +kernel)) ggX7_set_X5_findingOf
set_option maxRecDepth 20000 in
theorem ggX7_set_X7_found : GoodIn wsX7_set wsX7_found := goodIn_r _ [22, 23, 24, 34, 35, 36, 37, 38, 39, 40, 41, 42] (by decide +kernel) (by decide +kernel)
set_option maxRecDepth 20000 in
theorem gX7_set_X7_found : GoodIn wsX7_set (wsV RX7 60 RX7 yX7_found wsX7_found) := goodIn_app (goodIn_of _ (by decide +kernel)) ggX7_set_X7_found
set_option maxRecDepth 20000 in
theorem ggX7_set_X5_put : GoodIn wsX7_set wsX5_put := goodIn_r _ [28, 29, 13, 43, 44, 45] (by decide +kernel) (by decide +kernel)
set_option maxRecDepth 20000 in
theorem gX7_set_X5_put : GoodIn wsX7_set (wsV RX7 75 RX5 yX5_put wsX5_put) := goodIn_app (goodIn_of _ (by decide +kernel)) ggX7_set_X5_put
set_option maxRecDepth 20000 in
theorem ggX7_set_X7_unfound : GoodIn wsX7_set wsX7_unfound := goodIn_r _ [33, 23, 34, 35, 36, 37, 38, 39, 40, 41, 42] (by decide +kernel) (by decide +kernel)
set_option maxRecDepth 20000 in
theorem gX7_set_X7_unfound : GoodIn wsX7_set (wsV RX7 68 RX7 yX7_unfound wsX7_unfound) := goodIn_app (goodIn_of _ (by decide +kernel)) ggX7_set_X7_unfound
def tb_X7_set_1 : List (Nat × Instr × Nat) := [(0, .aload_n 0, 1), (1, .iload_n 1, 1), (2, .invokevirtual 55, 3), (5, .ifCond .ne 6, 3), (8, .ldc 59, 2), (10, .ireturn, 1), (11, .aload_n 0, 1), (12, .getfield 11, 3), (15, .iload_n 1, 1), (16, .aaload, 1), (17, .iload_n 2, 1), (18, .iconst 1, 1), (19, .invokevirtual 71, 3), (22, .istore 4, 2), (24, .iload 4, 2), (26, .ifCond .eq 12, 3), (29, .aload_n 0, 1), (30, .iload 4, 2), (32, .invokevirtual 60, 3), (35, .goto 18, 3), (38, .aload_n 0, 1), (39, .aload_n 0, 1), (40, .getfield 11, 3), (43, .iload_n 1, 1), (44, .aaload, 1), (45, .iload_n 2, 1), (46, .iload_n 3, 1), (47, .invokevirtual 75, 3), (50, .invokevirtual 68, 3), (53, .ireturn, 1)]
set_option maxRecDepth 100000 in
theorem tk_X7_set_1 : (tb_X7_set_1.all fun q => decide (decode cX7_set q.1 = .ok q.2)) = true := by decide +kernel
theorem dX7_set_0 : decode cX7_set 0 = .ok (.aload_n 0, 1) := tb_d tk_X7_set_1 0 (0, .aload_n 0, 1) rfl
theorem dX7_set_1 : decode cX7_set 1 = .ok (.iload_n 1, 1) := tb_d tk_X7_set_1 1 (1, .iload_n 1, 1) rfl
theorem dX7_set_2 : decode cX7_set 2 = .ok (.invokevirtual 55, 3) := tb_d tk_X7_set_1 2 (2, .invokevirtual 55, 3) rfl
theorem dX7_set_5 : decode cX7_set 5 = .ok (.ifCond .ne 6, 3) := tb_d tk_X7_set_1 3 (5, .ifCond .ne 6, 3) rfl
theorem dX7_set_8 : decode cX7_set 8 = .ok (.ldc 59, 2) := tb_d tk_X7_set_1 4 (8, .ldc 59, 2) rfl
theorem dX7_set_10 : decode cX7_set 10 = .ok (.ireturn, 1) := tb_d tk_X7_set_1 5 (10, .ireturn, 1) rfl
theorem dX7_set_11 : decode cX7_set 11 = .ok (.aload_n 0, 1) := tb_d tk_X7_set_1 6 (11, .aload_n 0, 1) rfl
theorem dX7_set_12 : decode cX7_set 12 = .ok (.getfield 11, 3) := tb_d tk_X7_set_1 7 (12, .getfield 11, 3) rfl
theorem dX7_set_15 : decode cX7_set 15 = .ok (.iload_n 1, 1) := tb_d tk_X7_set_1 8 (15, .iload_n 1, 1) rfl
theorem dX7_set_16 : decode cX7_set 16 = .ok (.aaload, 1) := tb_d tk_X7_set_1 9 (16, .aaload, 1) rfl
theorem dX7_set_17 : decode cX7_set 17 = .ok (.iload_n 2, 1) := tb_d tk_X7_set_1 10 (17, .iload_n 2, 1) rfl
theorem dX7_set_18 : decode cX7_set 18 = .ok (.iconst 1, 1) := tb_d tk_X7_set_1 11 (18, .iconst 1, 1) rfl
theorem dX7_set_19 : decode cX7_set 19 = .ok (.invokevirtual 71, 3) := tb_d tk_X7_set_1 12 (19, .invokevirtual 71, 3) rfl
theorem dX7_set_22 : decode cX7_set 22 = .ok (.istore 4, 2) := tb_d tk_X7_set_1 13 (22, .istore 4, 2) rfl
theorem dX7_set_24 : decode cX7_set 24 = .ok (.iload 4, 2) := tb_d tk_X7_set_1 14 (24, .iload 4, 2) rfl
theorem dX7_set_26 : decode cX7_set 26 = .ok (.ifCond .eq 12, 3) := tb_d tk_X7_set_1 15 (26, .ifCond .eq 12, 3) rfl
theorem dX7_set_29 : decode cX7_set 29 = .ok (.aload_n 0, 1) := tb_d tk_X7_set_1 16 (29, .aload_n 0, 1) rfl
theorem dX7_set_30 : decode cX7_set 30 = .ok (.iload 4, 2) := tb_d tk_X7_set_1 17 (30, .iload 4, 2) rfl
theorem dX7_set_32 : decode cX7_set 32 = .ok (.invokevirtual 60, 3) := tb_d tk_X7_set_1 18 (32, .invokevirtual 60, 3) rfl
theorem dX7_set_35 : decode cX7_set 35 = .ok (.goto 18, 3) := tb_d tk_X7_set_1 19 (35, .goto 18, 3) rfl
theorem dX7_set_38 : decode cX7_set 38 = .ok (.aload_n 0, 1) := tb_d tk_X7_set_1 20 (38, .aload_n 0, 1) rfl
theorem dX7_set_39 : decode cX7_set 39 = .ok (.aload_n 0, 1) := tb_d tk_X7_set_1 21 (39, .aload_n 0, 1) rfl
theorem dX7_set_40 : decode cX7_set 40 = .ok (.getfield 11, 3) := tb_d tk_X7_set_1 22 (40, .getfield 11, 3) rfl
theorem dX7_set_43 : decode cX7_set 43 = .ok (.iload_n 1, 1) := tb_d tk_X7_set_1 23 (43, .iload_n 1, 1) rfl
theorem dX7_set_44 : decode cX7_set 44 = .ok (.aaload, 1) := tb_d tk_X7_set_1 24 (44, .aaload, 1) rfl
theorem dX7_set_45 : decode cX7_set 45 = .ok (.iload_n 2, 1) := tb_d tk_X7_set_1 25 (45, .iload_n 2, 1) rfl
theorem dX7_set_46 : decode cX7_set 46 = .ok (.iload_n 3, 1) := tb_d tk_X7_set_1 26 (46, .iload_n 3, 1) rfl
theorem dX7_set_47 : decode cX7_set 47 = .ok (.invokevirtual 75, 3) := tb_d tk_X7_set_1 27 (47, .invokevirtual 75, 3) rfl
theorem dX7_set_50 : decode cX7_set 50 = .ok (.invokevirtual 68, 3) := tb_d tk_X7_set_1 28 (50, .invokevirtual 68, 3) rfl
theorem dX7_set_53 : decode cX7_set 53 = .ok (.ireturn, 1) := tb_d tk_X7_set_1 29 (53, .ireturn, 1) rfl
set_option maxRecDepth 20000 in
theorem ggX7_copy_X7_isRow : GoodIn wsX7_copy wsX7_isRow := goodIn_r _ [13] (by decide +kernel) (by decide +kernel)
set_option maxRecDepth 20000 in
theorem gX7_copy_X7_isRow : GoodIn wsX7_copy (wsV RX7 55 RX7 yX7_isRow wsX7_isRow) := goodIn_app (goodIn_of _ (by decide +kernel)) ggX7_copy_X7_isRow
set_option maxRecDepth 20000 in
theorem ggX7_copy_X7_found : GoodIn wsX7_copy wsX7_found := goodIn_r _ [17, 18, 19, 30, 31, 32, 33, 34, 35, 36, 37, 38] (by decide +kernel) (by decide +kernel)
set_option maxRecDepth 20000 in
theorem gX7_copy_X7_found : GoodIn wsX7_copy (wsV RX7 60 RX7 yX7_found wsX7_found) := goodIn_app (goodIn_of _ (by decide +kernel)) ggX7_copy_X7_found
set_option maxRecDepth 20000 in
theorem ggX7_copy_X5_reaches : GoodIn wsX7_copy wsX5_reaches := goodIn_r _ [24, 25, 39, 40, 41] (by decide +kernel) (by decide +kernel)
set_option maxRecDepth 20000 in
theorem gX7_copy_X5_reaches : GoodIn wsX7_copy (wsV RX7 82 RX5 yX5_reaches wsX5_reaches) := goodIn_app (goodIn_of _ (by decide +kernel)) ggX7_copy_X5_reaches
set_option maxRecDepth 20000 in
theorem ggX7_copy_X7_unfound : GoodIn wsX7_copy wsX7_unfound := goodIn_r _ [29, 18, 30, 31, 32, 33, 34, 35, 36, 37, 38] (by decide +kernel) (by decide +kernel)
set_option maxRecDepth 20000 in
theorem gX7_copy_X7_unfound : GoodIn wsX7_copy (wsV RX7 68 RX7 yX7_unfound wsX7_unfound) := goodIn_app (goodIn_of _ (by decide +kernel)) ggX7_copy_X7_unfound
def tb_X7_copy_1 : List (Nat × Instr × Nat) := [(0, .aload_n 0, 1), (1, .iload_n 1, 1), (2, .invokevirtual 55, 3), (5, .ifCond .eq 11, 3), (8, .aload_n 0, 1), (9, .iload_n 3, 1), (10, .invokevirtual 55, 3), (13, .ifCond .ne 6, 3), (16, .ldc 59, 2), (18, .ireturn, 1), (19, .aload_n 0, 1), (20, .getfield 11, 3), (23, .iload_n 1, 1), (24, .aaload, 1), (25, .astore 6, 2), (27, .aload_n 0, 1), (28, .getfield 11, 3), (31, .iload_n 3, 1), (32, .aaload, 1), (33, .astore 7, 2), (35, .aload 6, 2), (37, .getfield 78, 3), (40, .iconst (-1), 1), (41, .if_icmp .eq 12, 3), (44, .aload 7, 2), (46, .getfield 78, 3), (49, .iconst (-1), 1), (50, .if_icmp .ne 9, 3), (53, .aload_n 0, 1), (54, .iconst 1, 1), (55, .invokevirtual 60, 3), (58, .ireturn, 1), (59, .aload 6, 2), (61, .getfield 78, 3), (64, .aload 7, 2), (66, .getfield 78, 3), (69, .if_icmp .eq 9, 3), (72, .aload_n 0, 1), (73, .iconst 5, 1), (74, .invokevirtual 60, 3)]
set_option maxRecDepth 100000 in
theorem tk_X7_copy_1 : (tb_X7_copy_1.all fun q => decide (decode cX7_copy q.1 = .ok q.2)) = true := by decide +kernel
theorem dX7_copy_0 : decode cX7_copy 0 = .ok (.aload_n 0, 1) := tb_d tk_X7_copy_1 0 (0, .aload_n 0, 1) rfl
theorem dX7_copy_1 : decode cX7_copy 1 = .ok (.iload_n 1, 1) := tb_d tk_X7_copy_1 1 (1, .iload_n 1, 1) rfl
theorem dX7_copy_2 : decode cX7_copy 2 = .ok (.invokevirtual 55, 3) := tb_d tk_X7_copy_1 2 (2, .invokevirtual 55, 3) rfl
theorem dX7_copy_5 : decode cX7_copy 5 = .ok (.ifCond .eq 11, 3) := tb_d tk_X7_copy_1 3 (5, .ifCond .eq 11, 3) rfl
theorem dX7_copy_8 : decode cX7_copy 8 = .ok (.aload_n 0, 1) := tb_d tk_X7_copy_1 4 (8, .aload_n 0, 1) rfl
theorem dX7_copy_9 : decode cX7_copy 9 = .ok (.iload_n 3, 1) := tb_d tk_X7_copy_1 5 (9, .iload_n 3, 1) rfl
theorem dX7_copy_10 : decode cX7_copy 10 = .ok (.invokevirtual 55, 3) := tb_d tk_X7_copy_1 6 (10, .invokevirtual 55, 3) rfl
theorem dX7_copy_13 : decode cX7_copy 13 = .ok (.ifCond .ne 6, 3) := tb_d tk_X7_copy_1 7 (13, .ifCond .ne 6, 3) rfl
theorem dX7_copy_16 : decode cX7_copy 16 = .ok (.ldc 59, 2) := tb_d tk_X7_copy_1 8 (16, .ldc 59, 2) rfl
theorem dX7_copy_18 : decode cX7_copy 18 = .ok (.ireturn, 1) := tb_d tk_X7_copy_1 9 (18, .ireturn, 1) rfl
theorem dX7_copy_19 : decode cX7_copy 19 = .ok (.aload_n 0, 1) := tb_d tk_X7_copy_1 10 (19, .aload_n 0, 1) rfl
theorem dX7_copy_20 : decode cX7_copy 20 = .ok (.getfield 11, 3) := tb_d tk_X7_copy_1 11 (20, .getfield 11, 3) rfl
theorem dX7_copy_23 : decode cX7_copy 23 = .ok (.iload_n 1, 1) := tb_d tk_X7_copy_1 12 (23, .iload_n 1, 1) rfl
theorem dX7_copy_24 : decode cX7_copy 24 = .ok (.aaload, 1) := tb_d tk_X7_copy_1 13 (24, .aaload, 1) rfl
theorem dX7_copy_25 : decode cX7_copy 25 = .ok (.astore 6, 2) := tb_d tk_X7_copy_1 14 (25, .astore 6, 2) rfl
theorem dX7_copy_27 : decode cX7_copy 27 = .ok (.aload_n 0, 1) := tb_d tk_X7_copy_1 15 (27, .aload_n 0, 1) rfl
theorem dX7_copy_28 : decode cX7_copy 28 = .ok (.getfield 11, 3) := tb_d tk_X7_copy_1 16 (28, .getfield 11, 3) rfl
theorem dX7_copy_31 : decode cX7_copy 31 = .ok (.iload_n 3, 1) := tb_d tk_X7_copy_1 17 (31, .iload_n 3, 1) rfl
theorem dX7_copy_32 : decode cX7_copy 32 = .ok (.aaload, 1) := tb_d tk_X7_copy_1 18 (32, .aaload, 1) rfl
theorem dX7_copy_33 : decode cX7_copy 33 = .ok (.astore 7, 2) := tb_d tk_X7_copy_1 19 (33, .astore 7, 2) rfl
theorem dX7_copy_35 : decode cX7_copy 35 = .ok (.aload 6, 2) := tb_d tk_X7_copy_1 20 (35, .aload 6, 2) rfl
theorem dX7_copy_37 : decode cX7_copy 37 = .ok (.getfield 78, 3) := tb_d tk_X7_copy_1 21 (37, .getfield 78, 3) rfl
theorem dX7_copy_40 : decode cX7_copy 40 = .ok (.iconst (-1), 1) := tb_d tk_X7_copy_1 22 (40, .iconst (-1), 1) rfl
theorem dX7_copy_41 : decode cX7_copy 41 = .ok (.if_icmp .eq 12, 3) := tb_d tk_X7_copy_1 23 (41, .if_icmp .eq 12, 3) rfl
theorem dX7_copy_44 : decode cX7_copy 44 = .ok (.aload 7, 2) := tb_d tk_X7_copy_1 24 (44, .aload 7, 2) rfl
theorem dX7_copy_46 : decode cX7_copy 46 = .ok (.getfield 78, 3) := tb_d tk_X7_copy_1 25 (46, .getfield 78, 3) rfl
theorem dX7_copy_49 : decode cX7_copy 49 = .ok (.iconst (-1), 1) := tb_d tk_X7_copy_1 26 (49, .iconst (-1), 1) rfl
theorem dX7_copy_50 : decode cX7_copy 50 = .ok (.if_icmp .ne 9, 3) := tb_d tk_X7_copy_1 27 (50, .if_icmp .ne 9, 3) rfl
theorem dX7_copy_53 : decode cX7_copy 53 = .ok (.aload_n 0, 1) := tb_d tk_X7_copy_1 28 (53, .aload_n 0, 1) rfl
theorem dX7_copy_54 : decode cX7_copy 54 = .ok (.iconst 1, 1) := tb_d tk_X7_copy_1 29 (54, .iconst 1, 1) rfl
theorem dX7_copy_55 : decode cX7_copy 55 = .ok (.invokevirtual 60, 3) := tb_d tk_X7_copy_1 30 (55, .invokevirtual 60, 3) rfl
theorem dX7_copy_58 : decode cX7_copy 58 = .ok (.ireturn, 1) := tb_d tk_X7_copy_1 31 (58, .ireturn, 1) rfl
theorem dX7_copy_59 : decode cX7_copy 59 = .ok (.aload 6, 2) := tb_d tk_X7_copy_1 32 (59, .aload 6, 2) rfl
theorem dX7_copy_61 : decode cX7_copy 61 = .ok (.getfield 78, 3) := tb_d tk_X7_copy_1 33 (61, .getfield 78, 3) rfl
theorem dX7_copy_64 : decode cX7_copy 64 = .ok (.aload 7, 2) := tb_d tk_X7_copy_1 34 (64, .aload 7, 2) rfl
theorem dX7_copy_66 : decode cX7_copy 66 = .ok (.getfield 78, 3) := tb_d tk_X7_copy_1 35 (66, .getfield 78, 3) rfl
theorem dX7_copy_69 : decode cX7_copy 69 = .ok (.if_icmp .eq 9, 3) := tb_d tk_X7_copy_1 36 (69, .if_icmp .eq 9, 3) rfl
theorem dX7_copy_72 : decode cX7_copy 72 = .ok (.aload_n 0, 1) := tb_d tk_X7_copy_1 37 (72, .aload_n 0, 1) rfl
theorem dX7_copy_73 : decode cX7_copy 73 = .ok (.iconst 5, 1) := tb_d tk_X7_copy_1 38 (73, .iconst 5, 1) rfl
theorem dX7_copy_74 : decode cX7_copy 74 = .ok (.invokevirtual 60, 3) := tb_d tk_X7_copy_1 39 (74, .invokevirtual 60, 3) rfl
def tb_X7_copy_2 : List (Nat × Instr × Nat) := [(77, .ireturn, 1), (78, .aload 6, 2), (80, .iload_n 2, 1), (81, .iload 5, 2), (83, .invokevirtual 82, 3), (86, .ifCond .eq 15, 3), (89, .aload 7, 2), (91, .iload 4, 2), (93, .iload 5, 2), (95, .invokevirtual 82, 3), (98, .ifCond .ne 9, 3), (101, .aload_n 0, 1), (102, .iconst 2, 1), (103, .invokevirtual 60, 3), (106, .ireturn, 1), (107, .aload 6, 2), (109, .getfield 86, 3), (112, .iload_n 2, 1), (113, .aload 7, 2), (115, .getfield 86, 3), (118, .iload 4, 2), (120, .iload 5, 2), (122, .invokestatic 90, 3), (125, .aload_n 0, 1), (126, .iload 5, 2), (128, .invokevirtual 68, 3), (131, .ireturn, 1)]
set_option maxRecDepth 100000 in
theorem tk_X7_copy_2 : (tb_X7_copy_2.all fun q => decide (decode cX7_copy q.1 = .ok q.2)) = true := by decide +kernel
theorem dX7_copy_77 : decode cX7_copy 77 = .ok (.ireturn, 1) := tb_d tk_X7_copy_2 0 (77, .ireturn, 1) rfl
theorem dX7_copy_78 : decode cX7_copy 78 = .ok (.aload 6, 2) := tb_d tk_X7_copy_2 1 (78, .aload 6, 2) rfl
theorem dX7_copy_80 : decode cX7_copy 80 = .ok (.iload_n 2, 1) := tb_d tk_X7_copy_2 2 (80, .iload_n 2, 1) rfl
theorem dX7_copy_81 : decode cX7_copy 81 = .ok (.iload 5, 2) := tb_d tk_X7_copy_2 3 (81, .iload 5, 2) rfl
theorem dX7_copy_83 : decode cX7_copy 83 = .ok (.invokevirtual 82, 3) := tb_d tk_X7_copy_2 4 (83, .invokevirtual 82, 3) rfl
theorem dX7_copy_86 : decode cX7_copy 86 = .ok (.ifCond .eq 15, 3) := tb_d tk_X7_copy_2 5 (86, .ifCond .eq 15, 3) rfl
theorem dX7_copy_89 : decode cX7_copy 89 = .ok (.aload 7, 2) := tb_d tk_X7_copy_2 6 (89, .aload 7, 2) rfl
theorem dX7_copy_91 : decode cX7_copy 91 = .ok (.iload 4, 2) := tb_d tk_X7_copy_2 7 (91, .iload 4, 2) rfl
theorem dX7_copy_93 : decode cX7_copy 93 = .ok (.iload 5, 2) := tb_d tk_X7_copy_2 8 (93, .iload 5, 2) rfl
theorem dX7_copy_95 : decode cX7_copy 95 = .ok (.invokevirtual 82, 3) := tb_d tk_X7_copy_2 9 (95, .invokevirtual 82, 3) rfl
theorem dX7_copy_98 : decode cX7_copy 98 = .ok (.ifCond .ne 9, 3) := tb_d tk_X7_copy_2 10 (98, .ifCond .ne 9, 3) rfl
theorem dX7_copy_101 : decode cX7_copy 101 = .ok (.aload_n 0, 1) := tb_d tk_X7_copy_2 11 (101, .aload_n 0, 1) rfl
theorem dX7_copy_102 : decode cX7_copy 102 = .ok (.iconst 2, 1) := tb_d tk_X7_copy_2 12 (102, .iconst 2, 1) rfl
theorem dX7_copy_103 : decode cX7_copy 103 = .ok (.invokevirtual 60, 3) := tb_d tk_X7_copy_2 13 (103, .invokevirtual 60, 3) rfl
theorem dX7_copy_106 : decode cX7_copy 106 = .ok (.ireturn, 1) := tb_d tk_X7_copy_2 14 (106, .ireturn, 1) rfl
theorem dX7_copy_107 : decode cX7_copy 107 = .ok (.aload 6, 2) := tb_d tk_X7_copy_2 15 (107, .aload 6, 2) rfl
theorem dX7_copy_109 : decode cX7_copy 109 = .ok (.getfield 86, 3) := tb_d tk_X7_copy_2 16 (109, .getfield 86, 3) rfl
theorem dX7_copy_112 : decode cX7_copy 112 = .ok (.iload_n 2, 1) := tb_d tk_X7_copy_2 17 (112, .iload_n 2, 1) rfl
theorem dX7_copy_113 : decode cX7_copy 113 = .ok (.aload 7, 2) := tb_d tk_X7_copy_2 18 (113, .aload 7, 2) rfl
theorem dX7_copy_115 : decode cX7_copy 115 = .ok (.getfield 86, 3) := tb_d tk_X7_copy_2 19 (115, .getfield 86, 3) rfl
theorem dX7_copy_118 : decode cX7_copy 118 = .ok (.iload 4, 2) := tb_d tk_X7_copy_2 20 (118, .iload 4, 2) rfl
theorem dX7_copy_120 : decode cX7_copy 120 = .ok (.iload 5, 2) := tb_d tk_X7_copy_2 21 (120, .iload 5, 2) rfl
theorem dX7_copy_122 : decode cX7_copy 122 = .ok (.invokestatic 90, 3) := tb_d tk_X7_copy_2 22 (122, .invokestatic 90, 3) rfl
theorem dX7_copy_125 : decode cX7_copy 125 = .ok (.aload_n 0, 1) := tb_d tk_X7_copy_2 23 (125, .aload_n 0, 1) rfl
theorem dX7_copy_126 : decode cX7_copy 126 = .ok (.iload 5, 2) := tb_d tk_X7_copy_2 24 (126, .iload 5, 2) rfl
theorem dX7_copy_128 : decode cX7_copy 128 = .ok (.invokevirtual 68, 3) := tb_d tk_X7_copy_2 25 (128, .invokevirtual 68, 3) rfl
theorem dX7_copy_131 : decode cX7_copy 131 = .ok (.ireturn, 1) := tb_d tk_X7_copy_2 26 (131, .ireturn, 1) rfl
set_option maxRecDepth 20000 in
theorem ggX7_drop_X7_isRow : GoodIn wsX7_drop wsX7_isRow := goodIn_r _ [9] (by decide +kernel) (by decide +kernel)
set_option maxRecDepth 20000 in
theorem gX7_drop_X7_isRow : GoodIn wsX7_drop (wsV RX7 55 RX7 yX7_isRow wsX7_isRow) := goodIn_app (goodIn_of _ (by decide +kernel)) ggX7_drop_X7_isRow
set_option maxRecDepth 20000 in
theorem ggX7_drop_X7_found : GoodIn wsX7_drop wsX7_found := goodIn_r _ [13, 14, 15, 20, 21, 22, 23, 24, 25, 26, 27, 28] (by decide +kernel) (by decide +kernel)
set_option maxRecDepth 20000 in
theorem gX7_drop_X7_found : GoodIn wsX7_drop (wsV RX7 60 RX7 yX7_found wsX7_found) := goodIn_app (goodIn_of _ (by decide +kernel)) ggX7_drop_X7_found
set_option maxRecDepth 20000 in
theorem ggX7_drop_X7_unfound : GoodIn wsX7_drop wsX7_unfound := goodIn_r _ [19, 14, 20, 21, 22, 23, 24, 25, 26, 27, 28] (by decide +kernel) (by decide +kernel)
set_option maxRecDepth 20000 in
theorem gX7_drop_X7_unfound : GoodIn wsX7_drop (wsV RX7 68 RX7 yX7_unfound wsX7_unfound) := goodIn_app (goodIn_of _ (by decide +kernel)) ggX7_drop_X7_unfound
def tb_X7_drop_1 : List (Nat × Instr × Nat) := [(0, .aload_n 0, 1), (1, .iload_n 1, 1), (2, .invokevirtual 55, 3), (5, .ifCond .ne 6, 3), (8, .ldc 59, 2), (10, .ireturn, 1), (11, .aload_n 0, 1), (12, .getfield 11, 3), (15, .iload_n 1, 1), (16, .aaload, 1), (17, .getfield 78, 3), (20, .iconst (-1), 1), (21, .if_icmp .ne 9, 3), (24, .aload_n 0, 1), (25, .iconst 1, 1), (26, .invokevirtual 60, 3), (29, .ireturn, 1), (30, .aload_n 0, 1), (31, .getfield 11, 3), (34, .iload_n 1, 1), (35, .aaload, 1), (36, .iconst (-1), 1), (37, .putfield 78, 3), (40, .aload_n 0, 1), (41, .aload_n 0, 1), (42, .getfield 11, 3), (45, .iload_n 1, 1), (46, .aaload, 1), (47, .getfield 96, 3), (50, .invokevirtual 68, 3), (53, .ireturn, 1)]
set_option maxRecDepth 100000 in
theorem tk_X7_drop_1 : (tb_X7_drop_1.all fun q => decide (decode cX7_drop q.1 = .ok q.2)) = true := by decide +kernel
theorem dX7_drop_0 : decode cX7_drop 0 = .ok (.aload_n 0, 1) := tb_d tk_X7_drop_1 0 (0, .aload_n 0, 1) rfl
theorem dX7_drop_1 : decode cX7_drop 1 = .ok (.iload_n 1, 1) := tb_d tk_X7_drop_1 1 (1, .iload_n 1, 1) rfl
theorem dX7_drop_2 : decode cX7_drop 2 = .ok (.invokevirtual 55, 3) := tb_d tk_X7_drop_1 2 (2, .invokevirtual 55, 3) rfl
theorem dX7_drop_5 : decode cX7_drop 5 = .ok (.ifCond .ne 6, 3) := tb_d tk_X7_drop_1 3 (5, .ifCond .ne 6, 3) rfl
theorem dX7_drop_8 : decode cX7_drop 8 = .ok (.ldc 59, 2) := tb_d tk_X7_drop_1 4 (8, .ldc 59, 2) rfl
theorem dX7_drop_10 : decode cX7_drop 10 = .ok (.ireturn, 1) := tb_d tk_X7_drop_1 5 (10, .ireturn, 1) rfl
theorem dX7_drop_11 : decode cX7_drop 11 = .ok (.aload_n 0, 1) := tb_d tk_X7_drop_1 6 (11, .aload_n 0, 1) rfl
theorem dX7_drop_12 : decode cX7_drop 12 = .ok (.getfield 11, 3) := tb_d tk_X7_drop_1 7 (12, .getfield 11, 3) rfl
theorem dX7_drop_15 : decode cX7_drop 15 = .ok (.iload_n 1, 1) := tb_d tk_X7_drop_1 8 (15, .iload_n 1, 1) rfl
theorem dX7_drop_16 : decode cX7_drop 16 = .ok (.aaload, 1) := tb_d tk_X7_drop_1 9 (16, .aaload, 1) rfl
theorem dX7_drop_17 : decode cX7_drop 17 = .ok (.getfield 78, 3) := tb_d tk_X7_drop_1 10 (17, .getfield 78, 3) rfl
theorem dX7_drop_20 : decode cX7_drop 20 = .ok (.iconst (-1), 1) := tb_d tk_X7_drop_1 11 (20, .iconst (-1), 1) rfl
theorem dX7_drop_21 : decode cX7_drop 21 = .ok (.if_icmp .ne 9, 3) := tb_d tk_X7_drop_1 12 (21, .if_icmp .ne 9, 3) rfl
theorem dX7_drop_24 : decode cX7_drop 24 = .ok (.aload_n 0, 1) := tb_d tk_X7_drop_1 13 (24, .aload_n 0, 1) rfl
theorem dX7_drop_25 : decode cX7_drop 25 = .ok (.iconst 1, 1) := tb_d tk_X7_drop_1 14 (25, .iconst 1, 1) rfl
theorem dX7_drop_26 : decode cX7_drop 26 = .ok (.invokevirtual 60, 3) := tb_d tk_X7_drop_1 15 (26, .invokevirtual 60, 3) rfl
theorem dX7_drop_29 : decode cX7_drop 29 = .ok (.ireturn, 1) := tb_d tk_X7_drop_1 16 (29, .ireturn, 1) rfl
theorem dX7_drop_30 : decode cX7_drop 30 = .ok (.aload_n 0, 1) := tb_d tk_X7_drop_1 17 (30, .aload_n 0, 1) rfl
theorem dX7_drop_31 : decode cX7_drop 31 = .ok (.getfield 11, 3) := tb_d tk_X7_drop_1 18 (31, .getfield 11, 3) rfl
theorem dX7_drop_34 : decode cX7_drop 34 = .ok (.iload_n 1, 1) := tb_d tk_X7_drop_1 19 (34, .iload_n 1, 1) rfl
theorem dX7_drop_35 : decode cX7_drop 35 = .ok (.aaload, 1) := tb_d tk_X7_drop_1 20 (35, .aaload, 1) rfl
theorem dX7_drop_36 : decode cX7_drop 36 = .ok (.iconst (-1), 1) := tb_d tk_X7_drop_1 21 (36, .iconst (-1), 1) rfl
theorem dX7_drop_37 : decode cX7_drop 37 = .ok (.putfield 78, 3) := tb_d tk_X7_drop_1 22 (37, .putfield 78, 3) rfl
theorem dX7_drop_40 : decode cX7_drop 40 = .ok (.aload_n 0, 1) := tb_d tk_X7_drop_1 23 (40, .aload_n 0, 1) rfl
theorem dX7_drop_41 : decode cX7_drop 41 = .ok (.aload_n 0, 1) := tb_d tk_X7_drop_1 24 (41, .aload_n 0, 1) rfl
theorem dX7_drop_42 : decode cX7_drop 42 = .ok (.getfield 11, 3) := tb_d tk_X7_drop_1 25 (42, .getfield 11, 3) rfl
theorem dX7_drop_45 : decode cX7_drop 45 = .ok (.iload_n 1, 1) := tb_d tk_X7_drop_1 26 (45, .iload_n 1, 1) rfl
theorem dX7_drop_46 : decode cX7_drop 46 = .ok (.aaload, 1) := tb_d tk_X7_drop_1 27 (46, .aaload, 1) rfl
theorem dX7_drop_47 : decode cX7_drop 47 = .ok (.getfield 96, 3) := tb_d tk_X7_drop_1 28 (47, .getfield 96, 3) rfl
theorem dX7_drop_50 : decode cX7_drop 50 = .ok (.invokevirtual 68, 3) := tb_d tk_X7_drop_1 29 (50, .invokevirtual 68, 3) rfl
theorem dX7_drop_53 : decode cX7_drop 53 = .ok (.ireturn, 1) := tb_d tk_X7_drop_1 30 (53, .ireturn, 1) rfl
set_option maxRecDepth 20000 in
theorem ggX7_feed_X6_append : GoodIn wsX7_feed wsX6_append := goodIn_r _ [9, 10, 11, 21, 22, 23, 24, 25, 26, 27] (by decide +kernel) (by decide +kernel)
set_option maxRecDepth 20000 in
theorem gX7_feed_X6_append : GoodIn wsX7_feed (wsV RX7 99 RX6 yX6_append wsX6_append) := goodIn_app (goodIn_of _ (by decide +kernel)) ggX7_feed_X6_append
def tb_X7_feed_1 : List (Nat × Instr × Nat) := [(0, .iload_n 1, 1), (1, .ifCond .lt 10, 3), (4, .iload_n 1, 1), (5, .sipush 255, 3), (8, .if_icmp .le 6, 3), (11, .ldc 59, 2), (13, .ireturn, 1), (14, .aload_n 0, 1), (15, .getfield 18, 3), (18, .iload_n 1, 1), (19, .invokevirtual 99, 3), (22, .ifCond .eq 13, 3), (25, .aload_n 0, 1), (26, .getfield 18, 3), (29, .getfield 102, 3), (32, .goto 5, 3), (35, .ldc 105, 2), (37, .ireturn, 1)]
set_option maxRecDepth 100000 in
theorem tk_X7_feed_1 : (tb_X7_feed_1.all fun q => decide (decode cX7_feed q.1 = .ok q.2)) = true := by decide +kernel
theorem dX7_feed_0 : decode cX7_feed 0 = .ok (.iload_n 1, 1) := tb_d tk_X7_feed_1 0 (0, .iload_n 1, 1) rfl
theorem dX7_feed_1 : decode cX7_feed 1 = .ok (.ifCond .lt 10, 3) := tb_d tk_X7_feed_1 1 (1, .ifCond .lt 10, 3) rfl
theorem dX7_feed_4 : decode cX7_feed 4 = .ok (.iload_n 1, 1) := tb_d tk_X7_feed_1 2 (4, .iload_n 1, 1) rfl
theorem dX7_feed_5 : decode cX7_feed 5 = .ok (.sipush 255, 3) := tb_d tk_X7_feed_1 3 (5, .sipush 255, 3) rfl
theorem dX7_feed_8 : decode cX7_feed 8 = .ok (.if_icmp .le 6, 3) := tb_d tk_X7_feed_1 4 (8, .if_icmp .le 6, 3) rfl
theorem dX7_feed_11 : decode cX7_feed 11 = .ok (.ldc 59, 2) := tb_d tk_X7_feed_1 5 (11, .ldc 59, 2) rfl
theorem dX7_feed_13 : decode cX7_feed 13 = .ok (.ireturn, 1) := tb_d tk_X7_feed_1 6 (13, .ireturn, 1) rfl
theorem dX7_feed_14 : decode cX7_feed 14 = .ok (.aload_n 0, 1) := tb_d tk_X7_feed_1 7 (14, .aload_n 0, 1) rfl
theorem dX7_feed_15 : decode cX7_feed 15 = .ok (.getfield 18, 3) := tb_d tk_X7_feed_1 8 (15, .getfield 18, 3) rfl
theorem dX7_feed_18 : decode cX7_feed 18 = .ok (.iload_n 1, 1) := tb_d tk_X7_feed_1 9 (18, .iload_n 1, 1) rfl
theorem dX7_feed_19 : decode cX7_feed 19 = .ok (.invokevirtual 99, 3) := tb_d tk_X7_feed_1 10 (19, .invokevirtual 99, 3) rfl
theorem dX7_feed_22 : decode cX7_feed 22 = .ok (.ifCond .eq 13, 3) := tb_d tk_X7_feed_1 11 (22, .ifCond .eq 13, 3) rfl
theorem dX7_feed_25 : decode cX7_feed 25 = .ok (.aload_n 0, 1) := tb_d tk_X7_feed_1 12 (25, .aload_n 0, 1) rfl
theorem dX7_feed_26 : decode cX7_feed 26 = .ok (.getfield 18, 3) := tb_d tk_X7_feed_1 13 (26, .getfield 18, 3) rfl
theorem dX7_feed_29 : decode cX7_feed 29 = .ok (.getfield 102, 3) := tb_d tk_X7_feed_1 14 (29, .getfield 102, 3) rfl
theorem dX7_feed_32 : decode cX7_feed 32 = .ok (.goto 5, 3) := tb_d tk_X7_feed_1 15 (32, .goto 5, 3) rfl
theorem dX7_feed_35 : decode cX7_feed 35 = .ok (.ldc 105, 2) := tb_d tk_X7_feed_1 16 (35, .ldc 105, 2) rfl
theorem dX7_feed_37 : decode cX7_feed 37 = .ok (.ireturn, 1) := tb_d tk_X7_feed_1 17 (37, .ireturn, 1) rfl
set_option maxRecDepth 20000 in
theorem ggX7_gate_X6_read : GoodIn wsX7_gate wsX6_read := goodIn_r _ [15, 16, 17, 18, 19, 20, 21, 22, 23, 14, 24, 25, 26, 27, 28, 29, 30, 31, 32, 33, 34, 35, 36, 37, 38, 39, 40, 41, 42, 43, 44, 45, 46, 47, 48, 49, 50, 51, 52, 53, 54, 55, 56, 57, 58, 59, 60, 61, 62, 63, 64, 65, 66, 67, 68, 69, 70, 71, 72, 73, 74, 75, 76, 77, 78, 79, 80, 81, 82, 83, 84, 85, 125, 126, 127, 128, 129, 130, 131, 132, 133, 134, 135, 136, 137, 138, 139, 140, 141, 142, 143, 144, 145, 146, 147] (by decide +kernel) (by decide +kernel)
set_option maxRecDepth 20000 in
theorem gX7_gate_X6_read : GoodIn wsX7_gate (wsV RX7 106 RX6 yX6_read wsX6_read) := goodIn_app (goodIn_of _ (by decide +kernel)) ggX7_gate_X6_read
set_option maxRecDepth 20000 in
theorem ggX7_gate_X2_become : GoodIn wsX7_gate wsX2_become := goodIn_r _ [89, 66, 90, 91, 92, 93, 94, 95, 96, 97, 98, 99, 100, 101, 102, 103, 80, 104, 82, 105, 83, 84, 85, 106, 107, 108, 109, 132, 133, 134, 135, 136, 137, 138, 139, 140, 141, 142, 143, 144, 145, 146, 147] (by decide +kernel) (by decide +kernel)
set_option maxRecDepth 20000 in
theorem gX7_gate_X2_become : GoodIn wsX7_gate (wsV RX7 123 RX2 yX2_become wsX2_become) := goodIn_app (goodIn_of _ (by decide +kernel)) ggX7_gate_X2_become
set_option maxRecDepth 20000 in
theorem ggX7_gate_X0_forget : GoodIn wsX7_gate wsX0_forget := goodIn_r _ [114, 115, 148, 149, 150] (by decide +kernel) (by decide +kernel)
set_option maxRecDepth 20000 in
theorem gX7_gate_X0_forget : GoodIn wsX7_gate (wsV RX7 127 RX0 yX0_forget wsX0_forget) := goodIn_app (goodIn_of _ (by decide +kernel)) ggX7_gate_X0_forget
def tb_X7_gate_1 : List (Nat × Instr × Nat) := [(0, .aload_n 0, 1), (1, .getfield 18, 3), (4, .invokevirtual 106, 3), (7, .istore_n 1, 1), (8, .aload_n 0, 1), (9, .getfield 18, 3), (12, .iconst 0, 1), (13, .putfield 102, 3), (16, .iload_n 1, 1), (17, .ifCond .ne 25, 3), (20, .aload_n 0, 1), (21, .aload_n 0, 1), (22, .getfield 18, 3), (25, .getfield 110, 3), (28, .putfield 113, 3), (31, .ldc 116, 2), (33, .aload_n 0, 1), (34, .getfield 18, 3), (37, .getfield 117, 3), (40, .isub, 1), (41, .ireturn, 1), (42, .aload_n 0, 1), (43, .getfield 25, 3), (46, .aload_n 0, 1), (47, .getfield 18, 3), (50, .getfield 120, 3), (53, .invokevirtual 123, 3), (56, .aload_n 0, 1), (57, .getfield 32, 3), (60, .invokevirtual 127, 3), (63, .aload_n 0, 1), (64, .getfield 25, 3), (67, .getfield 130, 3), (70, .ireturn, 1)]
set_option maxRecDepth 100000 in
theorem tk_X7_gate_1 : (tb_X7_gate_1.all fun q => decide (decode cX7_gate q.1 = .ok q.2)) = true := by decide +kernel
theorem dX7_gate_0 : decode cX7_gate 0 = .ok (.aload_n 0, 1) := tb_d tk_X7_gate_1 0 (0, .aload_n 0, 1) rfl
theorem dX7_gate_1 : decode cX7_gate 1 = .ok (.getfield 18, 3) := tb_d tk_X7_gate_1 1 (1, .getfield 18, 3) rfl
theorem dX7_gate_4 : decode cX7_gate 4 = .ok (.invokevirtual 106, 3) := tb_d tk_X7_gate_1 2 (4, .invokevirtual 106, 3) rfl
theorem dX7_gate_7 : decode cX7_gate 7 = .ok (.istore_n 1, 1) := tb_d tk_X7_gate_1 3 (7, .istore_n 1, 1) rfl
theorem dX7_gate_8 : decode cX7_gate 8 = .ok (.aload_n 0, 1) := tb_d tk_X7_gate_1 4 (8, .aload_n 0, 1) rfl
theorem dX7_gate_9 : decode cX7_gate 9 = .ok (.getfield 18, 3) := tb_d tk_X7_gate_1 5 (9, .getfield 18, 3) rfl
theorem dX7_gate_12 : decode cX7_gate 12 = .ok (.iconst 0, 1) := tb_d tk_X7_gate_1 6 (12, .iconst 0, 1) rfl
theorem dX7_gate_13 : decode cX7_gate 13 = .ok (.putfield 102, 3) := tb_d tk_X7_gate_1 7 (13, .putfield 102, 3) rfl
theorem dX7_gate_16 : decode cX7_gate 16 = .ok (.iload_n 1, 1) := tb_d tk_X7_gate_1 8 (16, .iload_n 1, 1) rfl
theorem dX7_gate_17 : decode cX7_gate 17 = .ok (.ifCond .ne 25, 3) := tb_d tk_X7_gate_1 9 (17, .ifCond .ne 25, 3) rfl
theorem dX7_gate_20 : decode cX7_gate 20 = .ok (.aload_n 0, 1) := tb_d tk_X7_gate_1 10 (20, .aload_n 0, 1) rfl
theorem dX7_gate_21 : decode cX7_gate 21 = .ok (.aload_n 0, 1) := tb_d tk_X7_gate_1 11 (21, .aload_n 0, 1) rfl
theorem dX7_gate_22 : decode cX7_gate 22 = .ok (.getfield 18, 3) := tb_d tk_X7_gate_1 12 (22, .getfield 18, 3) rfl
theorem dX7_gate_25 : decode cX7_gate 25 = .ok (.getfield 110, 3) := tb_d tk_X7_gate_1 13 (25, .getfield 110, 3) rfl
theorem dX7_gate_28 : decode cX7_gate 28 = .ok (.putfield 113, 3) := tb_d tk_X7_gate_1 14 (28, .putfield 113, 3) rfl
theorem dX7_gate_31 : decode cX7_gate 31 = .ok (.ldc 116, 2) := tb_d tk_X7_gate_1 15 (31, .ldc 116, 2) rfl
theorem dX7_gate_33 : decode cX7_gate 33 = .ok (.aload_n 0, 1) := tb_d tk_X7_gate_1 16 (33, .aload_n 0, 1) rfl
theorem dX7_gate_34 : decode cX7_gate 34 = .ok (.getfield 18, 3) := tb_d tk_X7_gate_1 17 (34, .getfield 18, 3) rfl
theorem dX7_gate_37 : decode cX7_gate 37 = .ok (.getfield 117, 3) := tb_d tk_X7_gate_1 18 (37, .getfield 117, 3) rfl
theorem dX7_gate_40 : decode cX7_gate 40 = .ok (.isub, 1) := tb_d tk_X7_gate_1 19 (40, .isub, 1) rfl
theorem dX7_gate_41 : decode cX7_gate 41 = .ok (.ireturn, 1) := tb_d tk_X7_gate_1 20 (41, .ireturn, 1) rfl
theorem dX7_gate_42 : decode cX7_gate 42 = .ok (.aload_n 0, 1) := tb_d tk_X7_gate_1 21 (42, .aload_n 0, 1) rfl
theorem dX7_gate_43 : decode cX7_gate 43 = .ok (.getfield 25, 3) := tb_d tk_X7_gate_1 22 (43, .getfield 25, 3) rfl
theorem dX7_gate_46 : decode cX7_gate 46 = .ok (.aload_n 0, 1) := tb_d tk_X7_gate_1 23 (46, .aload_n 0, 1) rfl
theorem dX7_gate_47 : decode cX7_gate 47 = .ok (.getfield 18, 3) := tb_d tk_X7_gate_1 24 (47, .getfield 18, 3) rfl
theorem dX7_gate_50 : decode cX7_gate 50 = .ok (.getfield 120, 3) := tb_d tk_X7_gate_1 25 (50, .getfield 120, 3) rfl
theorem dX7_gate_53 : decode cX7_gate 53 = .ok (.invokevirtual 123, 3) := tb_d tk_X7_gate_1 26 (53, .invokevirtual 123, 3) rfl
theorem dX7_gate_56 : decode cX7_gate 56 = .ok (.aload_n 0, 1) := tb_d tk_X7_gate_1 27 (56, .aload_n 0, 1) rfl
theorem dX7_gate_57 : decode cX7_gate 57 = .ok (.getfield 32, 3) := tb_d tk_X7_gate_1 28 (57, .getfield 32, 3) rfl
theorem dX7_gate_60 : decode cX7_gate 60 = .ok (.invokevirtual 127, 3) := tb_d tk_X7_gate_1 29 (60, .invokevirtual 127, 3) rfl
theorem dX7_gate_63 : decode cX7_gate 63 = .ok (.aload_n 0, 1) := tb_d tk_X7_gate_1 30 (63, .aload_n 0, 1) rfl
theorem dX7_gate_64 : decode cX7_gate 64 = .ok (.getfield 25, 3) := tb_d tk_X7_gate_1 31 (64, .getfield 25, 3) rfl
theorem dX7_gate_67 : decode cX7_gate 67 = .ok (.getfield 130, 3) := tb_d tk_X7_gate_1 32 (67, .getfield 130, 3) rfl
theorem dX7_gate_70 : decode cX7_gate 70 = .ok (.ireturn, 1) := tb_d tk_X7_gate_1 33 (70, .ireturn, 1) rfl
def tb_X7_fault_1 : List (Nat × Instr × Nat) := [(0, .aload_n 0, 1), (1, .getfield 113, 3), (4, .ireturn, 1)]
set_option maxRecDepth 100000 in
theorem tk_X7_fault_1 : (tb_X7_fault_1.all fun q => decide (decode cX7_fault q.1 = .ok q.2)) = true := by decide +kernel
theorem dX7_fault_0 : decode cX7_fault 0 = .ok (.aload_n 0, 1) := tb_d tk_X7_fault_1 0 (0, .aload_n 0, 1) rfl
theorem dX7_fault_1 : decode cX7_fault 1 = .ok (.getfield 113, 3) := tb_d tk_X7_fault_1 1 (1, .getfield 113, 3) rfl
theorem dX7_fault_4 : decode cX7_fault 4 = .ok (.ireturn, 1) := tb_d tk_X7_fault_1 2 (4, .ireturn, 1) rfl
set_option maxRecDepth 20000 in
theorem ggX7_nights_X7_noGate : GoodIn wsX7_nights wsX7_noGate := goodIn_r _ [12, 3, 13, 64, 65, 66, 67, 68, 69, 70, 71, 72, 73, 74, 75, 76, 77, 78, 79, 80] (by decide +kernel) (by decide +kernel)
set_option maxRecDepth 20000 in
theorem gX7_nights_X7_noGate : GoodIn wsX7_nights (wsV RX7 133 RX7 yX7_noGate wsX7_noGate) := goodIn_app (goodIn_of _ (by decide +kernel)) ggX7_nights_X7_noGate
set_option maxRecDepth 20000 in
theorem ggX7_nights_X0_keep : GoodIn wsX7_nights wsX0_keep := goodIn_r _ [18, 19, 20, 21, 22, 23, 24, 25, 26, 27, 28, 29, 30, 31, 32, 33, 34, 35, 36, 37, 38, 39, 40, 41, 42, 89, 90, 91, 81, 82, 83, 84, 85, 86, 87, 88] (by decide +kernel) (by decide +kernel)
set_option maxRecDepth 20000 in
theorem gX7_nights_X0_keep : GoodIn wsX7_nights (wsV RX7 146 RX0 yX0_keep wsX0_keep) := goodIn_app (goodIn_of _ (by decide +kernel)) ggX7_nights_X0_keep
set_option maxRecDepth 20000 in
theorem ggX7_nights_X4_goBy : GoodIn wsX7_nights wsX4_goBy := goodIn_r _ [46, 31, 34, 81, 82, 83, 84, 85, 86, 87, 88] (by decide +kernel) (by decide +kernel)
set_option maxRecDepth 20000 in
theorem gX7_nights_X4_goBy : GoodIn wsX7_nights (wsV RX7 150 RX4 yX4_goBy wsX4_goBy) := goodIn_app (goodIn_of _ (by decide +kernel)) ggX7_nights_X4_goBy
set_option maxRecDepth 20000 in
theorem ggX7_nights_X2_secretIn : GoodIn wsX7_nights wsX2_secretIn := goodIn_r _ [51, 52, 53, 54, 55, 56, 57, 58, 59, 50, 60, 61, 62, 11, 63, 73, 74, 75, 76, 77, 78, 79, 80, 81, 82, 83, 84, 85, 86, 87, 88] (by decide +kernel) (by decide +kernel)
set_option maxRecDepth 20000 in
theorem gX7_nights_X2_secretIn : GoodIn wsX7_nights (wsV RX7 153 RX2 yX2_secretIn wsX2_secretIn) := goodIn_app (goodIn_of _ (by decide +kernel)) ggX7_nights_X2_secretIn
def tb_X7_nights_1 : List (Nat × Instr × Nat) := [(0, .aload_n 0, 1), (1, .invokevirtual 133, 3), (4, .ifCond .eq 6, 3), (7, .ldc 136, 2), (9, .ireturn, 1), (10, .iload_n 1, 1), (11, .iconst 1, 1), (12, .if_icmp .lt 9, 3), (15, .iload_n 1, 1), (16, .bipush 24, 2), (18, .if_icmp .le 6, 3), (21, .ldc 59, 2), (23, .ireturn, 1), (24, .aload_n 0, 1), (25, .getfield 25, 3), (28, .getfield 137, 3), (31, .getfield 141, 3), (34, .iload_n 1, 1), (35, .iadd, 1), (36, .sipush 999, 3), (39, .if_icmp .le 6, 3), (42, .ldc 105, 2), (44, .ireturn, 1), (45, .iconst 0, 1), (46, .istore_n 2, 1), (47, .iload_n 2, 1), (48, .iload_n 1, 1), (49, .if_icmp .ge 33, 3), (52, .aload_n 0, 1), (53, .getfield 32, 3), (56, .aload_n 0, 1), (57, .getfield 25, 3), (60, .getfield 137, 3), (63, .invokevirtual 146, 3), (66, .aload_n 0, 1), (67, .getfield 25, 3), (70, .getfield 137, 3), (73, .invokevirtual 150, 3), (76, .iinc 2 1, 3), (79, .goto (-32), 3)]
set_option maxRecDepth 100000 in
theorem tk_X7_nights_1 : (tb_X7_nights_1.all fun q => decide (decode cX7_nights q.1 = .ok q.2)) = true := by decide +kernel
theorem dX7_nights_0 : decode cX7_nights 0 = .ok (.aload_n 0, 1) := tb_d tk_X7_nights_1 0 (0, .aload_n 0, 1) rfl
theorem dX7_nights_1 : decode cX7_nights 1 = .ok (.invokevirtual 133, 3) := tb_d tk_X7_nights_1 1 (1, .invokevirtual 133, 3) rfl
theorem dX7_nights_4 : decode cX7_nights 4 = .ok (.ifCond .eq 6, 3) := tb_d tk_X7_nights_1 2 (4, .ifCond .eq 6, 3) rfl
theorem dX7_nights_7 : decode cX7_nights 7 = .ok (.ldc 136, 2) := tb_d tk_X7_nights_1 3 (7, .ldc 136, 2) rfl
theorem dX7_nights_9 : decode cX7_nights 9 = .ok (.ireturn, 1) := tb_d tk_X7_nights_1 4 (9, .ireturn, 1) rfl
theorem dX7_nights_10 : decode cX7_nights 10 = .ok (.iload_n 1, 1) := tb_d tk_X7_nights_1 5 (10, .iload_n 1, 1) rfl
theorem dX7_nights_11 : decode cX7_nights 11 = .ok (.iconst 1, 1) := tb_d tk_X7_nights_1 6 (11, .iconst 1, 1) rfl
theorem dX7_nights_12 : decode cX7_nights 12 = .ok (.if_icmp .lt 9, 3) := tb_d tk_X7_nights_1 7 (12, .if_icmp .lt 9, 3) rfl
theorem dX7_nights_15 : decode cX7_nights 15 = .ok (.iload_n 1, 1) := tb_d tk_X7_nights_1 8 (15, .iload_n 1, 1) rfl
theorem dX7_nights_16 : decode cX7_nights 16 = .ok (.bipush 24, 2) := tb_d tk_X7_nights_1 9 (16, .bipush 24, 2) rfl
theorem dX7_nights_18 : decode cX7_nights 18 = .ok (.if_icmp .le 6, 3) := tb_d tk_X7_nights_1 10 (18, .if_icmp .le 6, 3) rfl
theorem dX7_nights_21 : decode cX7_nights 21 = .ok (.ldc 59, 2) := tb_d tk_X7_nights_1 11 (21, .ldc 59, 2) rfl
theorem dX7_nights_23 : decode cX7_nights 23 = .ok (.ireturn, 1) := tb_d tk_X7_nights_1 12 (23, .ireturn, 1) rfl
theorem dX7_nights_24 : decode cX7_nights 24 = .ok (.aload_n 0, 1) := tb_d tk_X7_nights_1 13 (24, .aload_n 0, 1) rfl
theorem dX7_nights_25 : decode cX7_nights 25 = .ok (.getfield 25, 3) := tb_d tk_X7_nights_1 14 (25, .getfield 25, 3) rfl
theorem dX7_nights_28 : decode cX7_nights 28 = .ok (.getfield 137, 3) := tb_d tk_X7_nights_1 15 (28, .getfield 137, 3) rfl
theorem dX7_nights_31 : decode cX7_nights 31 = .ok (.getfield 141, 3) := tb_d tk_X7_nights_1 16 (31, .getfield 141, 3) rfl
theorem dX7_nights_34 : decode cX7_nights 34 = .ok (.iload_n 1, 1) := tb_d tk_X7_nights_1 17 (34, .iload_n 1, 1) rfl
theorem dX7_nights_35 : decode cX7_nights 35 = .ok (.iadd, 1) := tb_d tk_X7_nights_1 18 (35, .iadd, 1) rfl
theorem dX7_nights_36 : decode cX7_nights 36 = .ok (.sipush 999, 3) := tb_d tk_X7_nights_1 19 (36, .sipush 999, 3) rfl
theorem dX7_nights_39 : decode cX7_nights 39 = .ok (.if_icmp .le 6, 3) := tb_d tk_X7_nights_1 20 (39, .if_icmp .le 6, 3) rfl
theorem dX7_nights_42 : decode cX7_nights 42 = .ok (.ldc 105, 2) := tb_d tk_X7_nights_1 21 (42, .ldc 105, 2) rfl
theorem dX7_nights_44 : decode cX7_nights 44 = .ok (.ireturn, 1) := tb_d tk_X7_nights_1 22 (44, .ireturn, 1) rfl
theorem dX7_nights_45 : decode cX7_nights 45 = .ok (.iconst 0, 1) := tb_d tk_X7_nights_1 23 (45, .iconst 0, 1) rfl
theorem dX7_nights_46 : decode cX7_nights 46 = .ok (.istore_n 2, 1) := tb_d tk_X7_nights_1 24 (46, .istore_n 2, 1) rfl
theorem dX7_nights_47 : decode cX7_nights 47 = .ok (.iload_n 2, 1) := tb_d tk_X7_nights_1 25 (47, .iload_n 2, 1) rfl
theorem dX7_nights_48 : decode cX7_nights 48 = .ok (.iload_n 1, 1) := tb_d tk_X7_nights_1 26 (48, .iload_n 1, 1) rfl
theorem dX7_nights_49 : decode cX7_nights 49 = .ok (.if_icmp .ge 33, 3) := tb_d tk_X7_nights_1 27 (49, .if_icmp .ge 33, 3) rfl
theorem dX7_nights_52 : decode cX7_nights 52 = .ok (.aload_n 0, 1) := tb_d tk_X7_nights_1 28 (52, .aload_n 0, 1) rfl
theorem dX7_nights_53 : decode cX7_nights 53 = .ok (.getfield 32, 3) := tb_d tk_X7_nights_1 29 (53, .getfield 32, 3) rfl
theorem dX7_nights_56 : decode cX7_nights 56 = .ok (.aload_n 0, 1) := tb_d tk_X7_nights_1 30 (56, .aload_n 0, 1) rfl
theorem dX7_nights_57 : decode cX7_nights 57 = .ok (.getfield 25, 3) := tb_d tk_X7_nights_1 31 (57, .getfield 25, 3) rfl
theorem dX7_nights_60 : decode cX7_nights 60 = .ok (.getfield 137, 3) := tb_d tk_X7_nights_1 32 (60, .getfield 137, 3) rfl
theorem dX7_nights_63 : decode cX7_nights 63 = .ok (.invokevirtual 146, 3) := tb_d tk_X7_nights_1 33 (63, .invokevirtual 146, 3) rfl
theorem dX7_nights_66 : decode cX7_nights 66 = .ok (.aload_n 0, 1) := tb_d tk_X7_nights_1 34 (66, .aload_n 0, 1) rfl
theorem dX7_nights_67 : decode cX7_nights 67 = .ok (.getfield 25, 3) := tb_d tk_X7_nights_1 35 (67, .getfield 25, 3) rfl
theorem dX7_nights_70 : decode cX7_nights 70 = .ok (.getfield 137, 3) := tb_d tk_X7_nights_1 36 (70, .getfield 137, 3) rfl
theorem dX7_nights_73 : decode cX7_nights 73 = .ok (.invokevirtual 150, 3) := tb_d tk_X7_nights_1 37 (73, .invokevirtual 150, 3) rfl
theorem dX7_nights_76 : decode cX7_nights 76 = .ok (.iinc 2 1, 3) := tb_d tk_X7_nights_1 38 (76, .iinc 2 1, 3) rfl
theorem dX7_nights_79 : decode cX7_nights 79 = .ok (.goto (-32), 3) := tb_d tk_X7_nights_1 39 (79, .goto (-32), 3) rfl
def tb_X7_nights_2 : List (Nat × Instr × Nat) := [(82, .aload_n 0, 1), (83, .getfield 25, 3), (86, .iconst 0, 1), (87, .invokevirtual 153, 3), (90, .ireturn, 1)]
set_option maxRecDepth 100000 in
theorem tk_X7_nights_2 : (tb_X7_nights_2.all fun q => decide (decode cX7_nights q.1 = .ok q.2)) = true := by decide +kernel
theorem dX7_nights_82 : decode cX7_nights 82 = .ok (.aload_n 0, 1) := tb_d tk_X7_nights_2 0 (82, .aload_n 0, 1) rfl
theorem dX7_nights_83 : decode cX7_nights 83 = .ok (.getfield 25, 3) := tb_d tk_X7_nights_2 1 (83, .getfield 25, 3) rfl
theorem dX7_nights_86 : decode cX7_nights 86 = .ok (.iconst 0, 1) := tb_d tk_X7_nights_2 2 (86, .iconst 0, 1) rfl
theorem dX7_nights_87 : decode cX7_nights 87 = .ok (.invokevirtual 153, 3) := tb_d tk_X7_nights_2 3 (87, .invokevirtual 153, 3) rfl
theorem dX7_nights_90 : decode cX7_nights 90 = .ok (.ireturn, 1) := tb_d tk_X7_nights_2 4 (90, .ireturn, 1) rfl
set_option maxRecDepth 20000 in
theorem ggX7_say_X7_isWord : GoodIn wsX7_say wsX7_isWord := goodIn_r _ [13, 2, 14, 106, 107, 108, 109, 110, 111, 112, 113, 114, 115, 116, 117, 118, 119, 120, 121, 122] (by decide +kernel) (by decide +kernel)
set_option maxRecDepth 20000 in
theorem gX7_say_X7_isWord : GoodIn wsX7_say (wsV RX7 156 RX7 yX7_isWord wsX7_isWord) := goodIn_app (goodIn_of _ (by decide +kernel)) ggX7_say_X7_isWord
set_option maxRecDepth 20000 in
theorem ggX7_say_X7_isHour : GoodIn wsX7_say wsX7_isHour := goodIn_r _ [18] (by decide +kernel) (by decide +kernel)
set_option maxRecDepth 20000 in
theorem gX7_say_X7_isHour : GoodIn wsX7_say (wsV RX7 159 RX7 yX7_isHour wsX7_isHour) := goodIn_app (goodIn_of _ (by decide +kernel)) ggX7_say_X7_isHour
set_option maxRecDepth 20000 in
theorem ggX7_say_X2_guardOn : GoodIn wsX7_say wsX2_guardOn := goodIn_r _ [23, 24, 25, 12, 26, 115, 116, 117, 118, 119, 120, 121, 122] (by decide +kernel) (by decide +kernel)
set_option maxRecDepth 20000 in
theorem gX7_say_X2_guardOn : GoodIn wsX7_say (wsV RX7 165 RX2 yX2_guardOn wsX2_guardOn) := goodIn_app (goodIn_of _ (by decide +kernel)) ggX7_say_X2_guardOn
set_option maxRecDepth 20000 in
theorem ggX7_say_X2_catches : GoodIn wsX7_say wsX2_catches := goodIn_r _ [30, 31, 32, 33, 34, 35, 22, 36, 37, 38, 39, 40, 41, 42, 43, 44, 25, 12, 26, 45, 46, 47, 48, 49, 50, 20, 21, 23, 24, 51, 52, 53, 54, 55, 56, 57, 58, 59, 60, 61, 62, 63, 64, 65, 66, 67, 68, 115, 116, 117, 118, 119, 120, 121, 122, 123, 124, 125, 126, 127, 128, 129, 130] (by decide +kernel) (by decide +kernel)
set_option maxRecDepth 20000 in
theorem gX7_say_X2_catches : GoodIn wsX7_say (wsV RX7 168 RX2 yX2_catches wsX2_catches) := goodIn_app (goodIn_of _ (by decide +kernel)) ggX7_say_X2_catches
set_option maxRecDepth 20000 in
theorem ggX7_say_X0_keep : GoodIn wsX7_say wsX0_keep := goodIn_r _ [73, 74, 75, 76, 77, 78, 79, 80, 81, 82, 83, 84, 85, 86, 87, 88, 89, 90, 91, 92, 93, 94, 95, 96, 97, 131, 132, 133, 123, 124, 125, 126, 127, 128, 129, 130] (by decide +kernel) (by decide +kernel)
set_option maxRecDepth 20000 in
theorem gX7_say_X0_keep : GoodIn wsX7_say (wsV RX7 146 RX0 yX0_keep wsX0_keep) := goodIn_app (goodIn_of _ (by decide +kernel)) ggX7_say_X0_keep
set_option maxRecDepth 20000 in
theorem ggX7_say_X2_isThere : GoodIn wsX7_say wsX2_isThere := goodIn_r _ [54, 31, 55, 115, 116, 117, 118, 119, 120, 121, 122, 123, 124, 125, 126, 127, 128, 129, 130] (by decide +kernel) (by decide +kernel)
set_option maxRecDepth 20000 in
theorem gX7_say_X2_isThere : GoodIn wsX7_say (wsV RX7 172 RX2 yX2_isThere wsX2_isThere) := goodIn_app (goodIn_of _ (by decide +kernel)) ggX7_say_X2_isThere
set_option maxRecDepth 20000 in
theorem ggX7_say_X4_addTry : GoodIn wsX7_say wsX4_addTry := goodIn_r _ [102, 89, 95, 96, 97, 90, 103, 12, 104, 123, 124, 125, 126, 127, 128, 129, 130] (by decide +kernel) (by decide +kernel)
set_option maxRecDepth 20000 in
theorem gX7_say_X4_addTry : GoodIn wsX7_say (wsV RX7 176 RX4 yX4_addTry wsX4_addTry) := goodIn_app (goodIn_of _ (by decide +kernel)) ggX7_say_X4_addTry
set_option maxRecDepth 20000 in
theorem ggX7_say_X7_bit : GoodIn wsX7_say wsX7_bit := goodIn_r _ [104] (by decide +kernel) (by decide +kernel)
set_option maxRecDepth 20000 in
theorem gX7_say_X7_bit : GoodIn wsX7_say (va_wsS RX7 180 yX7_bit wsX7_bit) := goodIn_app (goodIn_of _ (by decide +kernel)) ggX7_say_X7_bit
def tb_X7_say_1 : List (Nat × Instr × Nat) := [(0, .aload_n 0, 1), (1, .iload_n 1, 1), (2, .invokevirtual 156, 3), (5, .ifCond .eq 11, 3), (8, .aload_n 0, 1), (9, .iload_n 2, 1), (10, .invokevirtual 159, 3), (13, .ifCond .ne 6, 3), (16, .ldc 59, 2), (18, .ireturn, 1), (19, .aload_n 0, 1), (20, .getfield 25, 3), (23, .getfield 137, 3), (26, .getfield 162, 3), (29, .bipush 9, 2), (31, .if_icmp .lt 6, 3), (34, .ldc 105, 2), (36, .ireturn, 1), (37, .aload_n 0, 1), (38, .getfield 25, 3), (41, .aload_n 0, 1), (42, .getfield 25, 3), (45, .getfield 137, 3), (48, .getfield 141, 3), (51, .iload_n 2, 1), (52, .invokevirtual 165, 3), (55, .istore_n 3, 1), (56, .aload_n 0, 1), (57, .getfield 25, 3), (60, .iload_n 1, 1), (61, .iload_n 2, 1), (62, .iconst 0, 1), (63, .invokevirtual 168, 3), (66, .istore 4, 2), (68, .aload_n 0, 1), (69, .getfield 32, 3), (72, .aload_n 0, 1), (73, .getfield 25, 3), (76, .getfield 137, 3), (79, .invokevirtual 146, 3)]
set_option maxRecDepth 100000 in
theorem tk_X7_say_1 : (tb_X7_say_1.all fun q => decide (decode cX7_say q.1 = .ok q.2)) = true := by decide +kernel
theorem dX7_say_0 : decode cX7_say 0 = .ok (.aload_n 0, 1) := tb_d tk_X7_say_1 0 (0, .aload_n 0, 1) rfl
theorem dX7_say_1 : decode cX7_say 1 = .ok (.iload_n 1, 1) := tb_d tk_X7_say_1 1 (1, .iload_n 1, 1) rfl
theorem dX7_say_2 : decode cX7_say 2 = .ok (.invokevirtual 156, 3) := tb_d tk_X7_say_1 2 (2, .invokevirtual 156, 3) rfl
theorem dX7_say_5 : decode cX7_say 5 = .ok (.ifCond .eq 11, 3) := tb_d tk_X7_say_1 3 (5, .ifCond .eq 11, 3) rfl
theorem dX7_say_8 : decode cX7_say 8 = .ok (.aload_n 0, 1) := tb_d tk_X7_say_1 4 (8, .aload_n 0, 1) rfl
theorem dX7_say_9 : decode cX7_say 9 = .ok (.iload_n 2, 1) := tb_d tk_X7_say_1 5 (9, .iload_n 2, 1) rfl
theorem dX7_say_10 : decode cX7_say 10 = .ok (.invokevirtual 159, 3) := tb_d tk_X7_say_1 6 (10, .invokevirtual 159, 3) rfl
theorem dX7_say_13 : decode cX7_say 13 = .ok (.ifCond .ne 6, 3) := tb_d tk_X7_say_1 7 (13, .ifCond .ne 6, 3) rfl
theorem dX7_say_16 : decode cX7_say 16 = .ok (.ldc 59, 2) := tb_d tk_X7_say_1 8 (16, .ldc 59, 2) rfl
theorem dX7_say_18 : decode cX7_say 18 = .ok (.ireturn, 1) := tb_d tk_X7_say_1 9 (18, .ireturn, 1) rfl
theorem dX7_say_19 : decode cX7_say 19 = .ok (.aload_n 0, 1) := tb_d tk_X7_say_1 10 (19, .aload_n 0, 1) rfl
theorem dX7_say_20 : decode cX7_say 20 = .ok (.getfield 25, 3) := tb_d tk_X7_say_1 11 (20, .getfield 25, 3) rfl
theorem dX7_say_23 : decode cX7_say 23 = .ok (.getfield 137, 3) := tb_d tk_X7_say_1 12 (23, .getfield 137, 3) rfl
theorem dX7_say_26 : decode cX7_say 26 = .ok (.getfield 162, 3) := tb_d tk_X7_say_1 13 (26, .getfield 162, 3) rfl
theorem dX7_say_29 : decode cX7_say 29 = .ok (.bipush 9, 2) := tb_d tk_X7_say_1 14 (29, .bipush 9, 2) rfl
theorem dX7_say_31 : decode cX7_say 31 = .ok (.if_icmp .lt 6, 3) := tb_d tk_X7_say_1 15 (31, .if_icmp .lt 6, 3) rfl
theorem dX7_say_34 : decode cX7_say 34 = .ok (.ldc 105, 2) := tb_d tk_X7_say_1 16 (34, .ldc 105, 2) rfl
theorem dX7_say_36 : decode cX7_say 36 = .ok (.ireturn, 1) := tb_d tk_X7_say_1 17 (36, .ireturn, 1) rfl
theorem dX7_say_37 : decode cX7_say 37 = .ok (.aload_n 0, 1) := tb_d tk_X7_say_1 18 (37, .aload_n 0, 1) rfl
theorem dX7_say_38 : decode cX7_say 38 = .ok (.getfield 25, 3) := tb_d tk_X7_say_1 19 (38, .getfield 25, 3) rfl
theorem dX7_say_41 : decode cX7_say 41 = .ok (.aload_n 0, 1) := tb_d tk_X7_say_1 20 (41, .aload_n 0, 1) rfl
theorem dX7_say_42 : decode cX7_say 42 = .ok (.getfield 25, 3) := tb_d tk_X7_say_1 21 (42, .getfield 25, 3) rfl
theorem dX7_say_45 : decode cX7_say 45 = .ok (.getfield 137, 3) := tb_d tk_X7_say_1 22 (45, .getfield 137, 3) rfl
theorem dX7_say_48 : decode cX7_say 48 = .ok (.getfield 141, 3) := tb_d tk_X7_say_1 23 (48, .getfield 141, 3) rfl
theorem dX7_say_51 : decode cX7_say 51 = .ok (.iload_n 2, 1) := tb_d tk_X7_say_1 24 (51, .iload_n 2, 1) rfl
theorem dX7_say_52 : decode cX7_say 52 = .ok (.invokevirtual 165, 3) := tb_d tk_X7_say_1 25 (52, .invokevirtual 165, 3) rfl
theorem dX7_say_55 : decode cX7_say 55 = .ok (.istore_n 3, 1) := tb_d tk_X7_say_1 26 (55, .istore_n 3, 1) rfl
theorem dX7_say_56 : decode cX7_say 56 = .ok (.aload_n 0, 1) := tb_d tk_X7_say_1 27 (56, .aload_n 0, 1) rfl
theorem dX7_say_57 : decode cX7_say 57 = .ok (.getfield 25, 3) := tb_d tk_X7_say_1 28 (57, .getfield 25, 3) rfl
theorem dX7_say_60 : decode cX7_say 60 = .ok (.iload_n 1, 1) := tb_d tk_X7_say_1 29 (60, .iload_n 1, 1) rfl
theorem dX7_say_61 : decode cX7_say 61 = .ok (.iload_n 2, 1) := tb_d tk_X7_say_1 30 (61, .iload_n 2, 1) rfl
theorem dX7_say_62 : decode cX7_say 62 = .ok (.iconst 0, 1) := tb_d tk_X7_say_1 31 (62, .iconst 0, 1) rfl
theorem dX7_say_63 : decode cX7_say 63 = .ok (.invokevirtual 168, 3) := tb_d tk_X7_say_1 32 (63, .invokevirtual 168, 3) rfl
theorem dX7_say_66 : decode cX7_say 66 = .ok (.istore 4, 2) := tb_d tk_X7_say_1 33 (66, .istore 4, 2) rfl
theorem dX7_say_68 : decode cX7_say 68 = .ok (.aload_n 0, 1) := tb_d tk_X7_say_1 34 (68, .aload_n 0, 1) rfl
theorem dX7_say_69 : decode cX7_say 69 = .ok (.getfield 32, 3) := tb_d tk_X7_say_1 35 (69, .getfield 32, 3) rfl
theorem dX7_say_72 : decode cX7_say 72 = .ok (.aload_n 0, 1) := tb_d tk_X7_say_1 36 (72, .aload_n 0, 1) rfl
theorem dX7_say_73 : decode cX7_say 73 = .ok (.getfield 25, 3) := tb_d tk_X7_say_1 37 (73, .getfield 25, 3) rfl
theorem dX7_say_76 : decode cX7_say 76 = .ok (.getfield 137, 3) := tb_d tk_X7_say_1 38 (76, .getfield 137, 3) rfl
theorem dX7_say_79 : decode cX7_say 79 = .ok (.invokevirtual 146, 3) := tb_d tk_X7_say_1 39 (79, .invokevirtual 146, 3) rfl
def tb_X7_say_2 : List (Nat × Instr × Nat) := [(82, .aload_n 0, 1), (83, .getfield 25, 3), (86, .getfield 137, 3), (89, .iload_n 1, 1), (90, .aload_n 0, 1), (91, .getfield 25, 3), (94, .iload_n 3, 1), (95, .invokevirtual 172, 3), (98, .ifCond .eq 7, 3), (101, .iload_n 3, 1), (102, .goto 5, 3), (105, .ldc 175, 2), (107, .iload 4, 2), (109, .invokevirtual 176, 3), (112, .iload 4, 2), (114, .invokestatic 180, 3), (117, .ireturn, 1)]
set_option maxRecDepth 100000 in
theorem tk_X7_say_2 : (tb_X7_say_2.all fun q => decide (decode cX7_say q.1 = .ok q.2)) = true := by decide +kernel
theorem dX7_say_82 : decode cX7_say 82 = .ok (.aload_n 0, 1) := tb_d tk_X7_say_2 0 (82, .aload_n 0, 1) rfl
theorem dX7_say_83 : decode cX7_say 83 = .ok (.getfield 25, 3) := tb_d tk_X7_say_2 1 (83, .getfield 25, 3) rfl
theorem dX7_say_86 : decode cX7_say 86 = .ok (.getfield 137, 3) := tb_d tk_X7_say_2 2 (86, .getfield 137, 3) rfl
theorem dX7_say_89 : decode cX7_say 89 = .ok (.iload_n 1, 1) := tb_d tk_X7_say_2 3 (89, .iload_n 1, 1) rfl
theorem dX7_say_90 : decode cX7_say 90 = .ok (.aload_n 0, 1) := tb_d tk_X7_say_2 4 (90, .aload_n 0, 1) rfl
theorem dX7_say_91 : decode cX7_say 91 = .ok (.getfield 25, 3) := tb_d tk_X7_say_2 5 (91, .getfield 25, 3) rfl
theorem dX7_say_94 : decode cX7_say 94 = .ok (.iload_n 3, 1) := tb_d tk_X7_say_2 6 (94, .iload_n 3, 1) rfl
theorem dX7_say_95 : decode cX7_say 95 = .ok (.invokevirtual 172, 3) := tb_d tk_X7_say_2 7 (95, .invokevirtual 172, 3) rfl
theorem dX7_say_98 : decode cX7_say 98 = .ok (.ifCond .eq 7, 3) := tb_d tk_X7_say_2 8 (98, .ifCond .eq 7, 3) rfl
theorem dX7_say_101 : decode cX7_say 101 = .ok (.iload_n 3, 1) := tb_d tk_X7_say_2 9 (101, .iload_n 3, 1) rfl
theorem dX7_say_102 : decode cX7_say 102 = .ok (.goto 5, 3) := tb_d tk_X7_say_2 10 (102, .goto 5, 3) rfl
theorem dX7_say_105 : decode cX7_say 105 = .ok (.ldc 175, 2) := tb_d tk_X7_say_2 11 (105, .ldc 175, 2) rfl
theorem dX7_say_107 : decode cX7_say 107 = .ok (.iload 4, 2) := tb_d tk_X7_say_2 12 (107, .iload 4, 2) rfl
theorem dX7_say_109 : decode cX7_say 109 = .ok (.invokevirtual 176, 3) := tb_d tk_X7_say_2 13 (109, .invokevirtual 176, 3) rfl
theorem dX7_say_112 : decode cX7_say 112 = .ok (.iload 4, 2) := tb_d tk_X7_say_2 14 (112, .iload 4, 2) rfl
theorem dX7_say_114 : decode cX7_say 114 = .ok (.invokestatic 180, 3) := tb_d tk_X7_say_2 15 (114, .invokestatic 180, 3) rfl
theorem dX7_say_117 : decode cX7_say 117 = .ok (.ireturn, 1) := tb_d tk_X7_say_2 16 (117, .ireturn, 1) rfl
set_option maxRecDepth 20000 in
theorem ggX7_start_X7_noGate : GoodIn wsX7_start wsX7_noGate := goodIn_r _ [11, 3, 12, 42, 43, 44, 45, 46, 47, 48, 49, 50, 51, 52, 53, 54, 55, 56, 57, 58] (by decide +kernel) (by decide +kernel)
set_option maxRecDepth 20000 in
theorem gX7_start_X7_noGate : GoodIn wsX7_start (wsV RX7 133 RX7 yX7_noGate wsX7_noGate) := goodIn_app (goodIn_of _ (by decide +kernel)) ggX7_start_X7_noGate
set_option maxRecDepth 20000 in
theorem ggX7_start_X0_keep : GoodIn wsX7_start wsX0_keep := goodIn_r _ [17, 18, 19, 20, 21, 22, 23, 24, 25, 26, 27, 28, 29, 30, 31, 32, 33, 34, 35, 36, 37, 38, 39, 40, 41, 67, 68, 69, 59, 60, 61, 62, 63, 64, 65, 66] (by decide +kernel) (by decide +kernel)
set_option maxRecDepth 20000 in
theorem gX7_start_X0_keep : GoodIn wsX7_start (wsV RX7 146 RX0 yX0_keep wsX0_keep) := goodIn_app (goodIn_of _ (by decide +kernel)) ggX7_start_X0_keep
def tb_X7_start_1 : List (Nat × Instr × Nat) := [(0, .aload_n 0, 1), (1, .invokevirtual 133, 3), (4, .ifCond .eq 6, 3), (7, .ldc 136, 2), (9, .ireturn, 1), (10, .iload_n 1, 1), (11, .ifCond .lt 9, 3), (14, .iload_n 1, 1), (15, .bipush 9, 2), (17, .if_icmp .le 6, 3), (20, .ldc 59, 2), (22, .ireturn, 1), (23, .aload_n 0, 1), (24, .getfield 25, 3), (27, .getfield 137, 3), (30, .getfield 184, 3), (33, .istore_n 2, 1), (34, .aload_n 0, 1), (35, .getfield 32, 3), (38, .aload_n 0, 1), (39, .getfield 25, 3), (42, .getfield 137, 3), (45, .invokevirtual 146, 3), (48, .aload_n 0, 1), (49, .getfield 25, 3), (52, .getfield 137, 3), (55, .iload_n 1, 1), (56, .putfield 184, 3), (59, .iload_n 2, 1), (60, .ireturn, 1)]
set_option maxRecDepth 100000 in
theorem tk_X7_start_1 : (tb_X7_start_1.all fun q => decide (decode cX7_start q.1 = .ok q.2)) = true := by decide +kernel
theorem dX7_start_0 : decode cX7_start 0 = .ok (.aload_n 0, 1) := tb_d tk_X7_start_1 0 (0, .aload_n 0, 1) rfl
theorem dX7_start_1 : decode cX7_start 1 = .ok (.invokevirtual 133, 3) := tb_d tk_X7_start_1 1 (1, .invokevirtual 133, 3) rfl
theorem dX7_start_4 : decode cX7_start 4 = .ok (.ifCond .eq 6, 3) := tb_d tk_X7_start_1 2 (4, .ifCond .eq 6, 3) rfl
theorem dX7_start_7 : decode cX7_start 7 = .ok (.ldc 136, 2) := tb_d tk_X7_start_1 3 (7, .ldc 136, 2) rfl
theorem dX7_start_9 : decode cX7_start 9 = .ok (.ireturn, 1) := tb_d tk_X7_start_1 4 (9, .ireturn, 1) rfl
theorem dX7_start_10 : decode cX7_start 10 = .ok (.iload_n 1, 1) := tb_d tk_X7_start_1 5 (10, .iload_n 1, 1) rfl
theorem dX7_start_11 : decode cX7_start 11 = .ok (.ifCond .lt 9, 3) := tb_d tk_X7_start_1 6 (11, .ifCond .lt 9, 3) rfl
theorem dX7_start_14 : decode cX7_start 14 = .ok (.iload_n 1, 1) := tb_d tk_X7_start_1 7 (14, .iload_n 1, 1) rfl
theorem dX7_start_15 : decode cX7_start 15 = .ok (.bipush 9, 2) := tb_d tk_X7_start_1 8 (15, .bipush 9, 2) rfl
theorem dX7_start_17 : decode cX7_start 17 = .ok (.if_icmp .le 6, 3) := tb_d tk_X7_start_1 9 (17, .if_icmp .le 6, 3) rfl
theorem dX7_start_20 : decode cX7_start 20 = .ok (.ldc 59, 2) := tb_d tk_X7_start_1 10 (20, .ldc 59, 2) rfl
theorem dX7_start_22 : decode cX7_start 22 = .ok (.ireturn, 1) := tb_d tk_X7_start_1 11 (22, .ireturn, 1) rfl
theorem dX7_start_23 : decode cX7_start 23 = .ok (.aload_n 0, 1) := tb_d tk_X7_start_1 12 (23, .aload_n 0, 1) rfl
theorem dX7_start_24 : decode cX7_start 24 = .ok (.getfield 25, 3) := tb_d tk_X7_start_1 13 (24, .getfield 25, 3) rfl
theorem dX7_start_27 : decode cX7_start 27 = .ok (.getfield 137, 3) := tb_d tk_X7_start_1 14 (27, .getfield 137, 3) rfl
theorem dX7_start_30 : decode cX7_start 30 = .ok (.getfield 184, 3) := tb_d tk_X7_start_1 15 (30, .getfield 184, 3) rfl
theorem dX7_start_33 : decode cX7_start 33 = .ok (.istore_n 2, 1) := tb_d tk_X7_start_1 16 (33, .istore_n 2, 1) rfl
theorem dX7_start_34 : decode cX7_start 34 = .ok (.aload_n 0, 1) := tb_d tk_X7_start_1 17 (34, .aload_n 0, 1) rfl
theorem dX7_start_35 : decode cX7_start 35 = .ok (.getfield 32, 3) := tb_d tk_X7_start_1 18 (35, .getfield 32, 3) rfl
theorem dX7_start_38 : decode cX7_start 38 = .ok (.aload_n 0, 1) := tb_d tk_X7_start_1 19 (38, .aload_n 0, 1) rfl
theorem dX7_start_39 : decode cX7_start 39 = .ok (.getfield 25, 3) := tb_d tk_X7_start_1 20 (39, .getfield 25, 3) rfl
theorem dX7_start_42 : decode cX7_start 42 = .ok (.getfield 137, 3) := tb_d tk_X7_start_1 21 (42, .getfield 137, 3) rfl
theorem dX7_start_45 : decode cX7_start 45 = .ok (.invokevirtual 146, 3) := tb_d tk_X7_start_1 22 (45, .invokevirtual 146, 3) rfl
theorem dX7_start_48 : decode cX7_start 48 = .ok (.aload_n 0, 1) := tb_d tk_X7_start_1 23 (48, .aload_n 0, 1) rfl
theorem dX7_start_49 : decode cX7_start 49 = .ok (.getfield 25, 3) := tb_d tk_X7_start_1 24 (49, .getfield 25, 3) rfl
theorem dX7_start_52 : decode cX7_start 52 = .ok (.getfield 137, 3) := tb_d tk_X7_start_1 25 (52, .getfield 137, 3) rfl
theorem dX7_start_55 : decode cX7_start 55 = .ok (.iload_n 1, 1) := tb_d tk_X7_start_1 26 (55, .iload_n 1, 1) rfl
theorem dX7_start_56 : decode cX7_start 56 = .ok (.putfield 184, 3) := tb_d tk_X7_start_1 27 (56, .putfield 184, 3) rfl
theorem dX7_start_59 : decode cX7_start 59 = .ok (.iload_n 2, 1) := tb_d tk_X7_start_1 28 (59, .iload_n 2, 1) rfl
theorem dX7_start_60 : decode cX7_start 60 = .ok (.ireturn, 1) := tb_d tk_X7_start_1 29 (60, .ireturn, 1) rfl
set_option maxRecDepth 20000 in
theorem ggX7_dismiss_X7_isGuard : GoodIn wsX7_dismiss wsX7_isGuard := goodIn_r _ [11, 2, 12, 52, 53, 54, 55, 56, 57, 58, 59, 60, 61, 62, 63, 64, 65, 66, 67, 68] (by decide +kernel) (by decide +kernel)
set_option maxRecDepth 20000 in
theorem gX7_dismiss_X7_isGuard : GoodIn wsX7_dismiss (wsV RX7 187 RX7 yX7_isGuard wsX7_isGuard) := goodIn_app (goodIn_of _ (by decide +kernel)) ggX7_dismiss_X7_isGuard
set_option maxRecDepth 20000 in
theorem ggX7_dismiss_X2_isThere : GoodIn wsX7_dismiss wsX2_isThere := goodIn_r _ [17, 18, 19, 61, 62, 63, 64, 65, 66, 67, 68, 69, 70, 71, 72, 73, 74, 75, 76] (by decide +kernel) (by decide +kernel)
set_option maxRecDepth 20000 in
theorem gX7_dismiss_X2_isThere : GoodIn wsX7_dismiss (wsV RX7 172 RX2 yX2_isThere wsX2_isThere) := goodIn_app (goodIn_of _ (by decide +kernel)) ggX7_dismiss_X2_isThere
set_option maxRecDepth 20000 in
theorem ggX7_dismiss_X7_bit : GoodIn wsX7_dismiss wsX7_bit := goodIn_r _ [22] (by decide +kernel) (by decide +kernel)
set_option maxRecDepth 20000 in
theorem gX7_dismiss_X7_bit : GoodIn wsX7_dismiss (va_wsS RX7 180 yX7_bit wsX7_bit) := goodIn_app (goodIn_of _ (by decide +kernel)) ggX7_dismiss_X7_bit
set_option maxRecDepth 20000 in
theorem ggX7_dismiss_X0_keep : GoodIn wsX7_dismiss wsX0_keep := goodIn_r _ [27, 28, 29, 30, 31, 32, 33, 34, 35, 36, 37, 38, 39, 40, 41, 42, 43, 44, 45, 46, 47, 48, 49, 50, 51, 77, 78, 79, 69, 70, 71, 72, 73, 74, 75, 76] (by decide +kernel) (by decide +kernel)
set_option maxRecDepth 20000 in
theorem gX7_dismiss_X0_keep : GoodIn wsX7_dismiss (wsV RX7 146 RX0 yX0_keep wsX0_keep) := goodIn_app (goodIn_of _ (by decide +kernel)) ggX7_dismiss_X0_keep
def tb_X7_dismiss_1 : List (Nat × Instr × Nat) := [(0, .aload_n 0, 1), (1, .iload_n 1, 1), (2, .invokevirtual 187, 3), (5, .ifCond .eq 12, 3), (8, .iload_n 2, 1), (9, .ifCond .lt 8, 3), (12, .iload_n 2, 1), (13, .iconst 1, 1), (14, .if_icmp .le 6, 3), (17, .ldc 59, 2), (19, .ireturn, 1), (20, .aload_n 0, 1), (21, .getfield 25, 3), (24, .iload_n 1, 1), (25, .invokevirtual 172, 3), (28, .invokestatic 180, 3), (31, .iload_n 2, 1), (32, .if_icmp .ne 6, 3), (35, .ldc 136, 2), (37, .ireturn, 1), (38, .aload_n 0, 1), (39, .getfield 32, 3), (42, .aload_n 0, 1), (43, .getfield 25, 3), (46, .getfield 137, 3), (49, .invokevirtual 146, 3), (52, .aload_n 0, 1), (53, .getfield 25, 3), (56, .getfield 137, 3), (59, .dup, 1), (60, .getfield 190, 3), (63, .iconst 1, 1), (64, .iload_n 1, 1), (65, .ishl, 1), (66, .ixor, 1), (67, .putfield 190, 3), (70, .aload_n 0, 1), (71, .getfield 25, 3), (74, .getfield 137, 3), (77, .getfield 190, 3)]
set_option maxRecDepth 100000 in
theorem tk_X7_dismiss_1 : (tb_X7_dismiss_1.all fun q => decide (decode cX7_dismiss q.1 = .ok q.2)) = true := by decide +kernel
theorem dX7_dismiss_0 : decode cX7_dismiss 0 = .ok (.aload_n 0, 1) := tb_d tk_X7_dismiss_1 0 (0, .aload_n 0, 1) rfl
theorem dX7_dismiss_1 : decode cX7_dismiss 1 = .ok (.iload_n 1, 1) := tb_d tk_X7_dismiss_1 1 (1, .iload_n 1, 1) rfl
theorem dX7_dismiss_2 : decode cX7_dismiss 2 = .ok (.invokevirtual 187, 3) := tb_d tk_X7_dismiss_1 2 (2, .invokevirtual 187, 3) rfl
theorem dX7_dismiss_5 : decode cX7_dismiss 5 = .ok (.ifCond .eq 12, 3) := tb_d tk_X7_dismiss_1 3 (5, .ifCond .eq 12, 3) rfl
theorem dX7_dismiss_8 : decode cX7_dismiss 8 = .ok (.iload_n 2, 1) := tb_d tk_X7_dismiss_1 4 (8, .iload_n 2, 1) rfl
theorem dX7_dismiss_9 : decode cX7_dismiss 9 = .ok (.ifCond .lt 8, 3) := tb_d tk_X7_dismiss_1 5 (9, .ifCond .lt 8, 3) rfl
theorem dX7_dismiss_12 : decode cX7_dismiss 12 = .ok (.iload_n 2, 1) := tb_d tk_X7_dismiss_1 6 (12, .iload_n 2, 1) rfl
theorem dX7_dismiss_13 : decode cX7_dismiss 13 = .ok (.iconst 1, 1) := tb_d tk_X7_dismiss_1 7 (13, .iconst 1, 1) rfl
theorem dX7_dismiss_14 : decode cX7_dismiss 14 = .ok (.if_icmp .le 6, 3) := tb_d tk_X7_dismiss_1 8 (14, .if_icmp .le 6, 3) rfl
theorem dX7_dismiss_17 : decode cX7_dismiss 17 = .ok (.ldc 59, 2) := tb_d tk_X7_dismiss_1 9 (17, .ldc 59, 2) rfl
theorem dX7_dismiss_19 : decode cX7_dismiss 19 = .ok (.ireturn, 1) := tb_d tk_X7_dismiss_1 10 (19, .ireturn, 1) rfl
theorem dX7_dismiss_20 : decode cX7_dismiss 20 = .ok (.aload_n 0, 1) := tb_d tk_X7_dismiss_1 11 (20, .aload_n 0, 1) rfl
theorem dX7_dismiss_21 : decode cX7_dismiss 21 = .ok (.getfield 25, 3) := tb_d tk_X7_dismiss_1 12 (21, .getfield 25, 3) rfl
theorem dX7_dismiss_24 : decode cX7_dismiss 24 = .ok (.iload_n 1, 1) := tb_d tk_X7_dismiss_1 13 (24, .iload_n 1, 1) rfl
theorem dX7_dismiss_25 : decode cX7_dismiss 25 = .ok (.invokevirtual 172, 3) := tb_d tk_X7_dismiss_1 14 (25, .invokevirtual 172, 3) rfl
theorem dX7_dismiss_28 : decode cX7_dismiss 28 = .ok (.invokestatic 180, 3) := tb_d tk_X7_dismiss_1 15 (28, .invokestatic 180, 3) rfl
theorem dX7_dismiss_31 : decode cX7_dismiss 31 = .ok (.iload_n 2, 1) := tb_d tk_X7_dismiss_1 16 (31, .iload_n 2, 1) rfl
theorem dX7_dismiss_32 : decode cX7_dismiss 32 = .ok (.if_icmp .ne 6, 3) := tb_d tk_X7_dismiss_1 17 (32, .if_icmp .ne 6, 3) rfl
theorem dX7_dismiss_35 : decode cX7_dismiss 35 = .ok (.ldc 136, 2) := tb_d tk_X7_dismiss_1 18 (35, .ldc 136, 2) rfl
theorem dX7_dismiss_37 : decode cX7_dismiss 37 = .ok (.ireturn, 1) := tb_d tk_X7_dismiss_1 19 (37, .ireturn, 1) rfl
theorem dX7_dismiss_38 : decode cX7_dismiss 38 = .ok (.aload_n 0, 1) := tb_d tk_X7_dismiss_1 20 (38, .aload_n 0, 1) rfl
theorem dX7_dismiss_39 : decode cX7_dismiss 39 = .ok (.getfield 32, 3) := tb_d tk_X7_dismiss_1 21 (39, .getfield 32, 3) rfl
theorem dX7_dismiss_42 : decode cX7_dismiss 42 = .ok (.aload_n 0, 1) := tb_d tk_X7_dismiss_1 22 (42, .aload_n 0, 1) rfl
theorem dX7_dismiss_43 : decode cX7_dismiss 43 = .ok (.getfield 25, 3) := tb_d tk_X7_dismiss_1 23 (43, .getfield 25, 3) rfl
theorem dX7_dismiss_46 : decode cX7_dismiss 46 = .ok (.getfield 137, 3) := tb_d tk_X7_dismiss_1 24 (46, .getfield 137, 3) rfl
theorem dX7_dismiss_49 : decode cX7_dismiss 49 = .ok (.invokevirtual 146, 3) := tb_d tk_X7_dismiss_1 25 (49, .invokevirtual 146, 3) rfl
theorem dX7_dismiss_52 : decode cX7_dismiss 52 = .ok (.aload_n 0, 1) := tb_d tk_X7_dismiss_1 26 (52, .aload_n 0, 1) rfl
theorem dX7_dismiss_53 : decode cX7_dismiss 53 = .ok (.getfield 25, 3) := tb_d tk_X7_dismiss_1 27 (53, .getfield 25, 3) rfl
theorem dX7_dismiss_56 : decode cX7_dismiss 56 = .ok (.getfield 137, 3) := tb_d tk_X7_dismiss_1 28 (56, .getfield 137, 3) rfl
theorem dX7_dismiss_59 : decode cX7_dismiss 59 = .ok (.dup, 1) := tb_d tk_X7_dismiss_1 29 (59, .dup, 1) rfl
theorem dX7_dismiss_60 : decode cX7_dismiss 60 = .ok (.getfield 190, 3) := tb_d tk_X7_dismiss_1 30 (60, .getfield 190, 3) rfl
theorem dX7_dismiss_63 : decode cX7_dismiss 63 = .ok (.iconst 1, 1) := tb_d tk_X7_dismiss_1 31 (63, .iconst 1, 1) rfl
theorem dX7_dismiss_64 : decode cX7_dismiss 64 = .ok (.iload_n 1, 1) := tb_d tk_X7_dismiss_1 32 (64, .iload_n 1, 1) rfl
theorem dX7_dismiss_65 : decode cX7_dismiss 65 = .ok (.ishl, 1) := tb_d tk_X7_dismiss_1 33 (65, .ishl, 1) rfl
theorem dX7_dismiss_66 : decode cX7_dismiss 66 = .ok (.ixor, 1) := tb_d tk_X7_dismiss_1 34 (66, .ixor, 1) rfl
theorem dX7_dismiss_67 : decode cX7_dismiss 67 = .ok (.putfield 190, 3) := tb_d tk_X7_dismiss_1 35 (67, .putfield 190, 3) rfl
theorem dX7_dismiss_70 : decode cX7_dismiss 70 = .ok (.aload_n 0, 1) := tb_d tk_X7_dismiss_1 36 (70, .aload_n 0, 1) rfl
theorem dX7_dismiss_71 : decode cX7_dismiss 71 = .ok (.getfield 25, 3) := tb_d tk_X7_dismiss_1 37 (71, .getfield 25, 3) rfl
theorem dX7_dismiss_74 : decode cX7_dismiss 74 = .ok (.getfield 137, 3) := tb_d tk_X7_dismiss_1 38 (74, .getfield 137, 3) rfl
theorem dX7_dismiss_77 : decode cX7_dismiss 77 = .ok (.getfield 190, 3) := tb_d tk_X7_dismiss_1 39 (77, .getfield 190, 3) rfl
def tb_X7_dismiss_2 : List (Nat × Instr × Nat) := [(80, .ireturn, 1)]
set_option maxRecDepth 100000 in
theorem tk_X7_dismiss_2 : (tb_X7_dismiss_2.all fun q => decide (decode cX7_dismiss q.1 = .ok q.2)) = true := by decide +kernel
theorem dX7_dismiss_80 : decode cX7_dismiss 80 = .ok (.ireturn, 1) := tb_d tk_X7_dismiss_2 0 (80, .ireturn, 1) rfl
set_option maxRecDepth 20000 in
theorem ggX7_undo_X0_takeBack : GoodIn wsX7_undo wsX0_takeBack := goodIn_r _ [10, 11, 12, 13, 14, 15, 16, 17, 18, 19, 20, 21, 22, 23, 24, 25, 26, 27, 28, 29, 30, 48, 49, 50, 51, 52, 53, 54, 55, 56, 57, 58] (by decide +kernel) (by decide +kernel)
set_option maxRecDepth 20000 in
theorem gX7_undo_X0_takeBack : GoodIn wsX7_undo (wsV RX7 193 RX0 yX0_takeBack wsX0_takeBack) := goodIn_app (goodIn_of _ (by decide +kernel)) ggX7_undo_X0_takeBack
def tb_X7_undo_1 : List (Nat × Instr × Nat) := [(0, .aload_n 0, 1), (1, .getfield 32, 3), (4, .aload_n 0, 1), (5, .getfield 25, 3), (8, .getfield 137, 3), (11, .invokevirtual 193, 3), (14, .ifCond .eq 13, 3), (17, .aload_n 0, 1), (18, .getfield 32, 3), (21, .getfield 197, 3), (24, .goto 5, 3), (27, .ldc 136, 2), (29, .ireturn, 1)]
set_option maxRecDepth 100000 in
theorem tk_X7_undo_1 : (tb_X7_undo_1.all fun q => decide (decode cX7_undo q.1 = .ok q.2)) = true := by decide +kernel
theorem dX7_undo_0 : decode cX7_undo 0 = .ok (.aload_n 0, 1) := tb_d tk_X7_undo_1 0 (0, .aload_n 0, 1) rfl
theorem dX7_undo_1 : decode cX7_undo 1 = .ok (.getfield 32, 3) := tb_d tk_X7_undo_1 1 (1, .getfield 32, 3) rfl
theorem dX7_undo_4 : decode cX7_undo 4 = .ok (.aload_n 0, 1) := tb_d tk_X7_undo_1 2 (4, .aload_n 0, 1) rfl
theorem dX7_undo_5 : decode cX7_undo 5 = .ok (.getfield 25, 3) := tb_d tk_X7_undo_1 3 (5, .getfield 25, 3) rfl
theorem dX7_undo_8 : decode cX7_undo 8 = .ok (.getfield 137, 3) := tb_d tk_X7_undo_1 4 (8, .getfield 137, 3) rfl
theorem dX7_undo_11 : decode cX7_undo 11 = .ok (.invokevirtual 193, 3) := tb_d tk_X7_undo_1 5 (11, .invokevirtual 193, 3) rfl
theorem dX7_undo_14 : decode cX7_undo 14 = .ok (.ifCond .eq 13, 3) := tb_d tk_X7_undo_1 6 (14, .ifCond .eq 13, 3) rfl
theorem dX7_undo_17 : decode cX7_undo 17 = .ok (.aload_n 0, 1) := tb_d tk_X7_undo_1 7 (17, .aload_n 0, 1) rfl
theorem dX7_undo_18 : decode cX7_undo 18 = .ok (.getfield 32, 3) := tb_d tk_X7_undo_1 8 (18, .getfield 32, 3) rfl
theorem dX7_undo_21 : decode cX7_undo 21 = .ok (.getfield 197, 3) := tb_d tk_X7_undo_1 9 (21, .getfield 197, 3) rfl
theorem dX7_undo_24 : decode cX7_undo 24 = .ok (.goto 5, 3) := tb_d tk_X7_undo_1 10 (24, .goto 5, 3) rfl
theorem dX7_undo_27 : decode cX7_undo 27 = .ok (.ldc 136, 2) := tb_d tk_X7_undo_1 11 (27, .ldc 136, 2) rfl
theorem dX7_undo_29 : decode cX7_undo 29 = .ok (.ireturn, 1) := tb_d tk_X7_undo_1 12 (29, .ireturn, 1) rfl
set_option maxRecDepth 20000 in
theorem ggX7_letter_X7_isWord : GoodIn wsX7_letter wsX7_isWord := goodIn_r _ [8, 2, 9, 10, 11, 12, 13, 14, 15, 16, 17, 18, 19, 20, 21, 22, 23, 24, 25, 26] (by decide +kernel) (by decide +kernel)
set_option maxRecDepth 20000 in
theorem gX7_letter_X7_isWord : GoodIn wsX7_letter (wsV RX7 156 RX7 yX7_isWord wsX7_isWord) := goodIn_app (goodIn_of _ (by decide +kernel)) ggX7_letter_X7_isWord
def tb_X7_letter_1 : List (Nat × Instr × Nat) := [(0, .aload_n 0, 1), (1, .iload_n 1, 1), (2, .invokevirtual 156, 3), (5, .ifCond .eq 12, 3), (8, .iload_n 2, 1), (9, .ifCond .lt 8, 3), (12, .iload_n 2, 1), (13, .iconst 3, 1), (14, .if_icmp .lt 6, 3), (17, .ldc 59, 2), (19, .ireturn, 1), (20, .aload_n 0, 1), (21, .getfield 25, 3), (24, .getfield 200, 3), (27, .iload_n 1, 1), (28, .iconst 3, 1), (29, .imul, 1), (30, .iload_n 2, 1), (31, .iadd, 1), (32, .iaload, 1), (33, .ireturn, 1)]
set_option maxRecDepth 100000 in
theorem tk_X7_letter_1 : (tb_X7_letter_1.all fun q => decide (decode cX7_letter q.1 = .ok q.2)) = true := by decide +kernel
theorem dX7_letter_0 : decode cX7_letter 0 = .ok (.aload_n 0, 1) := tb_d tk_X7_letter_1 0 (0, .aload_n 0, 1) rfl
theorem dX7_letter_1 : decode cX7_letter 1 = .ok (.iload_n 1, 1) := tb_d tk_X7_letter_1 1 (1, .iload_n 1, 1) rfl
theorem dX7_letter_2 : decode cX7_letter 2 = .ok (.invokevirtual 156, 3) := tb_d tk_X7_letter_1 2 (2, .invokevirtual 156, 3) rfl
theorem dX7_letter_5 : decode cX7_letter 5 = .ok (.ifCond .eq 12, 3) := tb_d tk_X7_letter_1 3 (5, .ifCond .eq 12, 3) rfl
theorem dX7_letter_8 : decode cX7_letter 8 = .ok (.iload_n 2, 1) := tb_d tk_X7_letter_1 4 (8, .iload_n 2, 1) rfl
theorem dX7_letter_9 : decode cX7_letter 9 = .ok (.ifCond .lt 8, 3) := tb_d tk_X7_letter_1 5 (9, .ifCond .lt 8, 3) rfl
theorem dX7_letter_12 : decode cX7_letter 12 = .ok (.iload_n 2, 1) := tb_d tk_X7_letter_1 6 (12, .iload_n 2, 1) rfl
theorem dX7_letter_13 : decode cX7_letter 13 = .ok (.iconst 3, 1) := tb_d tk_X7_letter_1 7 (13, .iconst 3, 1) rfl
theorem dX7_letter_14 : decode cX7_letter 14 = .ok (.if_icmp .lt 6, 3) := tb_d tk_X7_letter_1 8 (14, .if_icmp .lt 6, 3) rfl
theorem dX7_letter_17 : decode cX7_letter 17 = .ok (.ldc 59, 2) := tb_d tk_X7_letter_1 9 (17, .ldc 59, 2) rfl
theorem dX7_letter_19 : decode cX7_letter 19 = .ok (.ireturn, 1) := tb_d tk_X7_letter_1 10 (19, .ireturn, 1) rfl
theorem dX7_letter_20 : decode cX7_letter 20 = .ok (.aload_n 0, 1) := tb_d tk_X7_letter_1 11 (20, .aload_n 0, 1) rfl
theorem dX7_letter_21 : decode cX7_letter 21 = .ok (.getfield 25, 3) := tb_d tk_X7_letter_1 12 (21, .getfield 25, 3) rfl
theorem dX7_letter_24 : decode cX7_letter 24 = .ok (.getfield 200, 3) := tb_d tk_X7_letter_1 13 (24, .getfield 200, 3) rfl
theorem dX7_letter_27 : decode cX7_letter 27 = .ok (.iload_n 1, 1) := tb_d tk_X7_letter_1 14 (27, .iload_n 1, 1) rfl
theorem dX7_letter_28 : decode cX7_letter 28 = .ok (.iconst 3, 1) := tb_d tk_X7_letter_1 15 (28, .iconst 3, 1) rfl
theorem dX7_letter_29 : decode cX7_letter 29 = .ok (.imul, 1) := tb_d tk_X7_letter_1 16 (29, .imul, 1) rfl
theorem dX7_letter_30 : decode cX7_letter 30 = .ok (.iload_n 2, 1) := tb_d tk_X7_letter_1 17 (30, .iload_n 2, 1) rfl
theorem dX7_letter_31 : decode cX7_letter 31 = .ok (.iadd, 1) := tb_d tk_X7_letter_1 18 (31, .iadd, 1) rfl
theorem dX7_letter_32 : decode cX7_letter 32 = .ok (.iaload, 1) := tb_d tk_X7_letter_1 19 (32, .iaload, 1) rfl
theorem dX7_letter_33 : decode cX7_letter 33 = .ok (.ireturn, 1) := tb_d tk_X7_letter_1 20 (33, .ireturn, 1) rfl
set_option maxRecDepth 20000 in
theorem ggX7_like_X7_isWord : GoodIn wsX7_like wsX7_isWord := goodIn_r _ [7, 2, 8, 19, 20, 21, 22, 23, 24, 25, 26, 27, 28, 29, 30, 31, 32, 33, 34, 35] (by decide +kernel) (by decide +kernel)
set_option maxRecDepth 20000 in
theorem gX7_like_X7_isWord : GoodIn wsX7_like (wsV RX7 156 RX7 yX7_isWord wsX7_isWord) := goodIn_app (goodIn_of _ (by decide +kernel)) ggX7_like_X7_isWord
set_option maxRecDepth 20000 in
theorem ggX7_like_X2_distance : GoodIn wsX7_like wsX2_distance := goodIn_r _ [13, 14, 28, 29, 30, 31, 32, 33, 34, 35] (by decide +kernel) (by decide +kernel)
set_option maxRecDepth 20000 in
theorem gX7_like_X2_distance : GoodIn wsX7_like (wsV RX7 203 RX2 yX2_distance wsX2_distance) := goodIn_app (goodIn_of _ (by decide +kernel)) ggX7_like_X2_distance
set_option maxRecDepth 20000 in
theorem ggX7_like_X2_lips : GoodIn wsX7_like wsX2_lips := goodIn_r _ [18, 14, 28, 29, 30, 31, 32, 33, 34, 35] (by decide +kernel) (by decide +kernel)
set_option maxRecDepth 20000 in
theorem gX7_like_X2_lips : GoodIn wsX7_like (wsV RX7 206 RX2 yX2_lips wsX2_lips) := goodIn_app (goodIn_of _ (by decide +kernel)) ggX7_like_X2_lips
def tb_X7_like_1 : List (Nat × Instr × Nat) := [(0, .aload_n 0, 1), (1, .iload_n 1, 1), (2, .invokevirtual 156, 3), (5, .ifCond .eq 20, 3), (8, .aload_n 0, 1), (9, .iload_n 2, 1), (10, .invokevirtual 156, 3), (13, .ifCond .eq 12, 3), (16, .iload_n 3, 1), (17, .ifCond .lt 8, 3), (20, .iload_n 3, 1), (21, .iconst 1, 1), (22, .if_icmp .le 6, 3), (25, .ldc 59, 2), (27, .ireturn, 1), (28, .iload_n 3, 1), (29, .ifCond .ne 15, 3), (32, .aload_n 0, 1), (33, .getfield 25, 3), (36, .iload_n 1, 1), (37, .iload_n 2, 1), (38, .invokevirtual 203, 3), (41, .goto 12, 3), (44, .aload_n 0, 1), (45, .getfield 25, 3), (48, .iload_n 1, 1), (49, .iload_n 2, 1), (50, .invokevirtual 206, 3), (53, .ireturn, 1)]
set_option maxRecDepth 100000 in
theorem tk_X7_like_1 : (tb_X7_like_1.all fun q => decide (decode cX7_like q.1 = .ok q.2)) = true := by decide +kernel
theorem dX7_like_0 : decode cX7_like 0 = .ok (.aload_n 0, 1) := tb_d tk_X7_like_1 0 (0, .aload_n 0, 1) rfl
theorem dX7_like_1 : decode cX7_like 1 = .ok (.iload_n 1, 1) := tb_d tk_X7_like_1 1 (1, .iload_n 1, 1) rfl
theorem dX7_like_2 : decode cX7_like 2 = .ok (.invokevirtual 156, 3) := tb_d tk_X7_like_1 2 (2, .invokevirtual 156, 3) rfl
theorem dX7_like_5 : decode cX7_like 5 = .ok (.ifCond .eq 20, 3) := tb_d tk_X7_like_1 3 (5, .ifCond .eq 20, 3) rfl
theorem dX7_like_8 : decode cX7_like 8 = .ok (.aload_n 0, 1) := tb_d tk_X7_like_1 4 (8, .aload_n 0, 1) rfl
theorem dX7_like_9 : decode cX7_like 9 = .ok (.iload_n 2, 1) := tb_d tk_X7_like_1 5 (9, .iload_n 2, 1) rfl
theorem dX7_like_10 : decode cX7_like 10 = .ok (.invokevirtual 156, 3) := tb_d tk_X7_like_1 6 (10, .invokevirtual 156, 3) rfl
theorem dX7_like_13 : decode cX7_like 13 = .ok (.ifCond .eq 12, 3) := tb_d tk_X7_like_1 7 (13, .ifCond .eq 12, 3) rfl
theorem dX7_like_16 : decode cX7_like 16 = .ok (.iload_n 3, 1) := tb_d tk_X7_like_1 8 (16, .iload_n 3, 1) rfl
theorem dX7_like_17 : decode cX7_like 17 = .ok (.ifCond .lt 8, 3) := tb_d tk_X7_like_1 9 (17, .ifCond .lt 8, 3) rfl
theorem dX7_like_20 : decode cX7_like 20 = .ok (.iload_n 3, 1) := tb_d tk_X7_like_1 10 (20, .iload_n 3, 1) rfl
theorem dX7_like_21 : decode cX7_like 21 = .ok (.iconst 1, 1) := tb_d tk_X7_like_1 11 (21, .iconst 1, 1) rfl
theorem dX7_like_22 : decode cX7_like 22 = .ok (.if_icmp .le 6, 3) := tb_d tk_X7_like_1 12 (22, .if_icmp .le 6, 3) rfl
theorem dX7_like_25 : decode cX7_like 25 = .ok (.ldc 59, 2) := tb_d tk_X7_like_1 13 (25, .ldc 59, 2) rfl
theorem dX7_like_27 : decode cX7_like 27 = .ok (.ireturn, 1) := tb_d tk_X7_like_1 14 (27, .ireturn, 1) rfl
theorem dX7_like_28 : decode cX7_like 28 = .ok (.iload_n 3, 1) := tb_d tk_X7_like_1 15 (28, .iload_n 3, 1) rfl
theorem dX7_like_29 : decode cX7_like 29 = .ok (.ifCond .ne 15, 3) := tb_d tk_X7_like_1 16 (29, .ifCond .ne 15, 3) rfl
theorem dX7_like_32 : decode cX7_like 32 = .ok (.aload_n 0, 1) := tb_d tk_X7_like_1 17 (32, .aload_n 0, 1) rfl
theorem dX7_like_33 : decode cX7_like 33 = .ok (.getfield 25, 3) := tb_d tk_X7_like_1 18 (33, .getfield 25, 3) rfl
theorem dX7_like_36 : decode cX7_like 36 = .ok (.iload_n 1, 1) := tb_d tk_X7_like_1 19 (36, .iload_n 1, 1) rfl
theorem dX7_like_37 : decode cX7_like 37 = .ok (.iload_n 2, 1) := tb_d tk_X7_like_1 20 (37, .iload_n 2, 1) rfl
theorem dX7_like_38 : decode cX7_like 38 = .ok (.invokevirtual 203, 3) := tb_d tk_X7_like_1 21 (38, .invokevirtual 203, 3) rfl
theorem dX7_like_41 : decode cX7_like 41 = .ok (.goto 12, 3) := tb_d tk_X7_like_1 22 (41, .goto 12, 3) rfl
theorem dX7_like_44 : decode cX7_like 44 = .ok (.aload_n 0, 1) := tb_d tk_X7_like_1 23 (44, .aload_n 0, 1) rfl
theorem dX7_like_45 : decode cX7_like 45 = .ok (.getfield 25, 3) := tb_d tk_X7_like_1 24 (45, .getfield 25, 3) rfl
theorem dX7_like_48 : decode cX7_like 48 = .ok (.iload_n 1, 1) := tb_d tk_X7_like_1 25 (48, .iload_n 1, 1) rfl
theorem dX7_like_49 : decode cX7_like 49 = .ok (.iload_n 2, 1) := tb_d tk_X7_like_1 26 (49, .iload_n 2, 1) rfl
theorem dX7_like_50 : decode cX7_like 50 = .ok (.invokevirtual 206, 3) := tb_d tk_X7_like_1 27 (50, .invokevirtual 206, 3) rfl
theorem dX7_like_53 : decode cX7_like 53 = .ok (.ireturn, 1) := tb_d tk_X7_like_1 28 (53, .ireturn, 1) rfl
set_option maxRecDepth 20000 in
theorem ggX7_guard_X7_isGuard : GoodIn wsX7_guard wsX7_isGuard := goodIn_r _ [10, 2, 11, 34, 35, 36, 37, 38, 39, 40, 41, 42, 43, 44, 45, 46, 47, 48, 49, 50] (by decide +kernel) (by decide +kernel)
set_option maxRecDepth 20000 in
theorem gX7_guard_X7_isGuard : GoodIn wsX7_guard (wsV RX7 187 RX7 yX7_isGuard wsX7_isGuard) := goodIn_app (goodIn_of _ (by decide +kernel)) ggX7_guard_X7_isGuard
set_option maxRecDepth 20000 in
theorem ggX7_guard_X2_isThere : GoodIn wsX7_guard wsX2_isThere := goodIn_r _ [16, 17, 18, 43, 44, 45, 46, 47, 48, 49, 50, 51, 52, 53, 54, 55, 56, 57, 58] (by decide +kernel) (by decide +kernel)
set_option maxRecDepth 20000 in
theorem gX7_guard_X2_isThere : GoodIn wsX7_guard (wsV RX7 172 RX2 yX2_isThere wsX2_isThere) := goodIn_app (goodIn_of _ (by decide +kernel)) ggX7_guard_X2_isThere
set_option maxRecDepth 20000 in
theorem ggX7_guard_X7_bit : GoodIn wsX7_guard wsX7_bit := goodIn_r _ [21] (by decide +kernel) (by decide +kernel)
set_option maxRecDepth 20000 in
theorem gX7_guard_X7_bit : GoodIn wsX7_guard (va_wsS RX7 180 yX7_bit wsX7_bit) := goodIn_app (goodIn_of _ (by decide +kernel)) ggX7_guard_X7_bit
set_option maxRecDepth 20000 in
theorem ggX7_guard_X2_hoursOf : GoodIn wsX7_guard wsX2_hoursOf := goodIn_r _ [25, 17, 26, 27, 28, 29, 15, 30, 31, 32, 9, 33, 20, 21, 43, 44, 45, 46, 47, 48, 49, 50, 51, 52, 53, 54, 55, 56, 57, 58] (by decide +kernel) (by decide +kernel)
set_option maxRecDepth 20000 in
theorem gX7_guard_X2_hoursOf : GoodIn wsX7_guard (wsV RX7 215 RX2 yX2_hoursOf wsX2_hoursOf) := goodIn_app (goodIn_of _ (by decide +kernel)) ggX7_guard_X2_hoursOf
def tb_X7_guard_1 : List (Nat × Instr × Nat) := [(0, .aload_n 0, 1), (1, .iload_n 1, 1), (2, .invokevirtual 187, 3), (5, .ifCond .ne 6, 3), (8, .ldc 59, 2), (10, .ireturn, 1), (11, .iload_n 2, 1), (12, .tableswitch 76 0 3 #[32, 42, 55, 67], 32), (44, .aload_n 0, 1), (45, .getfield 25, 3), (48, .getfield 209, 3), (51, .iload_n 1, 1), (52, .iaload, 1), (53, .ireturn, 1), (54, .aload_n 0, 1), (55, .getfield 25, 3), (58, .getfield 137, 3), (61, .getfield 212, 3), (64, .iload_n 1, 1), (65, .iaload, 1), (66, .ireturn, 1), (67, .aload_n 0, 1), (68, .getfield 25, 3), (71, .iload_n 1, 1), (72, .invokevirtual 172, 3), (75, .invokestatic 180, 3), (78, .ireturn, 1), (79, .aload_n 0, 1), (80, .getfield 25, 3), (83, .iload_n 1, 1), (84, .invokevirtual 215, 3), (87, .ireturn, 1), (88, .ldc 59, 2), (90, .ireturn, 1)]
set_option maxRecDepth 100000 in
theorem tk_X7_guard_1 : (tb_X7_guard_1.all fun q => decide (decode cX7_guard q.1 = .ok q.2)) = true := by decide +kernel
theorem dX7_guard_0 : decode cX7_guard 0 = .ok (.aload_n 0, 1) := tb_d tk_X7_guard_1 0 (0, .aload_n 0, 1) rfl
theorem dX7_guard_1 : decode cX7_guard 1 = .ok (.iload_n 1, 1) := tb_d tk_X7_guard_1 1 (1, .iload_n 1, 1) rfl
theorem dX7_guard_2 : decode cX7_guard 2 = .ok (.invokevirtual 187, 3) := tb_d tk_X7_guard_1 2 (2, .invokevirtual 187, 3) rfl
theorem dX7_guard_5 : decode cX7_guard 5 = .ok (.ifCond .ne 6, 3) := tb_d tk_X7_guard_1 3 (5, .ifCond .ne 6, 3) rfl
theorem dX7_guard_8 : decode cX7_guard 8 = .ok (.ldc 59, 2) := tb_d tk_X7_guard_1 4 (8, .ldc 59, 2) rfl
theorem dX7_guard_10 : decode cX7_guard 10 = .ok (.ireturn, 1) := tb_d tk_X7_guard_1 5 (10, .ireturn, 1) rfl
theorem dX7_guard_11 : decode cX7_guard 11 = .ok (.iload_n 2, 1) := tb_d tk_X7_guard_1 6 (11, .iload_n 2, 1) rfl
theorem dX7_guard_12 : decode cX7_guard 12 = .ok (.tableswitch 76 0 3 #[32, 42, 55, 67], 32) := tb_d tk_X7_guard_1 7 (12, .tableswitch 76 0 3 #[32, 42, 55, 67], 32) rfl
theorem dX7_guard_44 : decode cX7_guard 44 = .ok (.aload_n 0, 1) := tb_d tk_X7_guard_1 8 (44, .aload_n 0, 1) rfl
theorem dX7_guard_45 : decode cX7_guard 45 = .ok (.getfield 25, 3) := tb_d tk_X7_guard_1 9 (45, .getfield 25, 3) rfl
theorem dX7_guard_48 : decode cX7_guard 48 = .ok (.getfield 209, 3) := tb_d tk_X7_guard_1 10 (48, .getfield 209, 3) rfl
theorem dX7_guard_51 : decode cX7_guard 51 = .ok (.iload_n 1, 1) := tb_d tk_X7_guard_1 11 (51, .iload_n 1, 1) rfl
theorem dX7_guard_52 : decode cX7_guard 52 = .ok (.iaload, 1) := tb_d tk_X7_guard_1 12 (52, .iaload, 1) rfl
theorem dX7_guard_53 : decode cX7_guard 53 = .ok (.ireturn, 1) := tb_d tk_X7_guard_1 13 (53, .ireturn, 1) rfl
theorem dX7_guard_54 : decode cX7_guard 54 = .ok (.aload_n 0, 1) := tb_d tk_X7_guard_1 14 (54, .aload_n 0, 1) rfl
theorem dX7_guard_55 : decode cX7_guard 55 = .ok (.getfield 25, 3) := tb_d tk_X7_guard_1 15 (55, .getfield 25, 3) rfl
theorem dX7_guard_58 : decode cX7_guard 58 = .ok (.getfield 137, 3) := tb_d tk_X7_guard_1 16 (58, .getfield 137, 3) rfl
theorem dX7_guard_61 : decode cX7_guard 61 = .ok (.getfield 212, 3) := tb_d tk_X7_guard_1 17 (61, .getfield 212, 3) rfl
theorem dX7_guard_64 : decode cX7_guard 64 = .ok (.iload_n 1, 1) := tb_d tk_X7_guard_1 18 (64, .iload_n 1, 1) rfl
theorem dX7_guard_65 : decode cX7_guard 65 = .ok (.iaload, 1) := tb_d tk_X7_guard_1 19 (65, .iaload, 1) rfl
theorem dX7_guard_66 : decode cX7_guard 66 = .ok (.ireturn, 1) := tb_d tk_X7_guard_1 20 (66, .ireturn, 1) rfl
theorem dX7_guard_67 : decode cX7_guard 67 = .ok (.aload_n 0, 1) := tb_d tk_X7_guard_1 21 (67, .aload_n 0, 1) rfl
theorem dX7_guard_68 : decode cX7_guard 68 = .ok (.getfield 25, 3) := tb_d tk_X7_guard_1 22 (68, .getfield 25, 3) rfl
theorem dX7_guard_71 : decode cX7_guard 71 = .ok (.iload_n 1, 1) := tb_d tk_X7_guard_1 23 (71, .iload_n 1, 1) rfl
theorem dX7_guard_72 : decode cX7_guard 72 = .ok (.invokevirtual 172, 3) := tb_d tk_X7_guard_1 24 (72, .invokevirtual 172, 3) rfl
theorem dX7_guard_75 : decode cX7_guard 75 = .ok (.invokestatic 180, 3) := tb_d tk_X7_guard_1 25 (75, .invokestatic 180, 3) rfl
theorem dX7_guard_78 : decode cX7_guard 78 = .ok (.ireturn, 1) := tb_d tk_X7_guard_1 26 (78, .ireturn, 1) rfl
theorem dX7_guard_79 : decode cX7_guard 79 = .ok (.aload_n 0, 1) := tb_d tk_X7_guard_1 27 (79, .aload_n 0, 1) rfl
theorem dX7_guard_80 : decode cX7_guard 80 = .ok (.getfield 25, 3) := tb_d tk_X7_guard_1 28 (80, .getfield 25, 3) rfl
theorem dX7_guard_83 : decode cX7_guard 83 = .ok (.iload_n 1, 1) := tb_d tk_X7_guard_1 29 (83, .iload_n 1, 1) rfl
theorem dX7_guard_84 : decode cX7_guard 84 = .ok (.invokevirtual 215, 3) := tb_d tk_X7_guard_1 30 (84, .invokevirtual 215, 3) rfl
theorem dX7_guard_87 : decode cX7_guard 87 = .ok (.ireturn, 1) := tb_d tk_X7_guard_1 31 (87, .ireturn, 1) rfl
theorem dX7_guard_88 : decode cX7_guard 88 = .ok (.ldc 59, 2) := tb_d tk_X7_guard_1 32 (88, .ldc 59, 2) rfl
theorem dX7_guard_90 : decode cX7_guard 90 = .ok (.ireturn, 1) := tb_d tk_X7_guard_1 33 (90, .ireturn, 1) rfl
def tb_X7_tried_1 : List (Nat × Instr × Nat) := [(0, .iload_n 1, 1), (1, .ifCond .lt 17, 3), (4, .iload_n 1, 1), (5, .aload_n 0, 1), (6, .getfield 25, 3), (9, .getfield 137, 3), (12, .getfield 162, 3), (15, .if_icmp .lt 6, 3), (18, .ldc 59, 2), (20, .ireturn, 1), (21, .iload_n 2, 1), (22, .tableswitch 65 0 2 #[26, 39, 52], 26), (48, .aload_n 0, 1), (49, .getfield 25, 3), (52, .getfield 137, 3), (55, .getfield 218, 3), (58, .iload_n 1, 1), (59, .iaload, 1), (60, .ireturn, 1), (61, .aload_n 0, 1), (62, .getfield 25, 3), (65, .getfield 137, 3), (68, .getfield 221, 3), (71, .iload_n 1, 1), (72, .iaload, 1), (73, .ireturn, 1), (74, .aload_n 0, 1), (75, .getfield 25, 3), (78, .getfield 137, 3), (81, .getfield 224, 3), (84, .iload_n 1, 1), (85, .iaload, 1), (86, .ireturn, 1), (87, .ldc 59, 2), (89, .ireturn, 1)]
set_option maxRecDepth 100000 in
theorem tk_X7_tried_1 : (tb_X7_tried_1.all fun q => decide (decode cX7_tried q.1 = .ok q.2)) = true := by decide +kernel
theorem dX7_tried_0 : decode cX7_tried 0 = .ok (.iload_n 1, 1) := tb_d tk_X7_tried_1 0 (0, .iload_n 1, 1) rfl
theorem dX7_tried_1 : decode cX7_tried 1 = .ok (.ifCond .lt 17, 3) := tb_d tk_X7_tried_1 1 (1, .ifCond .lt 17, 3) rfl
theorem dX7_tried_4 : decode cX7_tried 4 = .ok (.iload_n 1, 1) := tb_d tk_X7_tried_1 2 (4, .iload_n 1, 1) rfl
theorem dX7_tried_5 : decode cX7_tried 5 = .ok (.aload_n 0, 1) := tb_d tk_X7_tried_1 3 (5, .aload_n 0, 1) rfl
theorem dX7_tried_6 : decode cX7_tried 6 = .ok (.getfield 25, 3) := tb_d tk_X7_tried_1 4 (6, .getfield 25, 3) rfl
theorem dX7_tried_9 : decode cX7_tried 9 = .ok (.getfield 137, 3) := tb_d tk_X7_tried_1 5 (9, .getfield 137, 3) rfl
theorem dX7_tried_12 : decode cX7_tried 12 = .ok (.getfield 162, 3) := tb_d tk_X7_tried_1 6 (12, .getfield 162, 3) rfl
theorem dX7_tried_15 : decode cX7_tried 15 = .ok (.if_icmp .lt 6, 3) := tb_d tk_X7_tried_1 7 (15, .if_icmp .lt 6, 3) rfl
theorem dX7_tried_18 : decode cX7_tried 18 = .ok (.ldc 59, 2) := tb_d tk_X7_tried_1 8 (18, .ldc 59, 2) rfl
theorem dX7_tried_20 : decode cX7_tried 20 = .ok (.ireturn, 1) := tb_d tk_X7_tried_1 9 (20, .ireturn, 1) rfl
theorem dX7_tried_21 : decode cX7_tried 21 = .ok (.iload_n 2, 1) := tb_d tk_X7_tried_1 10 (21, .iload_n 2, 1) rfl
theorem dX7_tried_22 : decode cX7_tried 22 = .ok (.tableswitch 65 0 2 #[26, 39, 52], 26) := tb_d tk_X7_tried_1 11 (22, .tableswitch 65 0 2 #[26, 39, 52], 26) rfl
theorem dX7_tried_48 : decode cX7_tried 48 = .ok (.aload_n 0, 1) := tb_d tk_X7_tried_1 12 (48, .aload_n 0, 1) rfl
theorem dX7_tried_49 : decode cX7_tried 49 = .ok (.getfield 25, 3) := tb_d tk_X7_tried_1 13 (49, .getfield 25, 3) rfl
theorem dX7_tried_52 : decode cX7_tried 52 = .ok (.getfield 137, 3) := tb_d tk_X7_tried_1 14 (52, .getfield 137, 3) rfl
theorem dX7_tried_55 : decode cX7_tried 55 = .ok (.getfield 218, 3) := tb_d tk_X7_tried_1 15 (55, .getfield 218, 3) rfl
theorem dX7_tried_58 : decode cX7_tried 58 = .ok (.iload_n 1, 1) := tb_d tk_X7_tried_1 16 (58, .iload_n 1, 1) rfl
theorem dX7_tried_59 : decode cX7_tried 59 = .ok (.iaload, 1) := tb_d tk_X7_tried_1 17 (59, .iaload, 1) rfl
theorem dX7_tried_60 : decode cX7_tried 60 = .ok (.ireturn, 1) := tb_d tk_X7_tried_1 18 (60, .ireturn, 1) rfl
theorem dX7_tried_61 : decode cX7_tried 61 = .ok (.aload_n 0, 1) := tb_d tk_X7_tried_1 19 (61, .aload_n 0, 1) rfl
theorem dX7_tried_62 : decode cX7_tried 62 = .ok (.getfield 25, 3) := tb_d tk_X7_tried_1 20 (62, .getfield 25, 3) rfl
theorem dX7_tried_65 : decode cX7_tried 65 = .ok (.getfield 137, 3) := tb_d tk_X7_tried_1 21 (65, .getfield 137, 3) rfl
theorem dX7_tried_68 : decode cX7_tried 68 = .ok (.getfield 221, 3) := tb_d tk_X7_tried_1 22 (68, .getfield 221, 3) rfl
theorem dX7_tried_71 : decode cX7_tried 71 = .ok (.iload_n 1, 1) := tb_d tk_X7_tried_1 23 (71, .iload_n 1, 1) rfl
theorem dX7_tried_72 : decode cX7_tried 72 = .ok (.iaload, 1) := tb_d tk_X7_tried_1 24 (72, .iaload, 1) rfl
theorem dX7_tried_73 : decode cX7_tried 73 = .ok (.ireturn, 1) := tb_d tk_X7_tried_1 25 (73, .ireturn, 1) rfl
theorem dX7_tried_74 : decode cX7_tried 74 = .ok (.aload_n 0, 1) := tb_d tk_X7_tried_1 26 (74, .aload_n 0, 1) rfl
theorem dX7_tried_75 : decode cX7_tried 75 = .ok (.getfield 25, 3) := tb_d tk_X7_tried_1 27 (75, .getfield 25, 3) rfl
theorem dX7_tried_78 : decode cX7_tried 78 = .ok (.getfield 137, 3) := tb_d tk_X7_tried_1 28 (78, .getfield 137, 3) rfl
theorem dX7_tried_81 : decode cX7_tried 81 = .ok (.getfield 224, 3) := tb_d tk_X7_tried_1 29 (81, .getfield 224, 3) rfl
theorem dX7_tried_84 : decode cX7_tried 84 = .ok (.iload_n 1, 1) := tb_d tk_X7_tried_1 30 (84, .iload_n 1, 1) rfl
theorem dX7_tried_85 : decode cX7_tried 85 = .ok (.iaload, 1) := tb_d tk_X7_tried_1 31 (85, .iaload, 1) rfl
theorem dX7_tried_86 : decode cX7_tried 86 = .ok (.ireturn, 1) := tb_d tk_X7_tried_1 32 (86, .ireturn, 1) rfl
theorem dX7_tried_87 : decode cX7_tried 87 = .ok (.ldc 59, 2) := tb_d tk_X7_tried_1 33 (87, .ldc 59, 2) rfl
theorem dX7_tried_89 : decode cX7_tried 89 = .ok (.ireturn, 1) := tb_d tk_X7_tried_1 34 (89, .ireturn, 1) rfl
set_option maxRecDepth 20000 in
theorem ggX7_secret_X7_noGate : GoodIn wsX7_secret wsX7_noGate := goodIn_r _ [8, 2, 9, 31, 32, 33, 34, 35, 36, 37, 38, 39, 40, 41, 42, 43, 44, 45, 46, 47] (by decide +kernel) (by decide +kernel)
set_option maxRecDepth 20000 in
theorem gX7_secret_X7_noGate : GoodIn wsX7_secret (wsV RX7 133 RX7 yX7_noGate wsX7_noGate) := goodIn_app (goodIn_of _ (by decide +kernel)) ggX7_secret_X7_noGate
set_option maxRecDepth 20000 in
theorem ggX7_secret_X7_isAhead : GoodIn wsX7_secret wsX7_isAhead := goodIn_r _ [13] (by decide +kernel) (by decide +kernel)
set_option maxRecDepth 20000 in
theorem gX7_secret_X7_isAhead : GoodIn wsX7_secret (wsV RX7 227 RX7 yX7_isAhead wsX7_isAhead) := goodIn_app (goodIn_of _ (by decide +kernel)) ggX7_secret_X7_isAhead
set_option maxRecDepth 20000 in
theorem ggX7_secret_X2_secretIn : GoodIn wsX7_secret wsX2_secretIn := goodIn_r _ [18, 19, 20, 21, 22, 23, 24, 25, 26, 17, 27, 28, 29, 7, 30, 40, 41, 42, 43, 44, 45, 46, 47, 48, 49, 50, 51, 52, 53, 54, 55] (by decide +kernel) (by decide +kernel)
set_option maxRecDepth 20000 in
theorem gX7_secret_X2_secretIn : GoodIn wsX7_secret (wsV RX7 153 RX2 yX2_secretIn wsX2_secretIn) := goodIn_app (goodIn_of _ (by decide +kernel)) ggX7_secret_X2_secretIn
def tb_X7_secret_1 : List (Nat × Instr × Nat) := [(0, .aload_n 0, 1), (1, .invokevirtual 133, 3), (4, .ifCond .eq 6, 3), (7, .ldc 136, 2), (9, .ireturn, 1), (10, .aload_n 0, 1), (11, .iload_n 1, 1), (12, .invokevirtual 227, 3), (15, .ifCond .eq 14, 3), (18, .aload_n 0, 1), (19, .getfield 25, 3), (22, .iload_n 1, 1), (23, .invokevirtual 153, 3), (26, .goto 5, 3), (29, .ldc 59, 2), (31, .ireturn, 1)]
set_option maxRecDepth 100000 in
theorem tk_X7_secret_1 : (tb_X7_secret_1.all fun q => decide (decode cX7_secret q.1 = .ok q.2)) = true := by decide +kernel
theorem dX7_secret_0 : decode cX7_secret 0 = .ok (.aload_n 0, 1) := tb_d tk_X7_secret_1 0 (0, .aload_n 0, 1) rfl
theorem dX7_secret_1 : decode cX7_secret 1 = .ok (.invokevirtual 133, 3) := tb_d tk_X7_secret_1 1 (1, .invokevirtual 133, 3) rfl
theorem dX7_secret_4 : decode cX7_secret 4 = .ok (.ifCond .eq 6, 3) := tb_d tk_X7_secret_1 2 (4, .ifCond .eq 6, 3) rfl
theorem dX7_secret_7 : decode cX7_secret 7 = .ok (.ldc 136, 2) := tb_d tk_X7_secret_1 3 (7, .ldc 136, 2) rfl
theorem dX7_secret_9 : decode cX7_secret 9 = .ok (.ireturn, 1) := tb_d tk_X7_secret_1 4 (9, .ireturn, 1) rfl
theorem dX7_secret_10 : decode cX7_secret 10 = .ok (.aload_n 0, 1) := tb_d tk_X7_secret_1 5 (10, .aload_n 0, 1) rfl
theorem dX7_secret_11 : decode cX7_secret 11 = .ok (.iload_n 1, 1) := tb_d tk_X7_secret_1 6 (11, .iload_n 1, 1) rfl
theorem dX7_secret_12 : decode cX7_secret 12 = .ok (.invokevirtual 227, 3) := tb_d tk_X7_secret_1 7 (12, .invokevirtual 227, 3) rfl
theorem dX7_secret_15 : decode cX7_secret 15 = .ok (.ifCond .eq 14, 3) := tb_d tk_X7_secret_1 8 (15, .ifCond .eq 14, 3) rfl
theorem dX7_secret_18 : decode cX7_secret 18 = .ok (.aload_n 0, 1) := tb_d tk_X7_secret_1 9 (18, .aload_n 0, 1) rfl
theorem dX7_secret_19 : decode cX7_secret 19 = .ok (.getfield 25, 3) := tb_d tk_X7_secret_1 10 (19, .getfield 25, 3) rfl
theorem dX7_secret_22 : decode cX7_secret 22 = .ok (.iload_n 1, 1) := tb_d tk_X7_secret_1 11 (22, .iload_n 1, 1) rfl
theorem dX7_secret_23 : decode cX7_secret 23 = .ok (.invokevirtual 153, 3) := tb_d tk_X7_secret_1 12 (23, .invokevirtual 153, 3) rfl
theorem dX7_secret_26 : decode cX7_secret 26 = .ok (.goto 5, 3) := tb_d tk_X7_secret_1 13 (26, .goto 5, 3) rfl
theorem dX7_secret_29 : decode cX7_secret 29 = .ok (.ldc 59, 2) := tb_d tk_X7_secret_1 14 (29, .ldc 59, 2) rfl
theorem dX7_secret_31 : decode cX7_secret 31 = .ok (.ireturn, 1) := tb_d tk_X7_secret_1 15 (31, .ireturn, 1) rfl
set_option maxRecDepth 20000 in
theorem ggX7_taken_X7_isWord : GoodIn wsX7_taken wsX7_isWord := goodIn_r _ [7, 2, 8, 69, 70, 71, 72, 73, 74, 75, 76, 77, 78, 79, 80, 81, 82, 83, 84, 85] (by decide +kernel) (by decide +kernel)
set_option maxRecDepth 20000 in
theorem gX7_taken_X7_isWord : GoodIn wsX7_taken (wsV RX7 156 RX7 yX7_isWord wsX7_isWord) := goodIn_app (goodIn_of _ (by decide +kernel)) ggX7_taken_X7_isWord
set_option maxRecDepth 20000 in
theorem ggX7_taken_X7_isHour : GoodIn wsX7_taken wsX7_isHour := goodIn_r _ [12] (by decide +kernel) (by decide +kernel)
set_option maxRecDepth 20000 in
theorem gX7_taken_X7_isHour : GoodIn wsX7_taken (wsV RX7 159 RX7 yX7_isHour wsX7_isHour) := goodIn_app (goodIn_of _ (by decide +kernel)) ggX7_taken_X7_isHour
set_option maxRecDepth 20000 in
theorem ggX7_taken_X7_isAhead : GoodIn wsX7_taken wsX7_isAhead := goodIn_r _ [16] (by decide +kernel) (by decide +kernel)
set_option maxRecDepth 20000 in
theorem gX7_taken_X7_isAhead : GoodIn wsX7_taken (wsV RX7 227 RX7 yX7_isAhead wsX7_isAhead) := goodIn_app (goodIn_of _ (by decide +kernel)) ggX7_taken_X7_isAhead
set_option maxRecDepth 20000 in
theorem ggX7_taken_X2_catches : GoodIn wsX7_taken wsX2_catches := goodIn_r _ [21, 22, 23, 24, 25, 26, 20, 27, 28, 29, 30, 31, 32, 33, 34, 35, 36, 6, 37, 38, 39, 40, 41, 42, 43, 44, 45, 46, 47, 48, 49, 50, 51, 52, 53, 54, 55, 56, 57, 58, 59, 60, 61, 62, 63, 64, 65, 78, 79, 80, 81, 82, 83, 84, 85, 86, 87, 88, 89, 90, 91, 92, 93] (by decide +kernel) (by decide +kernel)
set_option maxRecDepth 20000 in
theorem gX7_taken_X2_catches : GoodIn wsX7_taken (wsV RX7 168 RX2 yX2_catches wsX2_catches) := goodIn_app (goodIn_of _ (by decide +kernel)) ggX7_taken_X2_catches
set_option maxRecDepth 20000 in
theorem ggX7_taken_X7_bit : GoodIn wsX7_taken wsX7_bit := goodIn_r _ [68] (by decide +kernel) (by decide +kernel)
set_option maxRecDepth 20000 in
theorem gX7_taken_X7_bit : GoodIn wsX7_taken (va_wsS RX7 180 yX7_bit wsX7_bit) := goodIn_app (goodIn_of _ (by decide +kernel)) ggX7_taken_X7_bit
def tb_X7_taken_1 : List (Nat × Instr × Nat) := [(0, .aload_n 0, 1), (1, .iload_n 1, 1), (2, .invokevirtual 156, 3), (5, .ifCond .eq 19, 3), (8, .aload_n 0, 1), (9, .iload_n 2, 1), (10, .invokevirtual 159, 3), (13, .ifCond .eq 11, 3), (16, .aload_n 0, 1), (17, .iload_n 3, 1), (18, .invokevirtual 227, 3), (21, .ifCond .ne 6, 3), (24, .ldc 59, 2), (26, .ireturn, 1), (27, .aload_n 0, 1), (28, .getfield 25, 3), (31, .iload_n 1, 1), (32, .iload_n 2, 1), (33, .iload_n 3, 1), (34, .invokevirtual 168, 3), (37, .invokestatic 180, 3), (40, .ireturn, 1)]
set_option maxRecDepth 100000 in
theorem tk_X7_taken_1 : (tb_X7_taken_1.all fun q => decide (decode cX7_taken q.1 = .ok q.2)) = true := by decide +kernel
theorem dX7_taken_0 : decode cX7_taken 0 = .ok (.aload_n 0, 1) := tb_d tk_X7_taken_1 0 (0, .aload_n 0, 1) rfl
theorem dX7_taken_1 : decode cX7_taken 1 = .ok (.iload_n 1, 1) := tb_d tk_X7_taken_1 1 (1, .iload_n 1, 1) rfl
theorem dX7_taken_2 : decode cX7_taken 2 = .ok (.invokevirtual 156, 3) := tb_d tk_X7_taken_1 2 (2, .invokevirtual 156, 3) rfl
theorem dX7_taken_5 : decode cX7_taken 5 = .ok (.ifCond .eq 19, 3) := tb_d tk_X7_taken_1 3 (5, .ifCond .eq 19, 3) rfl
theorem dX7_taken_8 : decode cX7_taken 8 = .ok (.aload_n 0, 1) := tb_d tk_X7_taken_1 4 (8, .aload_n 0, 1) rfl
theorem dX7_taken_9 : decode cX7_taken 9 = .ok (.iload_n 2, 1) := tb_d tk_X7_taken_1 5 (9, .iload_n 2, 1) rfl
theorem dX7_taken_10 : decode cX7_taken 10 = .ok (.invokevirtual 159, 3) := tb_d tk_X7_taken_1 6 (10, .invokevirtual 159, 3) rfl
theorem dX7_taken_13 : decode cX7_taken 13 = .ok (.ifCond .eq 11, 3) := tb_d tk_X7_taken_1 7 (13, .ifCond .eq 11, 3) rfl
theorem dX7_taken_16 : decode cX7_taken 16 = .ok (.aload_n 0, 1) := tb_d tk_X7_taken_1 8 (16, .aload_n 0, 1) rfl
theorem dX7_taken_17 : decode cX7_taken 17 = .ok (.iload_n 3, 1) := tb_d tk_X7_taken_1 9 (17, .iload_n 3, 1) rfl
theorem dX7_taken_18 : decode cX7_taken 18 = .ok (.invokevirtual 227, 3) := tb_d tk_X7_taken_1 10 (18, .invokevirtual 227, 3) rfl
theorem dX7_taken_21 : decode cX7_taken 21 = .ok (.ifCond .ne 6, 3) := tb_d tk_X7_taken_1 11 (21, .ifCond .ne 6, 3) rfl
theorem dX7_taken_24 : decode cX7_taken 24 = .ok (.ldc 59, 2) := tb_d tk_X7_taken_1 12 (24, .ldc 59, 2) rfl
theorem dX7_taken_26 : decode cX7_taken 26 = .ok (.ireturn, 1) := tb_d tk_X7_taken_1 13 (26, .ireturn, 1) rfl
theorem dX7_taken_27 : decode cX7_taken 27 = .ok (.aload_n 0, 1) := tb_d tk_X7_taken_1 14 (27, .aload_n 0, 1) rfl
theorem dX7_taken_28 : decode cX7_taken 28 = .ok (.getfield 25, 3) := tb_d tk_X7_taken_1 15 (28, .getfield 25, 3) rfl
theorem dX7_taken_31 : decode cX7_taken 31 = .ok (.iload_n 1, 1) := tb_d tk_X7_taken_1 16 (31, .iload_n 1, 1) rfl
theorem dX7_taken_32 : decode cX7_taken 32 = .ok (.iload_n 2, 1) := tb_d tk_X7_taken_1 17 (32, .iload_n 2, 1) rfl
theorem dX7_taken_33 : decode cX7_taken 33 = .ok (.iload_n 3, 1) := tb_d tk_X7_taken_1 18 (33, .iload_n 3, 1) rfl
theorem dX7_taken_34 : decode cX7_taken 34 = .ok (.invokevirtual 168, 3) := tb_d tk_X7_taken_1 19 (34, .invokevirtual 168, 3) rfl
theorem dX7_taken_37 : decode cX7_taken 37 = .ok (.invokestatic 180, 3) := tb_d tk_X7_taken_1 20 (37, .invokestatic 180, 3) rfl
theorem dX7_taken_40 : decode cX7_taken 40 = .ok (.ireturn, 1) := tb_d tk_X7_taken_1 21 (40, .ireturn, 1) rfl
set_option maxRecDepth 20000 in
theorem ggX7_safe_X7_noGate : GoodIn wsX7_safe wsX7_noGate := goodIn_r _ [8, 2, 9, 73, 74, 75, 76, 77, 78, 79, 80, 81, 82, 83, 84, 85, 86, 87, 88, 89] (by decide +kernel) (by decide +kernel)
set_option maxRecDepth 20000 in
theorem gX7_safe_X7_noGate : GoodIn wsX7_safe (wsV RX7 133 RX7 yX7_noGate wsX7_noGate) := goodIn_app (goodIn_of _ (by decide +kernel)) ggX7_safe_X7_noGate
set_option maxRecDepth 20000 in
theorem ggX7_safe_X7_isHour : GoodIn wsX7_safe wsX7_isHour := goodIn_r _ [13] (by decide +kernel) (by decide +kernel)
set_option maxRecDepth 20000 in
theorem gX7_safe_X7_isHour : GoodIn wsX7_safe (wsV RX7 159 RX7 yX7_isHour wsX7_isHour) := goodIn_app (goodIn_of _ (by decide +kernel)) ggX7_safe_X7_isHour
set_option maxRecDepth 20000 in
theorem ggX7_safe_X7_isAhead : GoodIn wsX7_safe wsX7_isAhead := goodIn_r _ [17] (by decide +kernel) (by decide +kernel)
set_option maxRecDepth 20000 in
theorem gX7_safe_X7_isAhead : GoodIn wsX7_safe (wsV RX7 227 RX7 yX7_isAhead wsX7_isAhead) := goodIn_app (goodIn_of _ (by decide +kernel)) ggX7_safe_X7_isAhead
set_option maxRecDepth 20000 in
theorem ggX7_safe_X2_wordsIn : GoodIn wsX7_safe wsX2_wordsIn := goodIn_r _ [22, 23, 24, 25, 26, 21, 27, 28, 29, 30, 31, 32, 33, 34, 35, 36, 37, 38, 39, 40, 41, 7, 42, 43, 44, 45, 46, 47, 48, 49, 50, 51, 52, 53, 54, 55, 56, 57, 58, 59, 60, 61, 62, 63, 64, 65, 66, 67, 68, 69, 70, 71, 72, 82, 83, 84, 85, 86, 87, 88, 89, 90, 91, 92, 93, 94, 95, 96, 97] (by decide +kernel) (by decide +kernel)
set_option maxRecDepth 20000 in
theorem gX7_safe_X2_wordsIn : GoodIn wsX7_safe (wsV RX7 230 RX2 yX2_wordsIn wsX2_wordsIn) := goodIn_app (goodIn_of _ (by decide +kernel)) ggX7_safe_X2_wordsIn
def tb_X7_safe_1 : List (Nat × Instr × Nat) := [(0, .aload_n 0, 1), (1, .invokevirtual 133, 3), (4, .ifCond .eq 6, 3), (7, .ldc 136, 2), (9, .ireturn, 1), (10, .aload_n 0, 1), (11, .iload_n 1, 1), (12, .invokevirtual 159, 3), (15, .ifCond .eq 23, 3), (18, .aload_n 0, 1), (19, .iload_n 2, 1), (20, .invokevirtual 227, 3), (23, .ifCond .eq 15, 3), (26, .aload_n 0, 1), (27, .getfield 25, 3), (30, .iload_n 1, 1), (31, .iload_n 2, 1), (32, .invokevirtual 230, 3), (35, .goto 5, 3), (38, .ldc 59, 2), (40, .ireturn, 1)]
set_option maxRecDepth 100000 in
theorem tk_X7_safe_1 : (tb_X7_safe_1.all fun q => decide (decode cX7_safe q.1 = .ok q.2)) = true := by decide +kernel
theorem dX7_safe_0 : decode cX7_safe 0 = .ok (.aload_n 0, 1) := tb_d tk_X7_safe_1 0 (0, .aload_n 0, 1) rfl
theorem dX7_safe_1 : decode cX7_safe 1 = .ok (.invokevirtual 133, 3) := tb_d tk_X7_safe_1 1 (1, .invokevirtual 133, 3) rfl
theorem dX7_safe_4 : decode cX7_safe 4 = .ok (.ifCond .eq 6, 3) := tb_d tk_X7_safe_1 2 (4, .ifCond .eq 6, 3) rfl
theorem dX7_safe_7 : decode cX7_safe 7 = .ok (.ldc 136, 2) := tb_d tk_X7_safe_1 3 (7, .ldc 136, 2) rfl
theorem dX7_safe_9 : decode cX7_safe 9 = .ok (.ireturn, 1) := tb_d tk_X7_safe_1 4 (9, .ireturn, 1) rfl
theorem dX7_safe_10 : decode cX7_safe 10 = .ok (.aload_n 0, 1) := tb_d tk_X7_safe_1 5 (10, .aload_n 0, 1) rfl
theorem dX7_safe_11 : decode cX7_safe 11 = .ok (.iload_n 1, 1) := tb_d tk_X7_safe_1 6 (11, .iload_n 1, 1) rfl
theorem dX7_safe_12 : decode cX7_safe 12 = .ok (.invokevirtual 159, 3) := tb_d tk_X7_safe_1 7 (12, .invokevirtual 159, 3) rfl
theorem dX7_safe_15 : decode cX7_safe 15 = .ok (.ifCond .eq 23, 3) := tb_d tk_X7_safe_1 8 (15, .ifCond .eq 23, 3) rfl
theorem dX7_safe_18 : decode cX7_safe 18 = .ok (.aload_n 0, 1) := tb_d tk_X7_safe_1 9 (18, .aload_n 0, 1) rfl
theorem dX7_safe_19 : decode cX7_safe 19 = .ok (.iload_n 2, 1) := tb_d tk_X7_safe_1 10 (19, .iload_n 2, 1) rfl
theorem dX7_safe_20 : decode cX7_safe 20 = .ok (.invokevirtual 227, 3) := tb_d tk_X7_safe_1 11 (20, .invokevirtual 227, 3) rfl
theorem dX7_safe_23 : decode cX7_safe 23 = .ok (.ifCond .eq 15, 3) := tb_d tk_X7_safe_1 12 (23, .ifCond .eq 15, 3) rfl
theorem dX7_safe_26 : decode cX7_safe 26 = .ok (.aload_n 0, 1) := tb_d tk_X7_safe_1 13 (26, .aload_n 0, 1) rfl
theorem dX7_safe_27 : decode cX7_safe 27 = .ok (.getfield 25, 3) := tb_d tk_X7_safe_1 14 (27, .getfield 25, 3) rfl
theorem dX7_safe_30 : decode cX7_safe 30 = .ok (.iload_n 1, 1) := tb_d tk_X7_safe_1 15 (30, .iload_n 1, 1) rfl
theorem dX7_safe_31 : decode cX7_safe 31 = .ok (.iload_n 2, 1) := tb_d tk_X7_safe_1 16 (31, .iload_n 2, 1) rfl
theorem dX7_safe_32 : decode cX7_safe 32 = .ok (.invokevirtual 230, 3) := tb_d tk_X7_safe_1 17 (32, .invokevirtual 230, 3) rfl
theorem dX7_safe_35 : decode cX7_safe 35 = .ok (.goto 5, 3) := tb_d tk_X7_safe_1 18 (35, .goto 5, 3) rfl
theorem dX7_safe_38 : decode cX7_safe 38 = .ok (.ldc 59, 2) := tb_d tk_X7_safe_1 19 (38, .ldc 59, 2) rfl
theorem dX7_safe_40 : decode cX7_safe 40 = .ok (.ireturn, 1) := tb_d tk_X7_safe_1 20 (40, .ireturn, 1) rfl
set_option maxRecDepth 20000 in
theorem ggX7_open_X7_noGate : GoodIn wsX7_open wsX7_noGate := goodIn_r _ [8, 2, 9, 77, 78, 79, 80, 81, 82, 83, 84, 85, 86, 87, 88, 89, 90, 91, 92, 93] (by decide +kernel) (by decide +kernel)
set_option maxRecDepth 20000 in
theorem gX7_open_X7_noGate : GoodIn wsX7_open (wsV RX7 133 RX7 yX7_noGate wsX7_noGate) := goodIn_app (goodIn_of _ (by decide +kernel)) ggX7_open_X7_noGate
set_option maxRecDepth 20000 in
theorem ggX7_open_X7_areWords : GoodIn wsX7_open wsX7_areWords := goodIn_r _ [13, 2, 9, 77, 78, 79, 80, 81, 82, 83, 84, 85, 86, 87, 88, 89, 90, 91, 92, 93] (by decide +kernel) (by decide +kernel)
set_option maxRecDepth 20000 in
theorem gX7_open_X7_areWords : GoodIn wsX7_open (wsV RX7 233 RX7 yX7_areWords wsX7_areWords) := goodIn_app (goodIn_of _ (by decide +kernel)) ggX7_open_X7_areWords
set_option maxRecDepth 20000 in
theorem ggX7_open_X7_isAhead : GoodIn wsX7_open wsX7_isAhead := goodIn_r _ [17] (by decide +kernel) (by decide +kernel)
set_option maxRecDepth 20000 in
theorem gX7_open_X7_isAhead : GoodIn wsX7_open (wsV RX7 227 RX7 yX7_isAhead wsX7_isAhead) := goodIn_app (goodIn_of _ (by decide +kernel)) ggX7_open_X7_isAhead
set_option maxRecDepth 20000 in
theorem ggX7_open_X2_hoursOpen : GoodIn wsX7_open wsX2_hoursOpen := goodIn_r _ [22, 23, 24, 25, 21, 26, 27, 28, 29, 30, 31, 32, 33, 34, 35, 36, 37, 38, 39, 40, 41, 42, 43, 44, 45, 7, 46, 47, 48, 49, 50, 51, 52, 53, 54, 55, 56, 57, 58, 59, 60, 61, 62, 63, 64, 65, 66, 67, 68, 69, 70, 71, 72, 73, 74, 75, 76, 86, 87, 88, 89, 90, 91, 92, 93, 94, 95, 96, 97, 98, 99, 100, 101] (by decide +kernel) (by decide +kernel)
set_option maxRecDepth 20000 in
theorem gX7_open_X2_hoursOpen : GoodIn wsX7_open (wsV RX7 236 RX2 yX2_hoursOpen wsX2_hoursOpen) := goodIn_app (goodIn_of _ (by decide +kernel)) ggX7_open_X2_hoursOpen
def tb_X7_open_1 : List (Nat × Instr × Nat) := [(0, .aload_n 0, 1), (1, .invokevirtual 133, 3), (4, .ifCond .eq 6, 3), (7, .ldc 136, 2), (9, .ireturn, 1), (10, .aload_n 0, 1), (11, .iload_n 1, 1), (12, .invokevirtual 233, 3), (15, .ifCond .eq 23, 3), (18, .aload_n 0, 1), (19, .iload_n 2, 1), (20, .invokevirtual 227, 3), (23, .ifCond .eq 15, 3), (26, .aload_n 0, 1), (27, .getfield 25, 3), (30, .iload_n 1, 1), (31, .iload_n 2, 1), (32, .invokevirtual 236, 3), (35, .goto 5, 3), (38, .ldc 59, 2), (40, .ireturn, 1)]
set_option maxRecDepth 100000 in
theorem tk_X7_open_1 : (tb_X7_open_1.all fun q => decide (decode cX7_open q.1 = .ok q.2)) = true := by decide +kernel
theorem dX7_open_0 : decode cX7_open 0 = .ok (.aload_n 0, 1) := tb_d tk_X7_open_1 0 (0, .aload_n 0, 1) rfl
theorem dX7_open_1 : decode cX7_open 1 = .ok (.invokevirtual 133, 3) := tb_d tk_X7_open_1 1 (1, .invokevirtual 133, 3) rfl
theorem dX7_open_4 : decode cX7_open 4 = .ok (.ifCond .eq 6, 3) := tb_d tk_X7_open_1 2 (4, .ifCond .eq 6, 3) rfl
theorem dX7_open_7 : decode cX7_open 7 = .ok (.ldc 136, 2) := tb_d tk_X7_open_1 3 (7, .ldc 136, 2) rfl
theorem dX7_open_9 : decode cX7_open 9 = .ok (.ireturn, 1) := tb_d tk_X7_open_1 4 (9, .ireturn, 1) rfl
theorem dX7_open_10 : decode cX7_open 10 = .ok (.aload_n 0, 1) := tb_d tk_X7_open_1 5 (10, .aload_n 0, 1) rfl
theorem dX7_open_11 : decode cX7_open 11 = .ok (.iload_n 1, 1) := tb_d tk_X7_open_1 6 (11, .iload_n 1, 1) rfl
theorem dX7_open_12 : decode cX7_open 12 = .ok (.invokevirtual 233, 3) := tb_d tk_X7_open_1 7 (12, .invokevirtual 233, 3) rfl
theorem dX7_open_15 : decode cX7_open 15 = .ok (.ifCond .eq 23, 3) := tb_d tk_X7_open_1 8 (15, .ifCond .eq 23, 3) rfl
theorem dX7_open_18 : decode cX7_open 18 = .ok (.aload_n 0, 1) := tb_d tk_X7_open_1 9 (18, .aload_n 0, 1) rfl
theorem dX7_open_19 : decode cX7_open 19 = .ok (.iload_n 2, 1) := tb_d tk_X7_open_1 10 (19, .iload_n 2, 1) rfl
theorem dX7_open_20 : decode cX7_open 20 = .ok (.invokevirtual 227, 3) := tb_d tk_X7_open_1 11 (20, .invokevirtual 227, 3) rfl
theorem dX7_open_23 : decode cX7_open 23 = .ok (.ifCond .eq 15, 3) := tb_d tk_X7_open_1 12 (23, .ifCond .eq 15, 3) rfl
theorem dX7_open_26 : decode cX7_open 26 = .ok (.aload_n 0, 1) := tb_d tk_X7_open_1 13 (26, .aload_n 0, 1) rfl
theorem dX7_open_27 : decode cX7_open 27 = .ok (.getfield 25, 3) := tb_d tk_X7_open_1 14 (27, .getfield 25, 3) rfl
theorem dX7_open_30 : decode cX7_open 30 = .ok (.iload_n 1, 1) := tb_d tk_X7_open_1 15 (30, .iload_n 1, 1) rfl
theorem dX7_open_31 : decode cX7_open 31 = .ok (.iload_n 2, 1) := tb_d tk_X7_open_1 16 (31, .iload_n 2, 1) rfl
theorem dX7_open_32 : decode cX7_open 32 = .ok (.invokevirtual 236, 3) := tb_d tk_X7_open_1 17 (32, .invokevirtual 236, 3) rfl
theorem dX7_open_35 : decode cX7_open 35 = .ok (.goto 5, 3) := tb_d tk_X7_open_1 18 (35, .goto 5, 3) rfl
theorem dX7_open_38 : decode cX7_open 38 = .ok (.ldc 59, 2) := tb_d tk_X7_open_1 19 (38, .ldc 59, 2) rfl
theorem dX7_open_40 : decode cX7_open 40 = .ok (.ireturn, 1) := tb_d tk_X7_open_1 20 (40, .ireturn, 1) rfl
set_option maxRecDepth 20000 in
theorem ggX7_next_X7_isWord : GoodIn wsX7_next wsX7_isWord := goodIn_r _ [7, 1, 8, 31, 32, 33, 34, 35, 36, 37, 38, 39, 40, 41, 42, 43, 44, 45, 46, 47] (by decide +kernel) (by decide +kernel)
set_option maxRecDepth 20000 in
theorem gX7_next_X7_isWord : GoodIn wsX7_next (wsV RX7 156 RX7 yX7_isWord wsX7_isWord) := goodIn_app (goodIn_of _ (by decide +kernel)) ggX7_next_X7_isWord
set_option maxRecDepth 20000 in
theorem ggX7_next_X2_nightsUntil : GoodIn wsX7_next wsX2_nightsUntil := goodIn_r _ [13, 14, 15, 16, 17, 12, 18, 19, 20, 21, 22, 23, 24, 25, 26, 27, 28, 29, 6, 30, 40, 41, 42, 43, 44, 45, 46, 47, 48, 49, 50, 51, 52, 53, 54, 55] (by decide +kernel) (by decide +kernel)
set_option maxRecDepth 20000 in
theorem gX7_next_X2_nightsUntil : GoodIn wsX7_next (wsV RX7 239 RX2 yX2_nightsUntil wsX2_nightsUntil) := goodIn_app (goodIn_of _ (by decide +kernel)) ggX7_next_X2_nightsUntil
def tb_X7_next_1 : List (Nat × Instr × Nat) := [(0, .aload_n 0, 1), (1, .iload_n 1, 1), (2, .invokevirtual 156, 3), (5, .ifCond .eq 14, 3), (8, .aload_n 0, 1), (9, .getfield 25, 3), (12, .iload_n 1, 1), (13, .invokevirtual 239, 3), (16, .goto 5, 3), (19, .ldc 59, 2), (21, .ireturn, 1)]
set_option maxRecDepth 100000 in
theorem tk_X7_next_1 : (tb_X7_next_1.all fun q => decide (decode cX7_next q.1 = .ok q.2)) = true := by decide +kernel
theorem dX7_next_0 : decode cX7_next 0 = .ok (.aload_n 0, 1) := tb_d tk_X7_next_1 0 (0, .aload_n 0, 1) rfl
theorem dX7_next_1 : decode cX7_next 1 = .ok (.iload_n 1, 1) := tb_d tk_X7_next_1 1 (1, .iload_n 1, 1) rfl
theorem dX7_next_2 : decode cX7_next 2 = .ok (.invokevirtual 156, 3) := tb_d tk_X7_next_1 2 (2, .invokevirtual 156, 3) rfl
theorem dX7_next_5 : decode cX7_next 5 = .ok (.ifCond .eq 14, 3) := tb_d tk_X7_next_1 3 (5, .ifCond .eq 14, 3) rfl
theorem dX7_next_8 : decode cX7_next 8 = .ok (.aload_n 0, 1) := tb_d tk_X7_next_1 4 (8, .aload_n 0, 1) rfl
theorem dX7_next_9 : decode cX7_next 9 = .ok (.getfield 25, 3) := tb_d tk_X7_next_1 5 (9, .getfield 25, 3) rfl
theorem dX7_next_12 : decode cX7_next 12 = .ok (.iload_n 1, 1) := tb_d tk_X7_next_1 6 (12, .iload_n 1, 1) rfl
theorem dX7_next_13 : decode cX7_next 13 = .ok (.invokevirtual 239, 3) := tb_d tk_X7_next_1 7 (13, .invokevirtual 239, 3) rfl
theorem dX7_next_16 : decode cX7_next 16 = .ok (.goto 5, 3) := tb_d tk_X7_next_1 8 (16, .goto 5, 3) rfl
theorem dX7_next_19 : decode cX7_next 19 = .ok (.ldc 59, 2) := tb_d tk_X7_next_1 9 (19, .ldc 59, 2) rfl
theorem dX7_next_21 : decode cX7_next 21 = .ok (.ireturn, 1) := tb_d tk_X7_next_1 10 (21, .ireturn, 1) rfl
set_option maxRecDepth 20000 in
theorem ggX7_agree_X7_noGate : GoodIn wsX7_agree wsX7_noGate := goodIn_r _ [7, 2, 8, 41, 42, 43, 44, 45, 46, 47, 48, 49, 50, 51, 52, 53, 54, 55, 56, 57] (by decide +kernel) (by decide +kernel)
set_option maxRecDepth 20000 in
theorem gX7_agree_X7_noGate : GoodIn wsX7_agree (wsV RX7 133 RX7 yX7_noGate wsX7_noGate) := goodIn_app (goodIn_of _ (by decide +kernel)) ggX7_agree_X7_noGate
set_option maxRecDepth 20000 in
theorem ggX7_agree_X3_agreeing : GoodIn wsX7_agree wsX3_agreeing := goodIn_r _ [12, 13, 14, 15, 11, 16, 17, 18, 19, 20, 21, 22, 23, 24, 25, 26, 27, 28, 29, 30, 31, 32, 33, 34, 35, 36, 37, 38, 39, 6, 40, 50, 51, 52, 53, 54, 55, 56, 57, 58, 59, 60, 61, 62, 63, 64, 65] (by decide +kernel) (by decide +kernel)
set_option maxRecDepth 20000 in
theorem gX7_agree_X3_agreeing : GoodIn wsX7_agree (va_wsS RX7 242 yX3_agreeing wsX3_agreeing) := goodIn_app (goodIn_of _ (by decide +kernel)) ggX7_agree_X3_agreeing
def tb_X7_agree_1 : List (Nat × Instr × Nat) := [(0, .aload_n 0, 1), (1, .invokevirtual 133, 3), (4, .ifCond .eq 8, 3), (7, .ldc 136, 2), (9, .goto 10, 3), (12, .aload_n 0, 1), (13, .getfield 25, 3), (16, .invokestatic 242, 3), (19, .ireturn, 1)]
set_option maxRecDepth 100000 in
theorem tk_X7_agree_1 : (tb_X7_agree_1.all fun q => decide (decode cX7_agree q.1 = .ok q.2)) = true := by decide +kernel
theorem dX7_agree_0 : decode cX7_agree 0 = .ok (.aload_n 0, 1) := tb_d tk_X7_agree_1 0 (0, .aload_n 0, 1) rfl
theorem dX7_agree_1 : decode cX7_agree 1 = .ok (.invokevirtual 133, 3) := tb_d tk_X7_agree_1 1 (1, .invokevirtual 133, 3) rfl
theorem dX7_agree_4 : decode cX7_agree 4 = .ok (.ifCond .eq 8, 3) := tb_d tk_X7_agree_1 2 (4, .ifCond .eq 8, 3) rfl
theorem dX7_agree_7 : decode cX7_agree 7 = .ok (.ldc 136, 2) := tb_d tk_X7_agree_1 3 (7, .ldc 136, 2) rfl
theorem dX7_agree_9 : decode cX7_agree 9 = .ok (.goto 10, 3) := tb_d tk_X7_agree_1 4 (9, .goto 10, 3) rfl
theorem dX7_agree_12 : decode cX7_agree 12 = .ok (.aload_n 0, 1) := tb_d tk_X7_agree_1 5 (12, .aload_n 0, 1) rfl
theorem dX7_agree_13 : decode cX7_agree 13 = .ok (.getfield 25, 3) := tb_d tk_X7_agree_1 6 (13, .getfield 25, 3) rfl
theorem dX7_agree_16 : decode cX7_agree 16 = .ok (.invokestatic 242, 3) := tb_d tk_X7_agree_1 7 (16, .invokestatic 242, 3) rfl
theorem dX7_agree_19 : decode cX7_agree 19 = .ok (.ireturn, 1) := tb_d tk_X7_agree_1 8 (19, .ireturn, 1) rfl
set_option maxRecDepth 20000 in
theorem ggX7_man_X7_noGate : GoodIn wsX7_man wsX7_noGate := goodIn_r _ [8, 3, 9, 82, 83, 84, 85, 86, 87, 88, 89, 90, 91, 92, 93, 94, 95, 96, 97, 98] (by decide +kernel) (by decide +kernel)
set_option maxRecDepth 20000 in
theorem gX7_man_X7_noGate : GoodIn wsX7_man (wsV RX7 133 RX7 yX7_noGate wsX7_noGate) := goodIn_app (goodIn_of _ (by decide +kernel)) ggX7_man_X7_noGate
set_option maxRecDepth 20000 in
theorem ggX7_man_X3_agreeing : GoodIn wsX7_man wsX3_agreeing := goodIn_r _ [13, 14, 15, 16, 12, 17, 18, 19, 20, 21, 22, 23, 24, 25, 26, 27, 28, 29, 30, 31, 32, 33, 34, 35, 36, 37, 38, 39, 40, 7, 41, 91, 92, 93, 94, 95, 96, 97, 98, 99, 100, 101, 102, 103, 104, 105, 106] (by decide +kernel) (by decide +kernel)
set_option maxRecDepth 20000 in
theorem gX7_man_X3_agreeing : GoodIn wsX7_man (va_wsS RX7 242 yX3_agreeing wsX3_agreeing) := goodIn_app (goodIn_of _ (by decide +kernel)) ggX7_man_X3_agreeing
set_option maxRecDepth 20000 in
theorem ggX7_man_X3_bestTry : GoodIn wsX7_man wsX3_bestTry := goodIn_r _ [44, 14, 45, 46, 12, 47, 48, 49, 50, 51, 52, 53, 54, 18, 24, 55, 56, 57, 29, 58, 59, 60, 61, 62, 63, 64, 65, 7, 66, 67, 68, 69, 70, 71, 72, 73, 27, 28, 30, 31, 32, 33, 34, 35, 36, 37, 38, 39, 40, 41, 74, 75, 76, 77, 78, 79, 80, 91, 92, 93, 94, 95, 96, 97, 98, 99, 100, 101, 102, 103, 104, 105, 106] (by decide +kernel) (by decide +kernel)
set_option maxRecDepth 20000 in
theorem gX7_man_X3_bestTry : GoodIn wsX7_man (va_wsS RX7 246 yX3_bestTry wsX3_bestTry) := goodIn_app (goodIn_of _ (by decide +kernel)) ggX7_man_X3_bestTry
set_option maxRecDepth 20000 in
theorem ggX7_man_X3_leftAtWorst : GoodIn wsX7_man wsX3_leftAtWorst := goodIn_r _ [47, 48, 49, 50, 51, 52, 53, 12, 54, 14, 18, 24, 55, 56, 57, 29, 58, 59, 60, 61, 62, 63, 64, 65, 7, 66, 67, 68, 69, 70, 71, 72, 73, 27, 28, 30, 31, 32, 33, 34, 35, 36, 37, 38, 39, 40, 41, 74, 75, 76, 77, 78, 79, 80, 91, 92, 93, 94, 95, 96, 97, 98, 99, 100, 101, 102, 103, 104, 105, 106] (by decide +kernel) (by decide +kernel)
set_option maxRecDepth 20000 in
theorem gX7_man_X3_leftAtWorst : GoodIn wsX7_man (va_wsS RX7 250 yX3_leftAtWorst wsX3_leftAtWorst) := goodIn_app (goodIn_of _ (by decide +kernel)) ggX7_man_X3_leftAtWorst
def tb_X7_man_1 : List (Nat × Instr × Nat) := [(0, .aload_n 0, 1), (1, .invokevirtual 133, 3), (4, .ifCond .eq 6, 3), (7, .ldc 136, 2), (9, .ireturn, 1), (10, .iload_n 1, 1), (11, .ifCond .lt 8, 3), (14, .iload_n 1, 1), (15, .iconst 2, 1), (16, .if_icmp .le 6, 3), (19, .ldc 59, 2), (21, .ireturn, 1), (22, .aload_n 0, 1), (23, .getfield 25, 3), (26, .invokestatic 242, 3), (29, .istore_n 2, 1), (30, .aload_n 0, 1), (31, .getfield 25, 3), (34, .iload_n 2, 1), (35, .invokestatic 246, 3), (38, .istore_n 3, 1), (39, .iload_n 1, 1), (40, .iconst 2, 1), (41, .if_icmp .ne 13, 3), (44, .aload_n 0, 1), (45, .getfield 25, 3), (48, .iload_n 3, 1), (49, .iload_n 2, 1), (50, .invokestatic 250, 3), (53, .ireturn, 1), (54, .iload_n 1, 1), (55, .ifCond .ne 10, 3), (58, .iload_n 3, 1), (59, .bipush 6, 2), (61, .idiv, 1), (62, .goto 7, 3), (65, .iload_n 3, 1), (66, .bipush 6, 2), (68, .irem, 1), (69, .ireturn, 1)]
set_option maxRecDepth 100000 in
theorem tk_X7_man_1 : (tb_X7_man_1.all fun q => decide (decode cX7_man q.1 = .ok q.2)) = true := by decide +kernel
theorem dX7_man_0 : decode cX7_man 0 = .ok (.aload_n 0, 1) := tb_d tk_X7_man_1 0 (0, .aload_n 0, 1) rfl
theorem dX7_man_1 : decode cX7_man 1 = .ok (.invokevirtual 133, 3) := tb_d tk_X7_man_1 1 (1, .invokevirtual 133, 3) rfl
theorem dX7_man_4 : decode cX7_man 4 = .ok (.ifCond .eq 6, 3) := tb_d tk_X7_man_1 2 (4, .ifCond .eq 6, 3) rfl
theorem dX7_man_7 : decode cX7_man 7 = .ok (.ldc 136, 2) := tb_d tk_X7_man_1 3 (7, .ldc 136, 2) rfl
theorem dX7_man_9 : decode cX7_man 9 = .ok (.ireturn, 1) := tb_d tk_X7_man_1 4 (9, .ireturn, 1) rfl
theorem dX7_man_10 : decode cX7_man 10 = .ok (.iload_n 1, 1) := tb_d tk_X7_man_1 5 (10, .iload_n 1, 1) rfl
theorem dX7_man_11 : decode cX7_man 11 = .ok (.ifCond .lt 8, 3) := tb_d tk_X7_man_1 6 (11, .ifCond .lt 8, 3) rfl
theorem dX7_man_14 : decode cX7_man 14 = .ok (.iload_n 1, 1) := tb_d tk_X7_man_1 7 (14, .iload_n 1, 1) rfl
theorem dX7_man_15 : decode cX7_man 15 = .ok (.iconst 2, 1) := tb_d tk_X7_man_1 8 (15, .iconst 2, 1) rfl
theorem dX7_man_16 : decode cX7_man 16 = .ok (.if_icmp .le 6, 3) := tb_d tk_X7_man_1 9 (16, .if_icmp .le 6, 3) rfl
theorem dX7_man_19 : decode cX7_man 19 = .ok (.ldc 59, 2) := tb_d tk_X7_man_1 10 (19, .ldc 59, 2) rfl
theorem dX7_man_21 : decode cX7_man 21 = .ok (.ireturn, 1) := tb_d tk_X7_man_1 11 (21, .ireturn, 1) rfl
theorem dX7_man_22 : decode cX7_man 22 = .ok (.aload_n 0, 1) := tb_d tk_X7_man_1 12 (22, .aload_n 0, 1) rfl
theorem dX7_man_23 : decode cX7_man 23 = .ok (.getfield 25, 3) := tb_d tk_X7_man_1 13 (23, .getfield 25, 3) rfl
theorem dX7_man_26 : decode cX7_man 26 = .ok (.invokestatic 242, 3) := tb_d tk_X7_man_1 14 (26, .invokestatic 242, 3) rfl
theorem dX7_man_29 : decode cX7_man 29 = .ok (.istore_n 2, 1) := tb_d tk_X7_man_1 15 (29, .istore_n 2, 1) rfl
theorem dX7_man_30 : decode cX7_man 30 = .ok (.aload_n 0, 1) := tb_d tk_X7_man_1 16 (30, .aload_n 0, 1) rfl
theorem dX7_man_31 : decode cX7_man 31 = .ok (.getfield 25, 3) := tb_d tk_X7_man_1 17 (31, .getfield 25, 3) rfl
theorem dX7_man_34 : decode cX7_man 34 = .ok (.iload_n 2, 1) := tb_d tk_X7_man_1 18 (34, .iload_n 2, 1) rfl
theorem dX7_man_35 : decode cX7_man 35 = .ok (.invokestatic 246, 3) := tb_d tk_X7_man_1 19 (35, .invokestatic 246, 3) rfl
theorem dX7_man_38 : decode cX7_man 38 = .ok (.istore_n 3, 1) := tb_d tk_X7_man_1 20 (38, .istore_n 3, 1) rfl
theorem dX7_man_39 : decode cX7_man 39 = .ok (.iload_n 1, 1) := tb_d tk_X7_man_1 21 (39, .iload_n 1, 1) rfl
theorem dX7_man_40 : decode cX7_man 40 = .ok (.iconst 2, 1) := tb_d tk_X7_man_1 22 (40, .iconst 2, 1) rfl
theorem dX7_man_41 : decode cX7_man 41 = .ok (.if_icmp .ne 13, 3) := tb_d tk_X7_man_1 23 (41, .if_icmp .ne 13, 3) rfl
theorem dX7_man_44 : decode cX7_man 44 = .ok (.aload_n 0, 1) := tb_d tk_X7_man_1 24 (44, .aload_n 0, 1) rfl
theorem dX7_man_45 : decode cX7_man 45 = .ok (.getfield 25, 3) := tb_d tk_X7_man_1 25 (45, .getfield 25, 3) rfl
theorem dX7_man_48 : decode cX7_man 48 = .ok (.iload_n 3, 1) := tb_d tk_X7_man_1 26 (48, .iload_n 3, 1) rfl
theorem dX7_man_49 : decode cX7_man 49 = .ok (.iload_n 2, 1) := tb_d tk_X7_man_1 27 (49, .iload_n 2, 1) rfl
theorem dX7_man_50 : decode cX7_man 50 = .ok (.invokestatic 250, 3) := tb_d tk_X7_man_1 28 (50, .invokestatic 250, 3) rfl
theorem dX7_man_53 : decode cX7_man 53 = .ok (.ireturn, 1) := tb_d tk_X7_man_1 29 (53, .ireturn, 1) rfl
theorem dX7_man_54 : decode cX7_man 54 = .ok (.iload_n 1, 1) := tb_d tk_X7_man_1 30 (54, .iload_n 1, 1) rfl
theorem dX7_man_55 : decode cX7_man 55 = .ok (.ifCond .ne 10, 3) := tb_d tk_X7_man_1 31 (55, .ifCond .ne 10, 3) rfl
theorem dX7_man_58 : decode cX7_man 58 = .ok (.iload_n 3, 1) := tb_d tk_X7_man_1 32 (58, .iload_n 3, 1) rfl
theorem dX7_man_59 : decode cX7_man 59 = .ok (.bipush 6, 2) := tb_d tk_X7_man_1 33 (59, .bipush 6, 2) rfl
theorem dX7_man_61 : decode cX7_man 61 = .ok (.idiv, 1) := tb_d tk_X7_man_1 34 (61, .idiv, 1) rfl
theorem dX7_man_62 : decode cX7_man 62 = .ok (.goto 7, 3) := tb_d tk_X7_man_1 35 (62, .goto 7, 3) rfl
theorem dX7_man_65 : decode cX7_man 65 = .ok (.iload_n 3, 1) := tb_d tk_X7_man_1 36 (65, .iload_n 3, 1) rfl
theorem dX7_man_66 : decode cX7_man 66 = .ok (.bipush 6, 2) := tb_d tk_X7_man_1 37 (66, .bipush 6, 2) rfl
theorem dX7_man_68 : decode cX7_man 68 = .ok (.irem, 1) := tb_d tk_X7_man_1 38 (68, .irem, 1) rfl
theorem dX7_man_69 : decode cX7_man 69 = .ok (.ireturn, 1) := tb_d tk_X7_man_1 39 (69, .ireturn, 1) rfl
set_option maxRecDepth 20000 in
theorem ggX7_fewest_X7_noGate : GoodIn wsX7_fewest wsX7_noGate := goodIn_r _ [8, 3, 9, 89, 90, 91, 92, 93, 94, 95, 96, 97, 98, 99, 100, 101, 102, 103, 104, 105] (by decide +kernel) (by decide +kernel)
set_option maxRecDepth 20000 in
theorem gX7_fewest_X7_noGate : GoodIn wsX7_fewest (wsV RX7 133 RX7 yX7_noGate wsX7_noGate) := goodIn_app (goodIn_of _ (by decide +kernel)) ggX7_fewest_X7_noGate
set_option maxRecDepth 20000 in
theorem ggX7_fewest_X3_agreeing : GoodIn wsX7_fewest wsX3_agreeing := goodIn_r _ [13, 14, 15, 16, 12, 17, 18, 19, 20, 21, 22, 23, 24, 25, 26, 27, 28, 29, 30, 31, 32, 33, 34, 35, 36, 37, 38, 39, 40, 7, 41, 98, 99, 100, 101, 102, 103, 104, 105, 106, 107, 108, 109, 110, 111, 112, 113] (by decide +kernel) (by decide +kernel)
set_option maxRecDepth 20000 in
theorem gX7_fewest_X3_agreeing : GoodIn wsX7_fewest (va_wsS RX7 242 yX3_agreeing wsX3_agreeing) := goodIn_app (goodIn_of _ (by decide +kernel)) ggX7_fewest_X3_agreeing
set_option maxRecDepth 20000 in
theorem ggX7_fewest_X3_fewestMen : GoodIn wsX7_fewest wsX3_fewestMen := goodIn_r _ [45, 14, 46, 47, 48, 49, 50, 12, 51, 18, 24, 52, 53, 54, 29, 55, 56, 57, 58, 59, 60, 61, 62, 7, 63, 64, 65, 66, 67, 68, 69, 70, 27, 28, 30, 31, 32, 33, 34, 35, 36, 37, 38, 39, 40, 41, 71, 72, 73, 74, 75, 76, 77, 78, 79, 80, 81, 82, 83, 84, 85, 86, 87, 88, 98, 99, 100, 101, 102, 103, 104, 105, 114, 115, 106, 107, 108, 109, 110, 111, 112, 113] (by decide +kernel) (by decide +kernel)
set_option maxRecDepth 20000 in
theorem gX7_fewest_X3_fewestMen : GoodIn wsX7_fewest (wsV RX7 254 RX3 yX3_fewestMen wsX3_fewestMen) := goodIn_app (goodIn_of _ (by decide +kernel)) ggX7_fewest_X3_fewestMen
def tb_X7_fewest_1 : List (Nat × Instr × Nat) := [(0, .aload_n 0, 1), (1, .invokevirtual 133, 3), (4, .ifCond .eq 8, 3), (7, .ldc 136, 2), (9, .goto 21, 3), (12, .aload_n 0, 1), (13, .getfield 43, 3), (16, .aload_n 0, 1), (17, .getfield 25, 3), (20, .aload_n 0, 1), (21, .getfield 25, 3), (24, .invokestatic 242, 3), (27, .invokevirtual 254, 3), (30, .ireturn, 1)]
set_option maxRecDepth 100000 in
theorem tk_X7_fewest_1 : (tb_X7_fewest_1.all fun q => decide (decode cX7_fewest q.1 = .ok q.2)) = true := by decide +kernel
theorem dX7_fewest_0 : decode cX7_fewest 0 = .ok (.aload_n 0, 1) := tb_d tk_X7_fewest_1 0 (0, .aload_n 0, 1) rfl
theorem dX7_fewest_1 : decode cX7_fewest 1 = .ok (.invokevirtual 133, 3) := tb_d tk_X7_fewest_1 1 (1, .invokevirtual 133, 3) rfl
theorem dX7_fewest_4 : decode cX7_fewest 4 = .ok (.ifCond .eq 8, 3) := tb_d tk_X7_fewest_1 2 (4, .ifCond .eq 8, 3) rfl
theorem dX7_fewest_7 : decode cX7_fewest 7 = .ok (.ldc 136, 2) := tb_d tk_X7_fewest_1 3 (7, .ldc 136, 2) rfl
theorem dX7_fewest_9 : decode cX7_fewest 9 = .ok (.goto 21, 3) := tb_d tk_X7_fewest_1 4 (9, .goto 21, 3) rfl
theorem dX7_fewest_12 : decode cX7_fewest 12 = .ok (.aload_n 0, 1) := tb_d tk_X7_fewest_1 5 (12, .aload_n 0, 1) rfl
theorem dX7_fewest_13 : decode cX7_fewest 13 = .ok (.getfield 43, 3) := tb_d tk_X7_fewest_1 6 (13, .getfield 43, 3) rfl
theorem dX7_fewest_16 : decode cX7_fewest 16 = .ok (.aload_n 0, 1) := tb_d tk_X7_fewest_1 7 (16, .aload_n 0, 1) rfl
theorem dX7_fewest_17 : decode cX7_fewest 17 = .ok (.getfield 25, 3) := tb_d tk_X7_fewest_1 8 (17, .getfield 25, 3) rfl
theorem dX7_fewest_20 : decode cX7_fewest 20 = .ok (.aload_n 0, 1) := tb_d tk_X7_fewest_1 9 (20, .aload_n 0, 1) rfl
theorem dX7_fewest_21 : decode cX7_fewest 21 = .ok (.getfield 25, 3) := tb_d tk_X7_fewest_1 10 (21, .getfield 25, 3) rfl
theorem dX7_fewest_24 : decode cX7_fewest 24 = .ok (.invokestatic 242, 3) := tb_d tk_X7_fewest_1 11 (24, .invokestatic 242, 3) rfl
theorem dX7_fewest_27 : decode cX7_fewest 27 = .ok (.invokevirtual 254, 3) := tb_d tk_X7_fewest_1 12 (27, .invokevirtual 254, 3) rfl
theorem dX7_fewest_30 : decode cX7_fewest 30 = .ok (.ireturn, 1) := tb_d tk_X7_fewest_1 13 (30, .ireturn, 1) rfl
set_option maxRecDepth 20000 in
theorem ggX7_march_X7_noGate : GoodIn wsX7_march wsX7_noGate := goodIn_r _ [8, 9, 10, 100, 101, 102, 103, 104, 105, 106, 107, 108, 109, 110, 111, 112, 113, 114, 115, 116] (by decide +kernel) (by decide +kernel)
set_option maxRecDepth 20000 in
theorem gX7_march_X7_noGate : GoodIn wsX7_march (wsV RX7 133 RX7 yX7_noGate wsX7_noGate) := goodIn_app (goodIn_of _ (by decide +kernel)) ggX7_march_X7_noGate
set_option maxRecDepth 20000 in
theorem ggX7_march_X7_isRow : GoodIn wsX7_march wsX7_isRow := goodIn_r _ [14] (by decide +kernel) (by decide +kernel)
set_option maxRecDepth 20000 in
theorem gX7_march_X7_isRow : GoodIn wsX7_march (wsV RX7 55 RX7 yX7_isRow wsX7_isRow) := goodIn_app (goodIn_of _ (by decide +kernel)) ggX7_march_X7_isRow
set_option maxRecDepth 20000 in
theorem ggX7_march_X5_findingOf : GoodIn wsX7_march wsX5_findingOf := goodIn_r _ [19, 20, 21, 22, 23, 18, 24, 25, 117, 118, 119] (by decide +kernel) (by decide +kernel)
set_option maxRecDepth 20000 in
theorem gX7_march_X5_findingOf : GoodIn wsX7_march (wsV RX7 71 RX5 yX5_findingOf wsX5_findingOf) := goodIn_app (goodIn_of _ (by decide +kernel)) ggX7_march_X5_findingOf
set_option maxRecDepth 20000 in
theorem ggX7_march_X7_found : GoodIn wsX7_march wsX7_found := goodIn_r _ [29, 30, 31, 100, 101, 102, 103, 104, 105, 106, 107, 108] (by decide +kernel) (by decide +kernel)
set_option maxRecDepth 20000 in
theorem gX7_march_X7_found : GoodIn wsX7_march (wsV RX7 60 RX7 yX7_found wsX7_found) := goodIn_app (goodIn_of _ (by decide +kernel)) ggX7_march_X7_found
set_option maxRecDepth 20000 in
theorem ggX7_march_X7_hourOfLast : GoodIn wsX7_march wsX7_hourOfLast := goodIn_r _ [35, 36, 9, 37, 38, 39, 40, 7, 41, 10, 42, 43, 44, 45, 46, 47, 48, 49, 50, 51, 52, 53, 54, 55, 56, 57, 58, 59, 60, 61, 62, 63, 64, 65, 66, 67, 68, 69, 70, 71, 72, 73, 74, 75, 76, 77, 78, 79, 80, 81, 82, 83, 84, 85, 86, 87, 88, 89, 90, 91, 92, 93, 94, 95, 117, 118, 119, 100, 101, 102, 103, 104, 105, 106, 107, 108, 109, 110, 111, 112, 113, 114, 115, 116, 120, 121, 122, 123, 124, 125, 126, 127] (by decide +kernel) (by decide +kernel)
set_option maxRecDepth 20000 in
theorem gX7_march_X7_hourOfLast : GoodIn wsX7_march (wsV RX7 257 RX7 yX7_hourOfLast wsX7_hourOfLast) := goodIn_app (goodIn_of _ (by decide +kernel)) ggX7_march_X7_hourOfLast
set_option maxRecDepth 20000 in
theorem ggX7_march_X7_unfound : GoodIn wsX7_march wsX7_unfound := goodIn_r _ [99, 30, 100, 101, 102, 103, 104, 105, 106, 107, 108] (by decide +kernel) (by decide +kernel)
set_option maxRecDepth 20000 in
theorem gX7_march_X7_unfound : GoodIn wsX7_march (wsV RX7 68 RX7 yX7_unfound wsX7_unfound) := goodIn_app (goodIn_of _ (by decide +kernel)) ggX7_march_X7_unfound
def tb_X7_march_1 : List (Nat × Instr × Nat) := [(0, .aload_n 0, 1), (1, .invokevirtual 133, 3), (4, .ifCond .eq 6, 3), (7, .ldc 136, 2), (9, .ireturn, 1), (10, .aload_n 0, 1), (11, .iload_n 1, 1), (12, .invokevirtual 55, 3), (15, .ifCond .eq 26, 3), (18, .iload_n 3, 1), (19, .iconst 1, 1), (20, .if_icmp .lt 21, 3), (23, .iload_n 3, 1), (24, .bipush 6, 2), (26, .if_icmp .gt 15, 3), (29, .iload 4, 2), (31, .iconst (-1), 1), (32, .if_icmp .lt 9, 3), (35, .iload 4, 2), (37, .iload_n 3, 1), (38, .if_icmp .lt 6, 3), (41, .ldc 59, 2), (43, .ireturn, 1), (44, .aload_n 0, 1), (45, .getfield 11, 3), (48, .iload_n 1, 1), (49, .aaload, 1), (50, .iload_n 2, 1), (51, .iload_n 3, 1), (52, .invokevirtual 71, 3), (55, .istore 5, 2), (57, .iload 5, 2), (59, .ifCond .eq 10, 3), (62, .aload_n 0, 1), (63, .iload 5, 2), (65, .invokevirtual 60, 3), (68, .ireturn, 1), (69, .aload_n 0, 1), (70, .aload_n 0, 1), (71, .aload_n 0, 1)]
set_option maxRecDepth 100000 in
theorem tk_X7_march_1 : (tb_X7_march_1.all fun q => decide (decode cX7_march q.1 = .ok q.2)) = true := by decide +kernel
theorem dX7_march_0 : decode cX7_march 0 = .ok (.aload_n 0, 1) := tb_d tk_X7_march_1 0 (0, .aload_n 0, 1) rfl
theorem dX7_march_1 : decode cX7_march 1 = .ok (.invokevirtual 133, 3) := tb_d tk_X7_march_1 1 (1, .invokevirtual 133, 3) rfl
theorem dX7_march_4 : decode cX7_march 4 = .ok (.ifCond .eq 6, 3) := tb_d tk_X7_march_1 2 (4, .ifCond .eq 6, 3) rfl
theorem dX7_march_7 : decode cX7_march 7 = .ok (.ldc 136, 2) := tb_d tk_X7_march_1 3 (7, .ldc 136, 2) rfl
theorem dX7_march_9 : decode cX7_march 9 = .ok (.ireturn, 1) := tb_d tk_X7_march_1 4 (9, .ireturn, 1) rfl
theorem dX7_march_10 : decode cX7_march 10 = .ok (.aload_n 0, 1) := tb_d tk_X7_march_1 5 (10, .aload_n 0, 1) rfl
theorem dX7_march_11 : decode cX7_march 11 = .ok (.iload_n 1, 1) := tb_d tk_X7_march_1 6 (11, .iload_n 1, 1) rfl
theorem dX7_march_12 : decode cX7_march 12 = .ok (.invokevirtual 55, 3) := tb_d tk_X7_march_1 7 (12, .invokevirtual 55, 3) rfl
theorem dX7_march_15 : decode cX7_march 15 = .ok (.ifCond .eq 26, 3) := tb_d tk_X7_march_1 8 (15, .ifCond .eq 26, 3) rfl
theorem dX7_march_18 : decode cX7_march 18 = .ok (.iload_n 3, 1) := tb_d tk_X7_march_1 9 (18, .iload_n 3, 1) rfl
theorem dX7_march_19 : decode cX7_march 19 = .ok (.iconst 1, 1) := tb_d tk_X7_march_1 10 (19, .iconst 1, 1) rfl
theorem dX7_march_20 : decode cX7_march 20 = .ok (.if_icmp .lt 21, 3) := tb_d tk_X7_march_1 11 (20, .if_icmp .lt 21, 3) rfl
theorem dX7_march_23 : decode cX7_march 23 = .ok (.iload_n 3, 1) := tb_d tk_X7_march_1 12 (23, .iload_n 3, 1) rfl
theorem dX7_march_24 : decode cX7_march 24 = .ok (.bipush 6, 2) := tb_d tk_X7_march_1 13 (24, .bipush 6, 2) rfl
theorem dX7_march_26 : decode cX7_march 26 = .ok (.if_icmp .gt 15, 3) := tb_d tk_X7_march_1 14 (26, .if_icmp .gt 15, 3) rfl
theorem dX7_march_29 : decode cX7_march 29 = .ok (.iload 4, 2) := tb_d tk_X7_march_1 15 (29, .iload 4, 2) rfl
theorem dX7_march_31 : decode cX7_march 31 = .ok (.iconst (-1), 1) := tb_d tk_X7_march_1 16 (31, .iconst (-1), 1) rfl
theorem dX7_march_32 : decode cX7_march 32 = .ok (.if_icmp .lt 9, 3) := tb_d tk_X7_march_1 17 (32, .if_icmp .lt 9, 3) rfl
theorem dX7_march_35 : decode cX7_march 35 = .ok (.iload 4, 2) := tb_d tk_X7_march_1 18 (35, .iload 4, 2) rfl
theorem dX7_march_37 : decode cX7_march 37 = .ok (.iload_n 3, 1) := tb_d tk_X7_march_1 19 (37, .iload_n 3, 1) rfl
theorem dX7_march_38 : decode cX7_march 38 = .ok (.if_icmp .lt 6, 3) := tb_d tk_X7_march_1 20 (38, .if_icmp .lt 6, 3) rfl
theorem dX7_march_41 : decode cX7_march 41 = .ok (.ldc 59, 2) := tb_d tk_X7_march_1 21 (41, .ldc 59, 2) rfl
theorem dX7_march_43 : decode cX7_march 43 = .ok (.ireturn, 1) := tb_d tk_X7_march_1 22 (43, .ireturn, 1) rfl
theorem dX7_march_44 : decode cX7_march 44 = .ok (.aload_n 0, 1) := tb_d tk_X7_march_1 23 (44, .aload_n 0, 1) rfl
theorem dX7_march_45 : decode cX7_march 45 = .ok (.getfield 11, 3) := tb_d tk_X7_march_1 24 (45, .getfield 11, 3) rfl
theorem dX7_march_48 : decode cX7_march 48 = .ok (.iload_n 1, 1) := tb_d tk_X7_march_1 25 (48, .iload_n 1, 1) rfl
theorem dX7_march_49 : decode cX7_march 49 = .ok (.aaload, 1) := tb_d tk_X7_march_1 26 (49, .aaload, 1) rfl
theorem dX7_march_50 : decode cX7_march 50 = .ok (.iload_n 2, 1) := tb_d tk_X7_march_1 27 (50, .iload_n 2, 1) rfl
theorem dX7_march_51 : decode cX7_march 51 = .ok (.iload_n 3, 1) := tb_d tk_X7_march_1 28 (51, .iload_n 3, 1) rfl
theorem dX7_march_52 : decode cX7_march 52 = .ok (.invokevirtual 71, 3) := tb_d tk_X7_march_1 29 (52, .invokevirtual 71, 3) rfl
theorem dX7_march_55 : decode cX7_march 55 = .ok (.istore 5, 2) := tb_d tk_X7_march_1 30 (55, .istore 5, 2) rfl
theorem dX7_march_57 : decode cX7_march 57 = .ok (.iload 5, 2) := tb_d tk_X7_march_1 31 (57, .iload 5, 2) rfl
theorem dX7_march_59 : decode cX7_march 59 = .ok (.ifCond .eq 10, 3) := tb_d tk_X7_march_1 32 (59, .ifCond .eq 10, 3) rfl
theorem dX7_march_62 : decode cX7_march 62 = .ok (.aload_n 0, 1) := tb_d tk_X7_march_1 33 (62, .aload_n 0, 1) rfl
theorem dX7_march_63 : decode cX7_march 63 = .ok (.iload 5, 2) := tb_d tk_X7_march_1 34 (63, .iload 5, 2) rfl
theorem dX7_march_65 : decode cX7_march 65 = .ok (.invokevirtual 60, 3) := tb_d tk_X7_march_1 35 (65, .invokevirtual 60, 3) rfl
theorem dX7_march_68 : decode cX7_march 68 = .ok (.ireturn, 1) := tb_d tk_X7_march_1 36 (68, .ireturn, 1) rfl
theorem dX7_march_69 : decode cX7_march 69 = .ok (.aload_n 0, 1) := tb_d tk_X7_march_1 37 (69, .aload_n 0, 1) rfl
theorem dX7_march_70 : decode cX7_march 70 = .ok (.aload_n 0, 1) := tb_d tk_X7_march_1 38 (70, .aload_n 0, 1) rfl
theorem dX7_march_71 : decode cX7_march 71 = .ok (.aload_n 0, 1) := tb_d tk_X7_march_1 39 (71, .aload_n 0, 1) rfl
def tb_X7_march_2 : List (Nat × Instr × Nat) := [(72, .getfield 11, 3), (75, .iload_n 1, 1), (76, .aaload, 1), (77, .iload_n 2, 1), (78, .iload 4, 2), (80, .iconst (-1), 1), (81, .if_icmp .ne 7, 3), (84, .iload_n 3, 1), (85, .goto 7, 3), (88, .iload 4, 2), (90, .iconst 1, 1), (91, .iadd, 1), (92, .invokevirtual 257, 3), (95, .invokevirtual 68, 3), (98, .ireturn, 1)]
set_option maxRecDepth 100000 in
theorem tk_X7_march_2 : (tb_X7_march_2.all fun q => decide (decode cX7_march q.1 = .ok q.2)) = true := by decide +kernel
theorem dX7_march_72 : decode cX7_march 72 = .ok (.getfield 11, 3) := tb_d tk_X7_march_2 0 (72, .getfield 11, 3) rfl
theorem dX7_march_75 : decode cX7_march 75 = .ok (.iload_n 1, 1) := tb_d tk_X7_march_2 1 (75, .iload_n 1, 1) rfl
theorem dX7_march_76 : decode cX7_march 76 = .ok (.aaload, 1) := tb_d tk_X7_march_2 2 (76, .aaload, 1) rfl
theorem dX7_march_77 : decode cX7_march 77 = .ok (.iload_n 2, 1) := tb_d tk_X7_march_2 3 (77, .iload_n 2, 1) rfl
theorem dX7_march_78 : decode cX7_march 78 = .ok (.iload 4, 2) := tb_d tk_X7_march_2 4 (78, .iload 4, 2) rfl
theorem dX7_march_80 : decode cX7_march 80 = .ok (.iconst (-1), 1) := tb_d tk_X7_march_2 5 (80, .iconst (-1), 1) rfl
theorem dX7_march_81 : decode cX7_march 81 = .ok (.if_icmp .ne 7, 3) := tb_d tk_X7_march_2 6 (81, .if_icmp .ne 7, 3) rfl
theorem dX7_march_84 : decode cX7_march 84 = .ok (.iload_n 3, 1) := tb_d tk_X7_march_2 7 (84, .iload_n 3, 1) rfl
theorem dX7_march_85 : decode cX7_march 85 = .ok (.goto 7, 3) := tb_d tk_X7_march_2 8 (85, .goto 7, 3) rfl
theorem dX7_march_88 : decode cX7_march 88 = .ok (.iload 4, 2) := tb_d tk_X7_march_2 9 (88, .iload 4, 2) rfl
theorem dX7_march_90 : decode cX7_march 90 = .ok (.iconst 1, 1) := tb_d tk_X7_march_2 10 (90, .iconst 1, 1) rfl
theorem dX7_march_91 : decode cX7_march 91 = .ok (.iadd, 1) := tb_d tk_X7_march_2 11 (91, .iadd, 1) rfl
theorem dX7_march_92 : decode cX7_march 92 = .ok (.invokevirtual 257, 3) := tb_d tk_X7_march_2 12 (92, .invokevirtual 257, 3) rfl
theorem dX7_march_95 : decode cX7_march 95 = .ok (.invokevirtual 68, 3) := tb_d tk_X7_march_2 13 (95, .invokevirtual 68, 3) rfl
theorem dX7_march_98 : decode cX7_march 98 = .ok (.ireturn, 1) := tb_d tk_X7_march_2 14 (98, .ireturn, 1) rfl
set_option maxRecDepth 20000 in
theorem ggX7_cheap_X7_noGate : GoodIn wsX7_cheap wsX7_noGate := goodIn_r _ [8, 3, 9, 82, 83, 84, 85, 86, 87, 88, 89, 90, 91, 92, 93, 94, 95, 96, 97, 98] (by decide +kernel) (by decide +kernel)
set_option maxRecDepth 20000 in
theorem gX7_cheap_X7_noGate : GoodIn wsX7_cheap (wsV RX7 133 RX7 yX7_noGate wsX7_noGate) := goodIn_app (goodIn_of _ (by decide +kernel)) ggX7_cheap_X7_noGate
set_option maxRecDepth 20000 in
theorem ggX7_cheap_X7_areWords : GoodIn wsX7_cheap wsX7_areWords := goodIn_r _ [13, 3, 9, 82, 83, 84, 85, 86, 87, 88, 89, 90, 91, 92, 93, 94, 95, 96, 97, 98] (by decide +kernel) (by decide +kernel)
set_option maxRecDepth 20000 in
theorem gX7_cheap_X7_areWords : GoodIn wsX7_cheap (wsV RX7 233 RX7 yX7_areWords wsX7_areWords) := goodIn_app (goodIn_of _ (by decide +kernel)) ggX7_cheap_X7_areWords
set_option maxRecDepth 20000 in
theorem ggX7_cheap_X7_isAhead : GoodIn wsX7_cheap wsX7_isAhead := goodIn_r _ [17] (by decide +kernel) (by decide +kernel)
set_option maxRecDepth 20000 in
theorem gX7_cheap_X7_isAhead : GoodIn wsX7_cheap (wsV RX7 227 RX7 yX7_isAhead wsX7_isAhead) := goodIn_app (goodIn_of _ (by decide +kernel)) ggX7_cheap_X7_isAhead
set_option maxRecDepth 20000 in
theorem ggX7_cheap_X2_guardsAgainst : GoodIn wsX7_cheap wsX2_guardsAgainst := goodIn_r _ [22, 23, 24, 25, 26, 27, 21, 28, 29, 30, 31, 32, 33, 34, 35, 36, 37, 38, 39, 40, 41, 42, 43, 44, 45, 7, 46, 47, 48, 49, 50, 51, 52, 53, 54, 55, 56, 57, 58, 59, 60, 61, 62, 63, 64, 65, 66, 67, 68, 69, 70, 71, 72, 73, 74, 75, 76, 91, 92, 93, 94, 95, 96, 97, 98, 99, 100, 101, 102, 103, 104, 105, 106] (by decide +kernel) (by decide +kernel)
set_option maxRecDepth 20000 in
theorem gX7_cheap_X2_guardsAgainst : GoodIn wsX7_cheap (wsV RX7 261 RX2 yX2_guardsAgainst wsX2_guardsAgainst) := goodIn_app (goodIn_of _ (by decide +kernel)) ggX7_cheap_X2_guardsAgainst
set_option maxRecDepth 20000 in
theorem ggX7_cheap_X2_feeOf : GoodIn wsX7_cheap wsX2_feeOf := goodIn_r _ [80, 56, 81, 91, 92, 93, 94, 95, 96, 97, 98] (by decide +kernel) (by decide +kernel)
set_option maxRecDepth 20000 in
theorem gX7_cheap_X2_feeOf : GoodIn wsX7_cheap (wsV RX7 264 RX2 yX2_feeOf wsX2_feeOf) := goodIn_app (goodIn_of _ (by decide +kernel)) ggX7_cheap_X2_feeOf
def tb_X7_cheap_1 : List (Nat × Instr × Nat) := [(0, .aload_n 0, 1), (1, .invokevirtual 133, 3), (4, .ifCond .eq 6, 3), (7, .ldc 136, 2), (9, .ireturn, 1), (10, .aload_n 0, 1), (11, .iload_n 1, 1), (12, .invokevirtual 233, 3), (15, .ifCond .eq 20, 3), (18, .aload_n 0, 1), (19, .iload_n 2, 1), (20, .invokevirtual 227, 3), (23, .ifCond .eq 12, 3), (26, .iload_n 3, 1), (27, .ifCond .lt 8, 3), (30, .iload_n 3, 1), (31, .iconst 1, 1), (32, .if_icmp .le 6, 3), (35, .ldc 59, 2), (37, .ireturn, 1), (38, .aload_n 0, 1), (39, .getfield 25, 3), (42, .iload_n 1, 1), (43, .iload_n 2, 1), (44, .invokevirtual 261, 3), (47, .istore 4, 2), (49, .iload_n 3, 1), (50, .ifCond .ne 15, 3), (53, .aload_n 0, 1), (54, .getfield 25, 3), (57, .iload 4, 2), (59, .invokevirtual 264, 3), (62, .goto 5, 3), (65, .iload 4, 2), (67, .ireturn, 1)]
set_option maxRecDepth 100000 in
theorem tk_X7_cheap_1 : (tb_X7_cheap_1.all fun q => decide (decode cX7_cheap q.1 = .ok q.2)) = true := by decide +kernel
theorem dX7_cheap_0 : decode cX7_cheap 0 = .ok (.aload_n 0, 1) := tb_d tk_X7_cheap_1 0 (0, .aload_n 0, 1) rfl
theorem dX7_cheap_1 : decode cX7_cheap 1 = .ok (.invokevirtual 133, 3) := tb_d tk_X7_cheap_1 1 (1, .invokevirtual 133, 3) rfl
theorem dX7_cheap_4 : decode cX7_cheap 4 = .ok (.ifCond .eq 6, 3) := tb_d tk_X7_cheap_1 2 (4, .ifCond .eq 6, 3) rfl
theorem dX7_cheap_7 : decode cX7_cheap 7 = .ok (.ldc 136, 2) := tb_d tk_X7_cheap_1 3 (7, .ldc 136, 2) rfl
theorem dX7_cheap_9 : decode cX7_cheap 9 = .ok (.ireturn, 1) := tb_d tk_X7_cheap_1 4 (9, .ireturn, 1) rfl
theorem dX7_cheap_10 : decode cX7_cheap 10 = .ok (.aload_n 0, 1) := tb_d tk_X7_cheap_1 5 (10, .aload_n 0, 1) rfl
theorem dX7_cheap_11 : decode cX7_cheap 11 = .ok (.iload_n 1, 1) := tb_d tk_X7_cheap_1 6 (11, .iload_n 1, 1) rfl
theorem dX7_cheap_12 : decode cX7_cheap 12 = .ok (.invokevirtual 233, 3) := tb_d tk_X7_cheap_1 7 (12, .invokevirtual 233, 3) rfl
theorem dX7_cheap_15 : decode cX7_cheap 15 = .ok (.ifCond .eq 20, 3) := tb_d tk_X7_cheap_1 8 (15, .ifCond .eq 20, 3) rfl
theorem dX7_cheap_18 : decode cX7_cheap 18 = .ok (.aload_n 0, 1) := tb_d tk_X7_cheap_1 9 (18, .aload_n 0, 1) rfl
theorem dX7_cheap_19 : decode cX7_cheap 19 = .ok (.iload_n 2, 1) := tb_d tk_X7_cheap_1 10 (19, .iload_n 2, 1) rfl
theorem dX7_cheap_20 : decode cX7_cheap 20 = .ok (.invokevirtual 227, 3) := tb_d tk_X7_cheap_1 11 (20, .invokevirtual 227, 3) rfl
theorem dX7_cheap_23 : decode cX7_cheap 23 = .ok (.ifCond .eq 12, 3) := tb_d tk_X7_cheap_1 12 (23, .ifCond .eq 12, 3) rfl
theorem dX7_cheap_26 : decode cX7_cheap 26 = .ok (.iload_n 3, 1) := tb_d tk_X7_cheap_1 13 (26, .iload_n 3, 1) rfl
theorem dX7_cheap_27 : decode cX7_cheap 27 = .ok (.ifCond .lt 8, 3) := tb_d tk_X7_cheap_1 14 (27, .ifCond .lt 8, 3) rfl
theorem dX7_cheap_30 : decode cX7_cheap 30 = .ok (.iload_n 3, 1) := tb_d tk_X7_cheap_1 15 (30, .iload_n 3, 1) rfl
theorem dX7_cheap_31 : decode cX7_cheap 31 = .ok (.iconst 1, 1) := tb_d tk_X7_cheap_1 16 (31, .iconst 1, 1) rfl
theorem dX7_cheap_32 : decode cX7_cheap 32 = .ok (.if_icmp .le 6, 3) := tb_d tk_X7_cheap_1 17 (32, .if_icmp .le 6, 3) rfl
theorem dX7_cheap_35 : decode cX7_cheap 35 = .ok (.ldc 59, 2) := tb_d tk_X7_cheap_1 18 (35, .ldc 59, 2) rfl
theorem dX7_cheap_37 : decode cX7_cheap 37 = .ok (.ireturn, 1) := tb_d tk_X7_cheap_1 19 (37, .ireturn, 1) rfl
theorem dX7_cheap_38 : decode cX7_cheap 38 = .ok (.aload_n 0, 1) := tb_d tk_X7_cheap_1 20 (38, .aload_n 0, 1) rfl
theorem dX7_cheap_39 : decode cX7_cheap 39 = .ok (.getfield 25, 3) := tb_d tk_X7_cheap_1 21 (39, .getfield 25, 3) rfl
theorem dX7_cheap_42 : decode cX7_cheap 42 = .ok (.iload_n 1, 1) := tb_d tk_X7_cheap_1 22 (42, .iload_n 1, 1) rfl
theorem dX7_cheap_43 : decode cX7_cheap 43 = .ok (.iload_n 2, 1) := tb_d tk_X7_cheap_1 23 (43, .iload_n 2, 1) rfl
theorem dX7_cheap_44 : decode cX7_cheap 44 = .ok (.invokevirtual 261, 3) := tb_d tk_X7_cheap_1 24 (44, .invokevirtual 261, 3) rfl
theorem dX7_cheap_47 : decode cX7_cheap 47 = .ok (.istore 4, 2) := tb_d tk_X7_cheap_1 25 (47, .istore 4, 2) rfl
theorem dX7_cheap_49 : decode cX7_cheap 49 = .ok (.iload_n 3, 1) := tb_d tk_X7_cheap_1 26 (49, .iload_n 3, 1) rfl
theorem dX7_cheap_50 : decode cX7_cheap 50 = .ok (.ifCond .ne 15, 3) := tb_d tk_X7_cheap_1 27 (50, .ifCond .ne 15, 3) rfl
theorem dX7_cheap_53 : decode cX7_cheap 53 = .ok (.aload_n 0, 1) := tb_d tk_X7_cheap_1 28 (53, .aload_n 0, 1) rfl
theorem dX7_cheap_54 : decode cX7_cheap 54 = .ok (.getfield 25, 3) := tb_d tk_X7_cheap_1 29 (54, .getfield 25, 3) rfl
theorem dX7_cheap_57 : decode cX7_cheap 57 = .ok (.iload 4, 2) := tb_d tk_X7_cheap_1 30 (57, .iload 4, 2) rfl
theorem dX7_cheap_59 : decode cX7_cheap 59 = .ok (.invokevirtual 264, 3) := tb_d tk_X7_cheap_1 31 (59, .invokevirtual 264, 3) rfl
theorem dX7_cheap_62 : decode cX7_cheap 62 = .ok (.goto 5, 3) := tb_d tk_X7_cheap_1 32 (62, .goto 5, 3) rfl
theorem dX7_cheap_65 : decode cX7_cheap 65 = .ok (.iload 4, 2) := tb_d tk_X7_cheap_1 33 (65, .iload 4, 2) rfl
theorem dX7_cheap_67 : decode cX7_cheap 67 = .ok (.ireturn, 1) := tb_d tk_X7_cheap_1 34 (67, .ireturn, 1) rfl
set_option maxRecDepth 20000 in
theorem ggX7_near_X7_isWord : GoodIn wsX7_near wsX7_isWord := goodIn_r _ [8, 2, 9, 23, 24, 25, 26, 27, 28, 29, 30, 31, 32, 33, 34, 35, 36, 37, 38, 39] (by decide +kernel) (by decide +kernel)
set_option maxRecDepth 20000 in
theorem gX7_near_X7_isWord : GoodIn wsX7_near (wsV RX7 156 RX7 yX7_isWord wsX7_isWord) := goodIn_app (goodIn_of _ (by decide +kernel)) ggX7_near_X7_isWord
set_option maxRecDepth 20000 in
theorem ggX7_near_X2_nearestTo : GoodIn wsX7_near wsX2_nearestTo := goodIn_r _ [14, 15, 16, 17, 18, 19, 13, 20, 21, 32, 33, 34, 35, 36, 37, 38, 39] (by decide +kernel) (by decide +kernel)
set_option maxRecDepth 20000 in
theorem gX7_near_X2_nearestTo : GoodIn wsX7_near (wsV RX7 267 RX2 yX2_nearestTo wsX2_nearestTo) := goodIn_app (goodIn_of _ (by decide +kernel)) ggX7_near_X2_nearestTo
set_option maxRecDepth 20000 in
theorem ggX7_near_X2_distance : GoodIn wsX7_near wsX2_distance := goodIn_r _ [20, 21, 32, 33, 34, 35, 36, 37, 38, 39] (by decide +kernel) (by decide +kernel)
set_option maxRecDepth 20000 in
theorem gX7_near_X2_distance : GoodIn wsX7_near (wsV RX7 203 RX2 yX2_distance wsX2_distance) := goodIn_app (goodIn_of _ (by decide +kernel)) ggX7_near_X2_distance
def tb_X7_near_1 : List (Nat × Instr × Nat) := [(0, .aload_n 0, 1), (1, .iload_n 1, 1), (2, .invokevirtual 156, 3), (5, .ifCond .eq 12, 3), (8, .iload_n 2, 1), (9, .ifCond .lt 8, 3), (12, .iload_n 2, 1), (13, .iconst 1, 1), (14, .if_icmp .le 6, 3), (17, .ldc 59, 2), (19, .ireturn, 1), (20, .aload_n 0, 1), (21, .getfield 25, 3), (24, .iload_n 1, 1), (25, .invokevirtual 267, 3), (28, .istore_n 3, 1), (29, .iload_n 2, 1), (30, .ifCond .eq 9, 3), (33, .iload_n 3, 1), (34, .ldc 175, 2), (36, .if_icmp .ne 7, 3), (39, .iload_n 3, 1), (40, .goto 12, 3), (43, .aload_n 0, 1), (44, .getfield 25, 3), (47, .iload_n 1, 1), (48, .iload_n 3, 1), (49, .invokevirtual 203, 3), (52, .ireturn, 1)]
set_option maxRecDepth 100000 in
theorem tk_X7_near_1 : (tb_X7_near_1.all fun q => decide (decode cX7_near q.1 = .ok q.2)) = true := by decide +kernel
theorem dX7_near_0 : decode cX7_near 0 = .ok (.aload_n 0, 1) := tb_d tk_X7_near_1 0 (0, .aload_n 0, 1) rfl
theorem dX7_near_1 : decode cX7_near 1 = .ok (.iload_n 1, 1) := tb_d tk_X7_near_1 1 (1, .iload_n 1, 1) rfl
theorem dX7_near_2 : decode cX7_near 2 = .ok (.invokevirtual 156, 3) := tb_d tk_X7_near_1 2 (2, .invokevirtual 156, 3) rfl
theorem dX7_near_5 : decode cX7_near 5 = .ok (.ifCond .eq 12, 3) := tb_d tk_X7_near_1 3 (5, .ifCond .eq 12, 3) rfl
theorem dX7_near_8 : decode cX7_near 8 = .ok (.iload_n 2, 1) := tb_d tk_X7_near_1 4 (8, .iload_n 2, 1) rfl
theorem dX7_near_9 : decode cX7_near 9 = .ok (.ifCond .lt 8, 3) := tb_d tk_X7_near_1 5 (9, .ifCond .lt 8, 3) rfl
theorem dX7_near_12 : decode cX7_near 12 = .ok (.iload_n 2, 1) := tb_d tk_X7_near_1 6 (12, .iload_n 2, 1) rfl
theorem dX7_near_13 : decode cX7_near 13 = .ok (.iconst 1, 1) := tb_d tk_X7_near_1 7 (13, .iconst 1, 1) rfl
theorem dX7_near_14 : decode cX7_near 14 = .ok (.if_icmp .le 6, 3) := tb_d tk_X7_near_1 8 (14, .if_icmp .le 6, 3) rfl
theorem dX7_near_17 : decode cX7_near 17 = .ok (.ldc 59, 2) := tb_d tk_X7_near_1 9 (17, .ldc 59, 2) rfl
theorem dX7_near_19 : decode cX7_near 19 = .ok (.ireturn, 1) := tb_d tk_X7_near_1 10 (19, .ireturn, 1) rfl
theorem dX7_near_20 : decode cX7_near 20 = .ok (.aload_n 0, 1) := tb_d tk_X7_near_1 11 (20, .aload_n 0, 1) rfl
theorem dX7_near_21 : decode cX7_near 21 = .ok (.getfield 25, 3) := tb_d tk_X7_near_1 12 (21, .getfield 25, 3) rfl
theorem dX7_near_24 : decode cX7_near 24 = .ok (.iload_n 1, 1) := tb_d tk_X7_near_1 13 (24, .iload_n 1, 1) rfl
theorem dX7_near_25 : decode cX7_near 25 = .ok (.invokevirtual 267, 3) := tb_d tk_X7_near_1 14 (25, .invokevirtual 267, 3) rfl
theorem dX7_near_28 : decode cX7_near 28 = .ok (.istore_n 3, 1) := tb_d tk_X7_near_1 15 (28, .istore_n 3, 1) rfl
theorem dX7_near_29 : decode cX7_near 29 = .ok (.iload_n 2, 1) := tb_d tk_X7_near_1 16 (29, .iload_n 2, 1) rfl
theorem dX7_near_30 : decode cX7_near 30 = .ok (.ifCond .eq 9, 3) := tb_d tk_X7_near_1 17 (30, .ifCond .eq 9, 3) rfl
theorem dX7_near_33 : decode cX7_near 33 = .ok (.iload_n 3, 1) := tb_d tk_X7_near_1 18 (33, .iload_n 3, 1) rfl
theorem dX7_near_34 : decode cX7_near 34 = .ok (.ldc 175, 2) := tb_d tk_X7_near_1 19 (34, .ldc 175, 2) rfl
theorem dX7_near_36 : decode cX7_near 36 = .ok (.if_icmp .ne 7, 3) := tb_d tk_X7_near_1 20 (36, .if_icmp .ne 7, 3) rfl
theorem dX7_near_39 : decode cX7_near 39 = .ok (.iload_n 3, 1) := tb_d tk_X7_near_1 21 (39, .iload_n 3, 1) rfl
theorem dX7_near_40 : decode cX7_near 40 = .ok (.goto 12, 3) := tb_d tk_X7_near_1 22 (40, .goto 12, 3) rfl
theorem dX7_near_43 : decode cX7_near 43 = .ok (.aload_n 0, 1) := tb_d tk_X7_near_1 23 (43, .aload_n 0, 1) rfl
theorem dX7_near_44 : decode cX7_near 44 = .ok (.getfield 25, 3) := tb_d tk_X7_near_1 24 (44, .getfield 25, 3) rfl
theorem dX7_near_47 : decode cX7_near 47 = .ok (.iload_n 1, 1) := tb_d tk_X7_near_1 25 (47, .iload_n 1, 1) rfl
theorem dX7_near_48 : decode cX7_near 48 = .ok (.iload_n 3, 1) := tb_d tk_X7_near_1 26 (48, .iload_n 3, 1) rfl
theorem dX7_near_49 : decode cX7_near 49 = .ok (.invokevirtual 203, 3) := tb_d tk_X7_near_1 27 (49, .invokevirtual 203, 3) rfl
theorem dX7_near_52 : decode cX7_near 52 = .ok (.ireturn, 1) := tb_d tk_X7_near_1 28 (52, .ireturn, 1) rfl
set_option maxRecDepth 20000 in
theorem ggX7_rules_X7_noGate : GoodIn wsX7_rules wsX7_noGate := goodIn_r _ [8, 9, 10, 57, 58, 59, 60, 61, 62, 63, 64, 65, 66, 67, 68, 69, 70, 71, 72, 73] (by decide +kernel) (by decide +kernel)
set_option maxRecDepth 20000 in
theorem gX7_rules_X7_noGate : GoodIn wsX7_rules (wsV RX7 133 RX7 yX7_noGate wsX7_noGate) := goodIn_app (goodIn_of _ (by decide +kernel)) ggX7_rules_X7_noGate
set_option maxRecDepth 20000 in
theorem ggX7_rules_X7_isRow : GoodIn wsX7_rules wsX7_isRow := goodIn_r _ [14] (by decide +kernel) (by decide +kernel)
set_option maxRecDepth 20000 in
theorem gX7_rules_X7_isRow : GoodIn wsX7_rules (wsV RX7 55 RX7 yX7_isRow wsX7_isRow) := goodIn_app (goodIn_of _ (by decide +kernel)) ggX7_rules_X7_isRow
set_option maxRecDepth 20000 in
theorem ggX7_rules_X5_findingOf : GoodIn wsX7_rules wsX5_findingOf := goodIn_r _ [19, 20, 21, 22, 23, 18, 24, 25, 74, 75, 76] (by decide +kernel) (by decide +kernel)
set_option maxRecDepth 20000 in
theorem gX7_rules_X5_findingOf : GoodIn wsX7_rules (wsV RX7 71 RX5 yX5_findingOf wsX5_findingOf) := goodIn_app (goodIn_of _ (by decide +kernel)) ggX7_rules_X5_findingOf
set_option maxRecDepth 20000 in
theorem ggX7_rules_X7_found : GoodIn wsX7_rules wsX7_found := goodIn_r _ [29, 30, 31, 57, 58, 59, 60, 61, 62, 63, 64, 65] (by decide +kernel) (by decide +kernel)
set_option maxRecDepth 20000 in
theorem gX7_rules_X7_found : GoodIn wsX7_rules (wsV RX7 60 RX7 yX7_found wsX7_found) := goodIn_app (goodIn_of _ (by decide +kernel)) ggX7_rules_X7_found
set_option maxRecDepth 20000 in
theorem ggX7_rules_X7_rulesThatTell : GoodIn wsX7_rules wsX7_rulesThatTell := goodIn_r _ [35, 9, 36, 37, 38, 39, 40, 41, 42, 43, 44, 45, 46, 47, 48, 7, 49, 50, 51, 52, 57, 58, 59, 60, 61, 62, 63, 64, 65, 66, 67, 68, 69, 70, 71, 72, 73, 77, 78, 79, 80, 81, 82, 83, 84, 74, 75, 76] (by decide +kernel) (by decide +kernel)
set_option maxRecDepth 20000 in
theorem gX7_rules_X7_rulesThatTell : GoodIn wsX7_rules (wsV RX7 270 RX7 yX7_rulesThatTell wsX7_rulesThatTell) := goodIn_app (goodIn_of _ (by decide +kernel)) ggX7_rules_X7_rulesThatTell
set_option maxRecDepth 20000 in
theorem ggX7_rules_X7_unfound : GoodIn wsX7_rules wsX7_unfound := goodIn_r _ [56, 30, 57, 58, 59, 60, 61, 62, 63, 64, 65] (by decide +kernel) (by decide +kernel)
set_option maxRecDepth 20000 in
theorem gX7_rules_X7_unfound : GoodIn wsX7_rules (wsV RX7 68 RX7 yX7_unfound wsX7_unfound) := goodIn_app (goodIn_of _ (by decide +kernel)) ggX7_rules_X7_unfound
def tb_X7_rules_1 : List (Nat × Instr × Nat) := [(0, .aload_n 0, 1), (1, .invokevirtual 133, 3), (4, .ifCond .eq 6, 3), (7, .ldc 136, 2), (9, .ireturn, 1), (10, .aload_n 0, 1), (11, .iload_n 1, 1), (12, .invokevirtual 55, 3), (15, .ifCond .eq 25, 3), (18, .iload_n 3, 1), (19, .iconst 1, 1), (20, .if_icmp .lt 20, 3), (23, .iload_n 3, 1), (24, .bipush 16, 2), (26, .if_icmp .gt 14, 3), (29, .iload 4, 2), (31, .ifCond .lt 9, 3), (34, .iload 4, 2), (36, .iconst 2, 1), (37, .if_icmp .le 6, 3), (40, .ldc 59, 2), (42, .ireturn, 1), (43, .aload_n 0, 1), (44, .getfield 11, 3), (47, .iload_n 1, 1), (48, .aaload, 1), (49, .iload_n 2, 1), (50, .iload_n 3, 1), (51, .invokevirtual 71, 3), (54, .istore 5, 2), (56, .iload 5, 2), (58, .ifCond .eq 12, 3), (61, .aload_n 0, 1), (62, .iload 5, 2), (64, .invokevirtual 60, 3), (67, .goto 21, 3), (70, .aload_n 0, 1), (71, .aload_n 0, 1), (72, .aload_n 0, 1), (73, .getfield 11, 3)]
set_option maxRecDepth 100000 in
theorem tk_X7_rules_1 : (tb_X7_rules_1.all fun q => decide (decode cX7_rules q.1 = .ok q.2)) = true := by decide +kernel
theorem dX7_rules_0 : decode cX7_rules 0 = .ok (.aload_n 0, 1) := tb_d tk_X7_rules_1 0 (0, .aload_n 0, 1) rfl
theorem dX7_rules_1 : decode cX7_rules 1 = .ok (.invokevirtual 133, 3) := tb_d tk_X7_rules_1 1 (1, .invokevirtual 133, 3) rfl
theorem dX7_rules_4 : decode cX7_rules 4 = .ok (.ifCond .eq 6, 3) := tb_d tk_X7_rules_1 2 (4, .ifCond .eq 6, 3) rfl
theorem dX7_rules_7 : decode cX7_rules 7 = .ok (.ldc 136, 2) := tb_d tk_X7_rules_1 3 (7, .ldc 136, 2) rfl
theorem dX7_rules_9 : decode cX7_rules 9 = .ok (.ireturn, 1) := tb_d tk_X7_rules_1 4 (9, .ireturn, 1) rfl
theorem dX7_rules_10 : decode cX7_rules 10 = .ok (.aload_n 0, 1) := tb_d tk_X7_rules_1 5 (10, .aload_n 0, 1) rfl
theorem dX7_rules_11 : decode cX7_rules 11 = .ok (.iload_n 1, 1) := tb_d tk_X7_rules_1 6 (11, .iload_n 1, 1) rfl
theorem dX7_rules_12 : decode cX7_rules 12 = .ok (.invokevirtual 55, 3) := tb_d tk_X7_rules_1 7 (12, .invokevirtual 55, 3) rfl
theorem dX7_rules_15 : decode cX7_rules 15 = .ok (.ifCond .eq 25, 3) := tb_d tk_X7_rules_1 8 (15, .ifCond .eq 25, 3) rfl
theorem dX7_rules_18 : decode cX7_rules 18 = .ok (.iload_n 3, 1) := tb_d tk_X7_rules_1 9 (18, .iload_n 3, 1) rfl
theorem dX7_rules_19 : decode cX7_rules 19 = .ok (.iconst 1, 1) := tb_d tk_X7_rules_1 10 (19, .iconst 1, 1) rfl
theorem dX7_rules_20 : decode cX7_rules 20 = .ok (.if_icmp .lt 20, 3) := tb_d tk_X7_rules_1 11 (20, .if_icmp .lt 20, 3) rfl
theorem dX7_rules_23 : decode cX7_rules 23 = .ok (.iload_n 3, 1) := tb_d tk_X7_rules_1 12 (23, .iload_n 3, 1) rfl
theorem dX7_rules_24 : decode cX7_rules 24 = .ok (.bipush 16, 2) := tb_d tk_X7_rules_1 13 (24, .bipush 16, 2) rfl
theorem dX7_rules_26 : decode cX7_rules 26 = .ok (.if_icmp .gt 14, 3) := tb_d tk_X7_rules_1 14 (26, .if_icmp .gt 14, 3) rfl
theorem dX7_rules_29 : decode cX7_rules 29 = .ok (.iload 4, 2) := tb_d tk_X7_rules_1 15 (29, .iload 4, 2) rfl
theorem dX7_rules_31 : decode cX7_rules 31 = .ok (.ifCond .lt 9, 3) := tb_d tk_X7_rules_1 16 (31, .ifCond .lt 9, 3) rfl
theorem dX7_rules_34 : decode cX7_rules 34 = .ok (.iload 4, 2) := tb_d tk_X7_rules_1 17 (34, .iload 4, 2) rfl
theorem dX7_rules_36 : decode cX7_rules 36 = .ok (.iconst 2, 1) := tb_d tk_X7_rules_1 18 (36, .iconst 2, 1) rfl
theorem dX7_rules_37 : decode cX7_rules 37 = .ok (.if_icmp .le 6, 3) := tb_d tk_X7_rules_1 19 (37, .if_icmp .le 6, 3) rfl
theorem dX7_rules_40 : decode cX7_rules 40 = .ok (.ldc 59, 2) := tb_d tk_X7_rules_1 20 (40, .ldc 59, 2) rfl
theorem dX7_rules_42 : decode cX7_rules 42 = .ok (.ireturn, 1) := tb_d tk_X7_rules_1 21 (42, .ireturn, 1) rfl
theorem dX7_rules_43 : decode cX7_rules 43 = .ok (.aload_n 0, 1) := tb_d tk_X7_rules_1 22 (43, .aload_n 0, 1) rfl
theorem dX7_rules_44 : decode cX7_rules 44 = .ok (.getfield 11, 3) := tb_d tk_X7_rules_1 23 (44, .getfield 11, 3) rfl
theorem dX7_rules_47 : decode cX7_rules 47 = .ok (.iload_n 1, 1) := tb_d tk_X7_rules_1 24 (47, .iload_n 1, 1) rfl
theorem dX7_rules_48 : decode cX7_rules 48 = .ok (.aaload, 1) := tb_d tk_X7_rules_1 25 (48, .aaload, 1) rfl
theorem dX7_rules_49 : decode cX7_rules 49 = .ok (.iload_n 2, 1) := tb_d tk_X7_rules_1 26 (49, .iload_n 2, 1) rfl
theorem dX7_rules_50 : decode cX7_rules 50 = .ok (.iload_n 3, 1) := tb_d tk_X7_rules_1 27 (50, .iload_n 3, 1) rfl
theorem dX7_rules_51 : decode cX7_rules 51 = .ok (.invokevirtual 71, 3) := tb_d tk_X7_rules_1 28 (51, .invokevirtual 71, 3) rfl
theorem dX7_rules_54 : decode cX7_rules 54 = .ok (.istore 5, 2) := tb_d tk_X7_rules_1 29 (54, .istore 5, 2) rfl
theorem dX7_rules_56 : decode cX7_rules 56 = .ok (.iload 5, 2) := tb_d tk_X7_rules_1 30 (56, .iload 5, 2) rfl
theorem dX7_rules_58 : decode cX7_rules 58 = .ok (.ifCond .eq 12, 3) := tb_d tk_X7_rules_1 31 (58, .ifCond .eq 12, 3) rfl
theorem dX7_rules_61 : decode cX7_rules 61 = .ok (.aload_n 0, 1) := tb_d tk_X7_rules_1 32 (61, .aload_n 0, 1) rfl
theorem dX7_rules_62 : decode cX7_rules 62 = .ok (.iload 5, 2) := tb_d tk_X7_rules_1 33 (62, .iload 5, 2) rfl
theorem dX7_rules_64 : decode cX7_rules 64 = .ok (.invokevirtual 60, 3) := tb_d tk_X7_rules_1 34 (64, .invokevirtual 60, 3) rfl
theorem dX7_rules_67 : decode cX7_rules 67 = .ok (.goto 21, 3) := tb_d tk_X7_rules_1 35 (67, .goto 21, 3) rfl
theorem dX7_rules_70 : decode cX7_rules 70 = .ok (.aload_n 0, 1) := tb_d tk_X7_rules_1 36 (70, .aload_n 0, 1) rfl
theorem dX7_rules_71 : decode cX7_rules 71 = .ok (.aload_n 0, 1) := tb_d tk_X7_rules_1 37 (71, .aload_n 0, 1) rfl
theorem dX7_rules_72 : decode cX7_rules 72 = .ok (.aload_n 0, 1) := tb_d tk_X7_rules_1 38 (72, .aload_n 0, 1) rfl
theorem dX7_rules_73 : decode cX7_rules 73 = .ok (.getfield 11, 3) := tb_d tk_X7_rules_1 39 (73, .getfield 11, 3) rfl
def tb_X7_rules_2 : List (Nat × Instr × Nat) := [(76, .iload_n 1, 1), (77, .aaload, 1), (78, .iload_n 2, 1), (79, .iload_n 3, 1), (80, .iload 4, 2), (82, .invokevirtual 270, 3), (85, .invokevirtual 68, 3), (88, .ireturn, 1)]
set_option maxRecDepth 100000 in
theorem tk_X7_rules_2 : (tb_X7_rules_2.all fun q => decide (decode cX7_rules q.1 = .ok q.2)) = true := by decide +kernel
theorem dX7_rules_76 : decode cX7_rules 76 = .ok (.iload_n 1, 1) := tb_d tk_X7_rules_2 0 (76, .iload_n 1, 1) rfl
theorem dX7_rules_77 : decode cX7_rules 77 = .ok (.aaload, 1) := tb_d tk_X7_rules_2 1 (77, .aaload, 1) rfl
theorem dX7_rules_78 : decode cX7_rules 78 = .ok (.iload_n 2, 1) := tb_d tk_X7_rules_2 2 (78, .iload_n 2, 1) rfl
theorem dX7_rules_79 : decode cX7_rules 79 = .ok (.iload_n 3, 1) := tb_d tk_X7_rules_2 3 (79, .iload_n 3, 1) rfl
theorem dX7_rules_80 : decode cX7_rules 80 = .ok (.iload 4, 2) := tb_d tk_X7_rules_2 4 (80, .iload 4, 2) rfl
theorem dX7_rules_82 : decode cX7_rules 82 = .ok (.invokevirtual 270, 3) := tb_d tk_X7_rules_2 5 (82, .invokevirtual 270, 3) rfl
theorem dX7_rules_85 : decode cX7_rules 85 = .ok (.invokevirtual 68, 3) := tb_d tk_X7_rules_2 6 (85, .invokevirtual 68, 3) rfl
theorem dX7_rules_88 : decode cX7_rules 88 = .ok (.ireturn, 1) := tb_d tk_X7_rules_2 7 (88, .ireturn, 1) rfl
set_option maxRecDepth 20000 in
theorem ggX7_fits_X7_isGuard : GoodIn wsX7_fits wsX7_isGuard := goodIn_r _ [10, 3, 11, 85, 86, 87, 88, 89, 90, 91, 92, 93, 94, 95, 96, 97, 98, 99, 100, 101] (by decide +kernel) (by decide +kernel)
set_option maxRecDepth 20000 in
theorem gX7_fits_X7_isGuard : GoodIn wsX7_fits (wsV RX7 187 RX7 yX7_isGuard wsX7_isGuard) := goodIn_app (goodIn_of _ (by decide +kernel)) ggX7_fits_X7_isGuard
set_option maxRecDepth 20000 in
theorem ggX7_fits_X7_isRow : GoodIn wsX7_fits wsX7_isRow := goodIn_r _ [15] (by decide +kernel) (by decide +kernel)
set_option maxRecDepth 20000 in
theorem gX7_fits_X7_isRow : GoodIn wsX7_fits (wsV RX7 55 RX7 yX7_isRow wsX7_isRow) := goodIn_app (goodIn_of _ (by decide +kernel)) ggX7_fits_X7_isRow
set_option maxRecDepth 20000 in
theorem ggX7_fits_X5_findingOf : GoodIn wsX7_fits wsX5_findingOf := goodIn_r _ [20, 21, 22, 23, 24, 19, 25, 26, 102, 103, 104] (by decide +kernel) (by decide +kernel)
set_option maxRecDepth 20000 in
theorem gX7_fits_X5_findingOf : GoodIn wsX7_fits (wsV RX7 71 RX5 yX5_findingOf wsX5_findingOf) := goodIn_app (goodIn_of _ (by decide +kernel)) ggX7_fits_X5_findingOf
set_option maxRecDepth 20000 in
theorem ggX7_fits_X7_found : GoodIn wsX7_fits wsX7_found := goodIn_r _ [30, 31, 32, 85, 86, 87, 88, 89, 90, 91, 92, 93] (by decide +kernel) (by decide +kernel)
set_option maxRecDepth 20000 in
theorem gX7_fits_X7_found : GoodIn wsX7_fits (wsV RX7 60 RX7 yX7_found wsX7_found) := goodIn_app (goodIn_of _ (by decide +kernel)) ggX7_fits_X7_found
set_option maxRecDepth 20000 in
theorem ggX7_fits_X7_kindsThatFit : GoodIn wsX7_fits wsX7_kindsThatFit := goodIn_r _ [36, 3, 37, 38, 39, 40, 41, 42, 43, 44, 45, 46, 47, 48, 49, 50, 51, 52, 9, 53, 54, 55, 56, 57, 4, 58, 59, 60, 61, 62, 63, 64, 65, 66, 67, 68, 69, 70, 71, 72, 73, 74, 75, 76, 85, 86, 87, 88, 89, 90, 91, 92, 93, 94, 95, 96, 97, 98, 99, 100, 101, 105, 106, 107, 108, 109, 110, 111, 112, 102, 103, 104] (by decide +kernel) (by decide +kernel)
set_option maxRecDepth 20000 in
theorem gX7_fits_X7_kindsThatFit : GoodIn wsX7_fits (wsV RX7 274 RX7 yX7_kindsThatFit wsX7_kindsThatFit) := goodIn_app (goodIn_of _ (by decide +kernel)) ggX7_fits_X7_kindsThatFit
set_option maxRecDepth 20000 in
theorem ggX7_fits_X7_secretsThatFit : GoodIn wsX7_fits wsX7_secretsThatFit := goodIn_r _ [80, 3, 4, 54, 55, 56, 9, 57, 58, 59, 60, 61, 62, 63, 40, 64, 65, 66, 67, 68, 69, 70, 71, 72, 73, 74, 75, 76, 85, 86, 87, 88, 89, 90, 91, 92, 93, 94, 95, 96, 97, 98, 99, 100, 101, 105, 106, 107, 108, 109, 110, 111, 112, 102, 103, 104] (by decide +kernel) (by decide +kernel)
set_option maxRecDepth 20000 in
theorem gX7_fits_X7_secretsThatFit : GoodIn wsX7_fits (wsV RX7 281 RX7 yX7_secretsThatFit wsX7_secretsThatFit) := goodIn_app (goodIn_of _ (by decide +kernel)) ggX7_fits_X7_secretsThatFit
set_option maxRecDepth 20000 in
theorem ggX7_fits_X7_unfound : GoodIn wsX7_fits wsX7_unfound := goodIn_r _ [84, 31, 85, 86, 87, 88, 89, 90, 91, 92, 93] (by decide +kernel) (by decide +kernel)
set_option maxRecDepth 20000 in
theorem gX7_fits_X7_unfound : GoodIn wsX7_fits (wsV RX7 68 RX7 yX7_unfound wsX7_unfound) := goodIn_app (goodIn_of _ (by decide +kernel)) ggX7_fits_X7_unfound
def tb_X7_fits_1 : List (Nat × Instr × Nat) := [(0, .aload_n 0, 1), (1, .iload_n 1, 1), (2, .invokevirtual 187, 3), (5, .ifCond .eq 22, 3), (8, .aload_n 0, 1), (9, .iload_n 2, 1), (10, .invokevirtual 55, 3), (13, .ifCond .eq 14, 3), (16, .iload 4, 2), (18, .ifCond .lt 9, 3), (21, .iload 4, 2), (23, .iconst 1, 1), (24, .if_icmp .le 6, 3), (27, .ldc 59, 2), (29, .ireturn, 1), (30, .aload_n 0, 1), (31, .getfield 11, 3), (34, .iload_n 2, 1), (35, .aaload, 1), (36, .iload_n 3, 1), (37, .aload_n 0, 1), (38, .getfield 25, 3), (41, .getfield 130, 3), (44, .invokevirtual 71, 3), (47, .istore 5, 2), (49, .iload 5, 2), (51, .ifCond .eq 10, 3), (54, .aload_n 0, 1), (55, .iload 5, 2), (57, .invokevirtual 60, 3), (60, .ireturn, 1), (61, .aload_n 0, 1), (62, .iload 4, 2), (64, .ifCond .ne 17, 3), (67, .aload_n 0, 1), (68, .aload_n 0, 1), (69, .getfield 11, 3), (72, .iload_n 2, 1), (73, .aaload, 1), (74, .iload_n 3, 1)]
set_option maxRecDepth 100000 in
theorem tk_X7_fits_1 : (tb_X7_fits_1.all fun q => decide (decode cX7_fits q.1 = .ok q.2)) = true := by decide +kernel
theorem dX7_fits_0 : decode cX7_fits 0 = .ok (.aload_n 0, 1) := tb_d tk_X7_fits_1 0 (0, .aload_n 0, 1) rfl
theorem dX7_fits_1 : decode cX7_fits 1 = .ok (.iload_n 1, 1) := tb_d tk_X7_fits_1 1 (1, .iload_n 1, 1) rfl
theorem dX7_fits_2 : decode cX7_fits 2 = .ok (.invokevirtual 187, 3) := tb_d tk_X7_fits_1 2 (2, .invokevirtual 187, 3) rfl
theorem dX7_fits_5 : decode cX7_fits 5 = .ok (.ifCond .eq 22, 3) := tb_d tk_X7_fits_1 3 (5, .ifCond .eq 22, 3) rfl
theorem dX7_fits_8 : decode cX7_fits 8 = .ok (.aload_n 0, 1) := tb_d tk_X7_fits_1 4 (8, .aload_n 0, 1) rfl
theorem dX7_fits_9 : decode cX7_fits 9 = .ok (.iload_n 2, 1) := tb_d tk_X7_fits_1 5 (9, .iload_n 2, 1) rfl
theorem dX7_fits_10 : decode cX7_fits 10 = .ok (.invokevirtual 55, 3) := tb_d tk_X7_fits_1 6 (10, .invokevirtual 55, 3) rfl
theorem dX7_fits_13 : decode cX7_fits 13 = .ok (.ifCond .eq 14, 3) := tb_d tk_X7_fits_1 7 (13, .ifCond .eq 14, 3) rfl
theorem dX7_fits_16 : decode cX7_fits 16 = .ok (.iload 4, 2) := tb_d tk_X7_fits_1 8 (16, .iload 4, 2) rfl
theorem dX7_fits_18 : decode cX7_fits 18 = .ok (.ifCond .lt 9, 3) := tb_d tk_X7_fits_1 9 (18, .ifCond .lt 9, 3) rfl
theorem dX7_fits_21 : decode cX7_fits 21 = .ok (.iload 4, 2) := tb_d tk_X7_fits_1 10 (21, .iload 4, 2) rfl
theorem dX7_fits_23 : decode cX7_fits 23 = .ok (.iconst 1, 1) := tb_d tk_X7_fits_1 11 (23, .iconst 1, 1) rfl
theorem dX7_fits_24 : decode cX7_fits 24 = .ok (.if_icmp .le 6, 3) := tb_d tk_X7_fits_1 12 (24, .if_icmp .le 6, 3) rfl
theorem dX7_fits_27 : decode cX7_fits 27 = .ok (.ldc 59, 2) := tb_d tk_X7_fits_1 13 (27, .ldc 59, 2) rfl
theorem dX7_fits_29 : decode cX7_fits 29 = .ok (.ireturn, 1) := tb_d tk_X7_fits_1 14 (29, .ireturn, 1) rfl
theorem dX7_fits_30 : decode cX7_fits 30 = .ok (.aload_n 0, 1) := tb_d tk_X7_fits_1 15 (30, .aload_n 0, 1) rfl
theorem dX7_fits_31 : decode cX7_fits 31 = .ok (.getfield 11, 3) := tb_d tk_X7_fits_1 16 (31, .getfield 11, 3) rfl
theorem dX7_fits_34 : decode cX7_fits 34 = .ok (.iload_n 2, 1) := tb_d tk_X7_fits_1 17 (34, .iload_n 2, 1) rfl
theorem dX7_fits_35 : decode cX7_fits 35 = .ok (.aaload, 1) := tb_d tk_X7_fits_1 18 (35, .aaload, 1) rfl
theorem dX7_fits_36 : decode cX7_fits 36 = .ok (.iload_n 3, 1) := tb_d tk_X7_fits_1 19 (36, .iload_n 3, 1) rfl
theorem dX7_fits_37 : decode cX7_fits 37 = .ok (.aload_n 0, 1) := tb_d tk_X7_fits_1 20 (37, .aload_n 0, 1) rfl
theorem dX7_fits_38 : decode cX7_fits 38 = .ok (.getfield 25, 3) := tb_d tk_X7_fits_1 21 (38, .getfield 25, 3) rfl
theorem dX7_fits_41 : decode cX7_fits 41 = .ok (.getfield 130, 3) := tb_d tk_X7_fits_1 22 (41, .getfield 130, 3) rfl
theorem dX7_fits_44 : decode cX7_fits 44 = .ok (.invokevirtual 71, 3) := tb_d tk_X7_fits_1 23 (44, .invokevirtual 71, 3) rfl
theorem dX7_fits_47 : decode cX7_fits 47 = .ok (.istore 5, 2) := tb_d tk_X7_fits_1 24 (47, .istore 5, 2) rfl
theorem dX7_fits_49 : decode cX7_fits 49 = .ok (.iload 5, 2) := tb_d tk_X7_fits_1 25 (49, .iload 5, 2) rfl
theorem dX7_fits_51 : decode cX7_fits 51 = .ok (.ifCond .eq 10, 3) := tb_d tk_X7_fits_1 26 (51, .ifCond .eq 10, 3) rfl
theorem dX7_fits_54 : decode cX7_fits 54 = .ok (.aload_n 0, 1) := tb_d tk_X7_fits_1 27 (54, .aload_n 0, 1) rfl
theorem dX7_fits_55 : decode cX7_fits 55 = .ok (.iload 5, 2) := tb_d tk_X7_fits_1 28 (55, .iload 5, 2) rfl
theorem dX7_fits_57 : decode cX7_fits 57 = .ok (.invokevirtual 60, 3) := tb_d tk_X7_fits_1 29 (57, .invokevirtual 60, 3) rfl
theorem dX7_fits_60 : decode cX7_fits 60 = .ok (.ireturn, 1) := tb_d tk_X7_fits_1 30 (60, .ireturn, 1) rfl
theorem dX7_fits_61 : decode cX7_fits 61 = .ok (.aload_n 0, 1) := tb_d tk_X7_fits_1 31 (61, .aload_n 0, 1) rfl
theorem dX7_fits_62 : decode cX7_fits 62 = .ok (.iload 4, 2) := tb_d tk_X7_fits_1 32 (62, .iload 4, 2) rfl
theorem dX7_fits_64 : decode cX7_fits 64 = .ok (.ifCond .ne 17, 3) := tb_d tk_X7_fits_1 33 (64, .ifCond .ne 17, 3) rfl
theorem dX7_fits_67 : decode cX7_fits 67 = .ok (.aload_n 0, 1) := tb_d tk_X7_fits_1 34 (67, .aload_n 0, 1) rfl
theorem dX7_fits_68 : decode cX7_fits 68 = .ok (.aload_n 0, 1) := tb_d tk_X7_fits_1 35 (68, .aload_n 0, 1) rfl
theorem dX7_fits_69 : decode cX7_fits 69 = .ok (.getfield 11, 3) := tb_d tk_X7_fits_1 36 (69, .getfield 11, 3) rfl
theorem dX7_fits_72 : decode cX7_fits 72 = .ok (.iload_n 2, 1) := tb_d tk_X7_fits_1 37 (72, .iload_n 2, 1) rfl
theorem dX7_fits_73 : decode cX7_fits 73 = .ok (.aaload, 1) := tb_d tk_X7_fits_1 38 (73, .aaload, 1) rfl
theorem dX7_fits_74 : decode cX7_fits 74 = .ok (.iload_n 3, 1) := tb_d tk_X7_fits_1 39 (74, .iload_n 3, 1) rfl
def tb_X7_fits_2 : List (Nat × Instr × Nat) := [(75, .invokevirtual 274, 3), (78, .goto 23, 3), (81, .aload_n 0, 1), (82, .aload_n 0, 1), (83, .getfield 25, 3), (86, .getfield 278, 3), (89, .iload_n 1, 1), (90, .iaload, 1), (91, .aload_n 0, 1), (92, .getfield 11, 3), (95, .iload_n 2, 1), (96, .aaload, 1), (97, .iload_n 3, 1), (98, .invokevirtual 281, 3), (101, .invokevirtual 68, 3), (104, .ireturn, 1)]
set_option maxRecDepth 100000 in
theorem tk_X7_fits_2 : (tb_X7_fits_2.all fun q => decide (decode cX7_fits q.1 = .ok q.2)) = true := by decide +kernel
theorem dX7_fits_75 : decode cX7_fits 75 = .ok (.invokevirtual 274, 3) := tb_d tk_X7_fits_2 0 (75, .invokevirtual 274, 3) rfl
theorem dX7_fits_78 : decode cX7_fits 78 = .ok (.goto 23, 3) := tb_d tk_X7_fits_2 1 (78, .goto 23, 3) rfl
theorem dX7_fits_81 : decode cX7_fits 81 = .ok (.aload_n 0, 1) := tb_d tk_X7_fits_2 2 (81, .aload_n 0, 1) rfl
theorem dX7_fits_82 : decode cX7_fits 82 = .ok (.aload_n 0, 1) := tb_d tk_X7_fits_2 3 (82, .aload_n 0, 1) rfl
theorem dX7_fits_83 : decode cX7_fits 83 = .ok (.getfield 25, 3) := tb_d tk_X7_fits_2 4 (83, .getfield 25, 3) rfl
theorem dX7_fits_86 : decode cX7_fits 86 = .ok (.getfield 278, 3) := tb_d tk_X7_fits_2 5 (86, .getfield 278, 3) rfl
theorem dX7_fits_89 : decode cX7_fits 89 = .ok (.iload_n 1, 1) := tb_d tk_X7_fits_2 6 (89, .iload_n 1, 1) rfl
theorem dX7_fits_90 : decode cX7_fits 90 = .ok (.iaload, 1) := tb_d tk_X7_fits_2 7 (90, .iaload, 1) rfl
theorem dX7_fits_91 : decode cX7_fits 91 = .ok (.aload_n 0, 1) := tb_d tk_X7_fits_2 8 (91, .aload_n 0, 1) rfl
theorem dX7_fits_92 : decode cX7_fits 92 = .ok (.getfield 11, 3) := tb_d tk_X7_fits_2 9 (92, .getfield 11, 3) rfl
theorem dX7_fits_95 : decode cX7_fits 95 = .ok (.iload_n 2, 1) := tb_d tk_X7_fits_2 10 (95, .iload_n 2, 1) rfl
theorem dX7_fits_96 : decode cX7_fits 96 = .ok (.aaload, 1) := tb_d tk_X7_fits_2 11 (96, .aaload, 1) rfl
theorem dX7_fits_97 : decode cX7_fits 97 = .ok (.iload_n 3, 1) := tb_d tk_X7_fits_2 12 (97, .iload_n 3, 1) rfl
theorem dX7_fits_98 : decode cX7_fits 98 = .ok (.invokevirtual 281, 3) := tb_d tk_X7_fits_2 13 (98, .invokevirtual 281, 3) rfl
theorem dX7_fits_101 : decode cX7_fits 101 = .ok (.invokevirtual 68, 3) := tb_d tk_X7_fits_2 14 (101, .invokevirtual 68, 3) rfl
theorem dX7_fits_104 : decode cX7_fits 104 = .ok (.ireturn, 1) := tb_d tk_X7_fits_2 15 (104, .ireturn, 1) rfl
set_option maxRecDepth 20000 in
theorem ggX7_sure_X7_isWord : GoodIn wsX7_sure wsX7_isWord := goodIn_r _ [7, 2, 8, 80, 81, 82, 83, 84, 85, 86, 87, 88, 89, 90, 91, 92, 93, 94, 95, 96] (by decide +kernel) (by decide +kernel)
set_option maxRecDepth 20000 in
theorem gX7_sure_X7_isWord : GoodIn wsX7_sure (wsV RX7 156 RX7 yX7_isWord wsX7_isWord) := goodIn_app (goodIn_of _ (by decide +kernel)) ggX7_sure_X7_isWord
set_option maxRecDepth 20000 in
theorem ggX7_sure_X7_isHour : GoodIn wsX7_sure wsX7_isHour := goodIn_r _ [12] (by decide +kernel) (by decide +kernel)
set_option maxRecDepth 20000 in
theorem gX7_sure_X7_isHour : GoodIn wsX7_sure (wsV RX7 159 RX7 yX7_isHour wsX7_isHour) := goodIn_app (goodIn_of _ (by decide +kernel)) ggX7_sure_X7_isHour
set_option maxRecDepth 20000 in
theorem ggX7_sure_X3_agreeing : GoodIn wsX7_sure wsX3_agreeing := goodIn_r _ [16, 17, 18, 19, 15, 20, 21, 22, 23, 24, 25, 26, 27, 28, 29, 30, 31, 32, 33, 34, 35, 36, 37, 38, 39, 40, 41, 42, 43, 6, 44, 89, 90, 91, 92, 93, 94, 95, 96, 97, 98, 99, 100, 101, 102, 103, 104] (by decide +kernel) (by decide +kernel)
set_option maxRecDepth 20000 in
theorem gX7_sure_X3_agreeing : GoodIn wsX7_sure (va_wsS RX7 242 yX3_agreeing wsX3_agreeing) := goodIn_app (goodIn_of _ (by decide +kernel)) ggX7_sure_X3_agreeing
set_option maxRecDepth 20000 in
theorem ggX7_sure_J6_bitCount_0f7a4 : GoodIn wsX7_sure wsJ6_bitCount_0f7a4 := goodIn_r _ [48, 49, 50, 51] (by decide +kernel) (by decide +kernel)
set_option maxRecDepth 20000 in
theorem gX7_sure_J6_bitCount_0f7a4 : GoodIn wsX7_sure (va_wsS RX7 285 yJ6_bitCount_0f7a4 wsJ6_bitCount_0f7a4) := goodIn_app (goodIn_of _ (by decide +kernel)) ggX7_sure_J6_bitCount_0f7a4
set_option maxRecDepth 20000 in
theorem ggX7_sure_X3_secretsCatching : GoodIn wsX7_sure wsX3_secretsCatching := goodIn_r _ [54, 17, 21, 27, 55, 56, 57, 32, 58, 59, 60, 61, 62, 63, 64, 65, 6, 66, 67, 68, 69, 70, 71, 72, 73, 30, 31, 33, 34, 35, 36, 37, 38, 39, 40, 41, 42, 43, 44, 89, 90, 91, 92, 93, 94, 95, 96, 97, 98, 99, 100, 101, 102, 103, 104] (by decide +kernel) (by decide +kernel)
set_option maxRecDepth 20000 in
theorem gX7_sure_X3_secretsCatching : GoodIn wsX7_sure (va_wsS RX7 290 yX3_secretsCatching wsX3_secretsCatching) := goodIn_app (goodIn_of _ (by decide +kernel)) ggX7_sure_X3_secretsCatching
set_option maxRecDepth 20000 in
theorem ggX7_sure_X7_commonDivisor : GoodIn wsX7_sure wsX7_commonDivisor := goodIn_r _ [76] (by decide +kernel) (by decide +kernel)
set_option maxRecDepth 20000 in
theorem gX7_sure_X7_commonDivisor : GoodIn wsX7_sure (va_wsS RX7 293 yX7_commonDivisor wsX7_commonDivisor) := goodIn_app (goodIn_of _ (by decide +kernel)) ggX7_sure_X7_commonDivisor
set_option maxRecDepth 20000 in
theorem ggX7_sure_X7_lowest : GoodIn wsX7_sure wsX7_lowest := goodIn_r _ [79] (by decide +kernel) (by decide +kernel)
set_option maxRecDepth 20000 in
theorem gX7_sure_X7_lowest : GoodIn wsX7_sure (va_wsS RX7 296 yX7_lowest wsX7_lowest) := goodIn_app (goodIn_of _ (by decide +kernel)) ggX7_sure_X7_lowest
def tb_X7_sure_1 : List (Nat × Instr × Nat) := [(0, .aload_n 0, 1), (1, .iload_n 1, 1), (2, .invokevirtual 156, 3), (5, .ifCond .eq 32, 3), (8, .aload_n 0, 1), (9, .iload_n 2, 1), (10, .invokevirtual 159, 3), (13, .ifCond .eq 24, 3), (16, .iload_n 3, 1), (17, .ifCond .lt 20, 3), (20, .iload_n 3, 1), (21, .bipush 10, 2), (23, .if_icmp .gt 14, 3), (26, .iload 4, 2), (28, .ifCond .lt 9, 3), (31, .iload 4, 2), (33, .iconst 1, 1), (34, .if_icmp .le 6, 3), (37, .ldc 59, 2), (39, .ireturn, 1), (40, .aload_n 0, 1), (41, .getfield 25, 3), (44, .invokestatic 242, 3), (47, .istore 5, 2), (49, .iload 5, 2), (51, .invokestatic 285, 3), (54, .istore 6, 2), (56, .iload 5, 2), (58, .aload_n 0, 1), (59, .getfield 25, 3), (62, .iload_n 1, 1), (63, .iload_n 2, 1), (64, .invokestatic 290, 3), (67, .iand, 1), (68, .invokestatic 285, 3), (71, .istore 7, 2), (73, .iload 6, 2), (75, .iload 7, 2), (77, .isub, 1), (78, .bipush 10, 2)]
set_option maxRecDepth 100000 in
theorem tk_X7_sure_1 : (tb_X7_sure_1.all fun q => decide (decode cX7_sure q.1 = .ok q.2)) = true := by decide +kernel
theorem dX7_sure_0 : decode cX7_sure 0 = .ok (.aload_n 0, 1) := tb_d tk_X7_sure_1 0 (0, .aload_n 0, 1) rfl
theorem dX7_sure_1 : decode cX7_sure 1 = .ok (.iload_n 1, 1) := tb_d tk_X7_sure_1 1 (1, .iload_n 1, 1) rfl
theorem dX7_sure_2 : decode cX7_sure 2 = .ok (.invokevirtual 156, 3) := tb_d tk_X7_sure_1 2 (2, .invokevirtual 156, 3) rfl
theorem dX7_sure_5 : decode cX7_sure 5 = .ok (.ifCond .eq 32, 3) := tb_d tk_X7_sure_1 3 (5, .ifCond .eq 32, 3) rfl
theorem dX7_sure_8 : decode cX7_sure 8 = .ok (.aload_n 0, 1) := tb_d tk_X7_sure_1 4 (8, .aload_n 0, 1) rfl
theorem dX7_sure_9 : decode cX7_sure 9 = .ok (.iload_n 2, 1) := tb_d tk_X7_sure_1 5 (9, .iload_n 2, 1) rfl
theorem dX7_sure_10 : decode cX7_sure 10 = .ok (.invokevirtual 159, 3) := tb_d tk_X7_sure_1 6 (10, .invokevirtual 159, 3) rfl
theorem dX7_sure_13 : decode cX7_sure 13 = .ok (.ifCond .eq 24, 3) := tb_d tk_X7_sure_1 7 (13, .ifCond .eq 24, 3) rfl
theorem dX7_sure_16 : decode cX7_sure 16 = .ok (.iload_n 3, 1) := tb_d tk_X7_sure_1 8 (16, .iload_n 3, 1) rfl
theorem dX7_sure_17 : decode cX7_sure 17 = .ok (.ifCond .lt 20, 3) := tb_d tk_X7_sure_1 9 (17, .ifCond .lt 20, 3) rfl
theorem dX7_sure_20 : decode cX7_sure 20 = .ok (.iload_n 3, 1) := tb_d tk_X7_sure_1 10 (20, .iload_n 3, 1) rfl
theorem dX7_sure_21 : decode cX7_sure 21 = .ok (.bipush 10, 2) := tb_d tk_X7_sure_1 11 (21, .bipush 10, 2) rfl
theorem dX7_sure_23 : decode cX7_sure 23 = .ok (.if_icmp .gt 14, 3) := tb_d tk_X7_sure_1 12 (23, .if_icmp .gt 14, 3) rfl
theorem dX7_sure_26 : decode cX7_sure 26 = .ok (.iload 4, 2) := tb_d tk_X7_sure_1 13 (26, .iload 4, 2) rfl
theorem dX7_sure_28 : decode cX7_sure 28 = .ok (.ifCond .lt 9, 3) := tb_d tk_X7_sure_1 14 (28, .ifCond .lt 9, 3) rfl
theorem dX7_sure_31 : decode cX7_sure 31 = .ok (.iload 4, 2) := tb_d tk_X7_sure_1 15 (31, .iload 4, 2) rfl
theorem dX7_sure_33 : decode cX7_sure 33 = .ok (.iconst 1, 1) := tb_d tk_X7_sure_1 16 (33, .iconst 1, 1) rfl
theorem dX7_sure_34 : decode cX7_sure 34 = .ok (.if_icmp .le 6, 3) := tb_d tk_X7_sure_1 17 (34, .if_icmp .le 6, 3) rfl
theorem dX7_sure_37 : decode cX7_sure 37 = .ok (.ldc 59, 2) := tb_d tk_X7_sure_1 18 (37, .ldc 59, 2) rfl
theorem dX7_sure_39 : decode cX7_sure 39 = .ok (.ireturn, 1) := tb_d tk_X7_sure_1 19 (39, .ireturn, 1) rfl
theorem dX7_sure_40 : decode cX7_sure 40 = .ok (.aload_n 0, 1) := tb_d tk_X7_sure_1 20 (40, .aload_n 0, 1) rfl
theorem dX7_sure_41 : decode cX7_sure 41 = .ok (.getfield 25, 3) := tb_d tk_X7_sure_1 21 (41, .getfield 25, 3) rfl
theorem dX7_sure_44 : decode cX7_sure 44 = .ok (.invokestatic 242, 3) := tb_d tk_X7_sure_1 22 (44, .invokestatic 242, 3) rfl
theorem dX7_sure_47 : decode cX7_sure 47 = .ok (.istore 5, 2) := tb_d tk_X7_sure_1 23 (47, .istore 5, 2) rfl
theorem dX7_sure_49 : decode cX7_sure 49 = .ok (.iload 5, 2) := tb_d tk_X7_sure_1 24 (49, .iload 5, 2) rfl
theorem dX7_sure_51 : decode cX7_sure 51 = .ok (.invokestatic 285, 3) := tb_d tk_X7_sure_1 25 (51, .invokestatic 285, 3) rfl
theorem dX7_sure_54 : decode cX7_sure 54 = .ok (.istore 6, 2) := tb_d tk_X7_sure_1 26 (54, .istore 6, 2) rfl
theorem dX7_sure_56 : decode cX7_sure 56 = .ok (.iload 5, 2) := tb_d tk_X7_sure_1 27 (56, .iload 5, 2) rfl
theorem dX7_sure_58 : decode cX7_sure 58 = .ok (.aload_n 0, 1) := tb_d tk_X7_sure_1 28 (58, .aload_n 0, 1) rfl
theorem dX7_sure_59 : decode cX7_sure 59 = .ok (.getfield 25, 3) := tb_d tk_X7_sure_1 29 (59, .getfield 25, 3) rfl
theorem dX7_sure_62 : decode cX7_sure 62 = .ok (.iload_n 1, 1) := tb_d tk_X7_sure_1 30 (62, .iload_n 1, 1) rfl
theorem dX7_sure_63 : decode cX7_sure 63 = .ok (.iload_n 2, 1) := tb_d tk_X7_sure_1 31 (63, .iload_n 2, 1) rfl
theorem dX7_sure_64 : decode cX7_sure 64 = .ok (.invokestatic 290, 3) := tb_d tk_X7_sure_1 32 (64, .invokestatic 290, 3) rfl
theorem dX7_sure_67 : decode cX7_sure 67 = .ok (.iand, 1) := tb_d tk_X7_sure_1 33 (67, .iand, 1) rfl
theorem dX7_sure_68 : decode cX7_sure 68 = .ok (.invokestatic 285, 3) := tb_d tk_X7_sure_1 34 (68, .invokestatic 285, 3) rfl
theorem dX7_sure_71 : decode cX7_sure 71 = .ok (.istore 7, 2) := tb_d tk_X7_sure_1 35 (71, .istore 7, 2) rfl
theorem dX7_sure_73 : decode cX7_sure 73 = .ok (.iload 6, 2) := tb_d tk_X7_sure_1 36 (73, .iload 6, 2) rfl
theorem dX7_sure_75 : decode cX7_sure 75 = .ok (.iload 7, 2) := tb_d tk_X7_sure_1 37 (75, .iload 7, 2) rfl
theorem dX7_sure_77 : decode cX7_sure 77 = .ok (.isub, 1) := tb_d tk_X7_sure_1 38 (77, .isub, 1) rfl
theorem dX7_sure_78 : decode cX7_sure 78 = .ok (.bipush 10, 2) := tb_d tk_X7_sure_1 39 (78, .bipush 10, 2) rfl
def tb_X7_sure_2 : List (Nat × Instr × Nat) := [(80, .imul, 1), (81, .iload 7, 2), (83, .iload_n 3, 1), (84, .imul, 1), (85, .iadd, 1), (86, .istore 8, 2), (88, .iload 6, 2), (90, .ifCond .ne 7, 3), (93, .iconst 1, 1), (94, .goto 8, 3), (97, .iload 6, 2), (99, .bipush 10, 2), (101, .imul, 1), (102, .istore 9, 2), (104, .iload 4, 2), (106, .ifCond .ne 8, 3), (109, .iload 8, 2), (111, .goto 5, 3), (114, .iload 9, 2), (116, .iload 8, 2), (118, .iload 9, 2), (120, .invokestatic 293, 3), (123, .invokestatic 296, 3), (126, .ireturn, 1)]
set_option maxRecDepth 100000 in
theorem tk_X7_sure_2 : (tb_X7_sure_2.all fun q => decide (decode cX7_sure q.1 = .ok q.2)) = true := by decide +kernel
theorem dX7_sure_80 : decode cX7_sure 80 = .ok (.imul, 1) := tb_d tk_X7_sure_2 0 (80, .imul, 1) rfl
theorem dX7_sure_81 : decode cX7_sure 81 = .ok (.iload 7, 2) := tb_d tk_X7_sure_2 1 (81, .iload 7, 2) rfl
theorem dX7_sure_83 : decode cX7_sure 83 = .ok (.iload_n 3, 1) := tb_d tk_X7_sure_2 2 (83, .iload_n 3, 1) rfl
theorem dX7_sure_84 : decode cX7_sure 84 = .ok (.imul, 1) := tb_d tk_X7_sure_2 3 (84, .imul, 1) rfl
theorem dX7_sure_85 : decode cX7_sure 85 = .ok (.iadd, 1) := tb_d tk_X7_sure_2 4 (85, .iadd, 1) rfl
theorem dX7_sure_86 : decode cX7_sure 86 = .ok (.istore 8, 2) := tb_d tk_X7_sure_2 5 (86, .istore 8, 2) rfl
theorem dX7_sure_88 : decode cX7_sure 88 = .ok (.iload 6, 2) := tb_d tk_X7_sure_2 6 (88, .iload 6, 2) rfl
theorem dX7_sure_90 : decode cX7_sure 90 = .ok (.ifCond .ne 7, 3) := tb_d tk_X7_sure_2 7 (90, .ifCond .ne 7, 3) rfl
theorem dX7_sure_93 : decode cX7_sure 93 = .ok (.iconst 1, 1) := tb_d tk_X7_sure_2 8 (93, .iconst 1, 1) rfl
theorem dX7_sure_94 : decode cX7_sure 94 = .ok (.goto 8, 3) := tb_d tk_X7_sure_2 9 (94, .goto 8, 3) rfl
theorem dX7_sure_97 : decode cX7_sure 97 = .ok (.iload 6, 2) := tb_d tk_X7_sure_2 10 (97, .iload 6, 2) rfl
theorem dX7_sure_99 : decode cX7_sure 99 = .ok (.bipush 10, 2) := tb_d tk_X7_sure_2 11 (99, .bipush 10, 2) rfl
theorem dX7_sure_101 : decode cX7_sure 101 = .ok (.imul, 1) := tb_d tk_X7_sure_2 12 (101, .imul, 1) rfl
theorem dX7_sure_102 : decode cX7_sure 102 = .ok (.istore 9, 2) := tb_d tk_X7_sure_2 13 (102, .istore 9, 2) rfl
theorem dX7_sure_104 : decode cX7_sure 104 = .ok (.iload 4, 2) := tb_d tk_X7_sure_2 14 (104, .iload 4, 2) rfl
theorem dX7_sure_106 : decode cX7_sure 106 = .ok (.ifCond .ne 8, 3) := tb_d tk_X7_sure_2 15 (106, .ifCond .ne 8, 3) rfl
theorem dX7_sure_109 : decode cX7_sure 109 = .ok (.iload 8, 2) := tb_d tk_X7_sure_2 16 (109, .iload 8, 2) rfl
theorem dX7_sure_111 : decode cX7_sure 111 = .ok (.goto 5, 3) := tb_d tk_X7_sure_2 17 (111, .goto 5, 3) rfl
theorem dX7_sure_114 : decode cX7_sure 114 = .ok (.iload 9, 2) := tb_d tk_X7_sure_2 18 (114, .iload 9, 2) rfl
theorem dX7_sure_116 : decode cX7_sure 116 = .ok (.iload 8, 2) := tb_d tk_X7_sure_2 19 (116, .iload 8, 2) rfl
theorem dX7_sure_118 : decode cX7_sure 118 = .ok (.iload 9, 2) := tb_d tk_X7_sure_2 20 (118, .iload 9, 2) rfl
theorem dX7_sure_120 : decode cX7_sure 120 = .ok (.invokestatic 293, 3) := tb_d tk_X7_sure_2 21 (120, .invokestatic 293, 3) rfl
theorem dX7_sure_123 : decode cX7_sure 123 = .ok (.invokestatic 296, 3) := tb_d tk_X7_sure_2 22 (123, .invokestatic 296, 3) rfl
theorem dX7_sure_126 : decode cX7_sure 126 = .ok (.ireturn, 1) := tb_d tk_X7_sure_2 23 (126, .ireturn, 1) rfl
set_option maxRecDepth 20000 in
theorem ggX7_drawn_X7_noGate : GoodIn wsX7_drawn wsX7_noGate := goodIn_r _ [12, 6, 7, 63, 64, 65, 66, 67, 68, 69, 70, 71, 72, 73, 74, 75, 76, 77, 78, 79] (by decide +kernel) (by decide +kernel)
set_option maxRecDepth 20000 in
theorem gX7_drawn_X7_noGate : GoodIn wsX7_drawn (wsV RX7 133 RX7 yX7_noGate wsX7_noGate) := goodIn_app (goodIn_of _ (by decide +kernel)) ggX7_drawn_X7_noGate
set_option maxRecDepth 20000 in
theorem ggX7_drawn_X7_rest : GoodIn wsX7_drawn wsX7_rest := goodIn_r _ [15] (by decide +kernel) (by decide +kernel)
set_option maxRecDepth 20000 in
theorem gX7_drawn_X7_rest : GoodIn wsX7_drawn (va_wsS RX7 304 yX7_rest wsX7_rest) := goodIn_app (goodIn_of _ (by decide +kernel)) ggX7_drawn_X7_rest
set_option maxRecDepth 20000 in
theorem ggX7_drawn_X2_catches : GoodIn wsX7_drawn wsX2_catches := goodIn_r _ [20, 21, 22, 23, 24, 25, 19, 26, 27, 28, 29, 30, 31, 32, 33, 34, 14, 11, 15, 35, 36, 37, 38, 39, 40, 41, 42, 43, 44, 45, 46, 47, 48, 49, 50, 51, 52, 53, 54, 55, 56, 57, 58, 59, 60, 61, 62, 72, 73, 74, 75, 76, 77, 78, 79, 80, 81, 82, 83, 84, 85, 86, 87] (by decide +kernel) (by decide +kernel)
set_option maxRecDepth 20000 in
theorem gX7_drawn_X2_catches : GoodIn wsX7_drawn (wsV RX7 168 RX2 yX2_catches wsX2_catches) := goodIn_app (goodIn_of _ (by decide +kernel)) ggX7_drawn_X2_catches
def tb_X7_drawn_1 : List (Nat × Instr × Nat) := [(0, .aload_n 0, 1), (1, .invokevirtual 133, 3), (4, .ifCond .eq 6, 3), (7, .ldc 136, 2), (9, .ireturn, 1), (10, .iload_n 1, 1), (11, .ifCond .lt 30, 3), (14, .iload_n 1, 1), (15, .bipush 60, 2), (17, .if_icmp .gt 24, 3), (20, .iload_n 2, 1), (21, .iconst 1, 1), (22, .if_icmp .lt 19, 3), (25, .iload_n 2, 1), (26, .ldc_w 299, 3), (29, .if_icmp .gt 12, 3), (32, .iload_n 3, 1), (33, .ifCond .lt 8, 3), (36, .iload_n 3, 1), (37, .iconst 1, 1), (38, .if_icmp .le 6, 3), (41, .ldc 59, 2), (43, .ireturn, 1), (44, .iload_n 2, 1), (45, .i2l, 1), (46, .lstore 4, 2), (48, .iconst 0, 1), (49, .istore 6, 2), (51, .iconst 0, 1), (52, .istore 7, 2), (54, .iconst 0, 1), (55, .istore 8, 2), (57, .iload 8, 2), (59, .iload_n 1, 1), (60, .if_icmp .ge 71, 3), (63, .lload 4, 2), (65, .ldc2_w 300, 3), (68, .lmul, 1), (69, .ldc2_w 302, 3), (72, .lrem, 1)]
set_option maxRecDepth 100000 in
theorem tk_X7_drawn_1 : (tb_X7_drawn_1.all fun q => decide (decode cX7_drawn q.1 = .ok q.2)) = true := by decide +kernel
theorem dX7_drawn_0 : decode cX7_drawn 0 = .ok (.aload_n 0, 1) := tb_d tk_X7_drawn_1 0 (0, .aload_n 0, 1) rfl
theorem dX7_drawn_1 : decode cX7_drawn 1 = .ok (.invokevirtual 133, 3) := tb_d tk_X7_drawn_1 1 (1, .invokevirtual 133, 3) rfl
theorem dX7_drawn_4 : decode cX7_drawn 4 = .ok (.ifCond .eq 6, 3) := tb_d tk_X7_drawn_1 2 (4, .ifCond .eq 6, 3) rfl
theorem dX7_drawn_7 : decode cX7_drawn 7 = .ok (.ldc 136, 2) := tb_d tk_X7_drawn_1 3 (7, .ldc 136, 2) rfl
theorem dX7_drawn_9 : decode cX7_drawn 9 = .ok (.ireturn, 1) := tb_d tk_X7_drawn_1 4 (9, .ireturn, 1) rfl
theorem dX7_drawn_10 : decode cX7_drawn 10 = .ok (.iload_n 1, 1) := tb_d tk_X7_drawn_1 5 (10, .iload_n 1, 1) rfl
theorem dX7_drawn_11 : decode cX7_drawn 11 = .ok (.ifCond .lt 30, 3) := tb_d tk_X7_drawn_1 6 (11, .ifCond .lt 30, 3) rfl
theorem dX7_drawn_14 : decode cX7_drawn 14 = .ok (.iload_n 1, 1) := tb_d tk_X7_drawn_1 7 (14, .iload_n 1, 1) rfl
theorem dX7_drawn_15 : decode cX7_drawn 15 = .ok (.bipush 60, 2) := tb_d tk_X7_drawn_1 8 (15, .bipush 60, 2) rfl
theorem dX7_drawn_17 : decode cX7_drawn 17 = .ok (.if_icmp .gt 24, 3) := tb_d tk_X7_drawn_1 9 (17, .if_icmp .gt 24, 3) rfl
theorem dX7_drawn_20 : decode cX7_drawn 20 = .ok (.iload_n 2, 1) := tb_d tk_X7_drawn_1 10 (20, .iload_n 2, 1) rfl
theorem dX7_drawn_21 : decode cX7_drawn 21 = .ok (.iconst 1, 1) := tb_d tk_X7_drawn_1 11 (21, .iconst 1, 1) rfl
theorem dX7_drawn_22 : decode cX7_drawn 22 = .ok (.if_icmp .lt 19, 3) := tb_d tk_X7_drawn_1 12 (22, .if_icmp .lt 19, 3) rfl
theorem dX7_drawn_25 : decode cX7_drawn 25 = .ok (.iload_n 2, 1) := tb_d tk_X7_drawn_1 13 (25, .iload_n 2, 1) rfl
theorem dX7_drawn_26 : decode cX7_drawn 26 = .ok (.ldc_w 299, 3) := tb_d tk_X7_drawn_1 14 (26, .ldc_w 299, 3) rfl
theorem dX7_drawn_29 : decode cX7_drawn 29 = .ok (.if_icmp .gt 12, 3) := tb_d tk_X7_drawn_1 15 (29, .if_icmp .gt 12, 3) rfl
theorem dX7_drawn_32 : decode cX7_drawn 32 = .ok (.iload_n 3, 1) := tb_d tk_X7_drawn_1 16 (32, .iload_n 3, 1) rfl
theorem dX7_drawn_33 : decode cX7_drawn 33 = .ok (.ifCond .lt 8, 3) := tb_d tk_X7_drawn_1 17 (33, .ifCond .lt 8, 3) rfl
theorem dX7_drawn_36 : decode cX7_drawn 36 = .ok (.iload_n 3, 1) := tb_d tk_X7_drawn_1 18 (36, .iload_n 3, 1) rfl
theorem dX7_drawn_37 : decode cX7_drawn 37 = .ok (.iconst 1, 1) := tb_d tk_X7_drawn_1 19 (37, .iconst 1, 1) rfl
theorem dX7_drawn_38 : decode cX7_drawn 38 = .ok (.if_icmp .le 6, 3) := tb_d tk_X7_drawn_1 20 (38, .if_icmp .le 6, 3) rfl
theorem dX7_drawn_41 : decode cX7_drawn 41 = .ok (.ldc 59, 2) := tb_d tk_X7_drawn_1 21 (41, .ldc 59, 2) rfl
theorem dX7_drawn_43 : decode cX7_drawn 43 = .ok (.ireturn, 1) := tb_d tk_X7_drawn_1 22 (43, .ireturn, 1) rfl
theorem dX7_drawn_44 : decode cX7_drawn 44 = .ok (.iload_n 2, 1) := tb_d tk_X7_drawn_1 23 (44, .iload_n 2, 1) rfl
theorem dX7_drawn_45 : decode cX7_drawn 45 = .ok (.i2l, 1) := tb_d tk_X7_drawn_1 24 (45, .i2l, 1) rfl
theorem dX7_drawn_46 : decode cX7_drawn 46 = .ok (.lstore 4, 2) := tb_d tk_X7_drawn_1 25 (46, .lstore 4, 2) rfl
theorem dX7_drawn_48 : decode cX7_drawn 48 = .ok (.iconst 0, 1) := tb_d tk_X7_drawn_1 26 (48, .iconst 0, 1) rfl
theorem dX7_drawn_49 : decode cX7_drawn 49 = .ok (.istore 6, 2) := tb_d tk_X7_drawn_1 27 (49, .istore 6, 2) rfl
theorem dX7_drawn_51 : decode cX7_drawn 51 = .ok (.iconst 0, 1) := tb_d tk_X7_drawn_1 28 (51, .iconst 0, 1) rfl
theorem dX7_drawn_52 : decode cX7_drawn 52 = .ok (.istore 7, 2) := tb_d tk_X7_drawn_1 29 (52, .istore 7, 2) rfl
theorem dX7_drawn_54 : decode cX7_drawn 54 = .ok (.iconst 0, 1) := tb_d tk_X7_drawn_1 30 (54, .iconst 0, 1) rfl
theorem dX7_drawn_55 : decode cX7_drawn 55 = .ok (.istore 8, 2) := tb_d tk_X7_drawn_1 31 (55, .istore 8, 2) rfl
theorem dX7_drawn_57 : decode cX7_drawn 57 = .ok (.iload 8, 2) := tb_d tk_X7_drawn_1 32 (57, .iload 8, 2) rfl
theorem dX7_drawn_59 : decode cX7_drawn 59 = .ok (.iload_n 1, 1) := tb_d tk_X7_drawn_1 33 (59, .iload_n 1, 1) rfl
theorem dX7_drawn_60 : decode cX7_drawn 60 = .ok (.if_icmp .ge 71, 3) := tb_d tk_X7_drawn_1 34 (60, .if_icmp .ge 71, 3) rfl
theorem dX7_drawn_63 : decode cX7_drawn 63 = .ok (.lload 4, 2) := tb_d tk_X7_drawn_1 35 (63, .lload 4, 2) rfl
theorem dX7_drawn_65 : decode cX7_drawn 65 = .ok (.ldc2_w 300, 3) := tb_d tk_X7_drawn_1 36 (65, .ldc2_w 300, 3) rfl
theorem dX7_drawn_68 : decode cX7_drawn 68 = .ok (.lmul, 1) := tb_d tk_X7_drawn_1 37 (68, .lmul, 1) rfl
theorem dX7_drawn_69 : decode cX7_drawn 69 = .ok (.ldc2_w 302, 3) := tb_d tk_X7_drawn_1 38 (69, .ldc2_w 302, 3) rfl
theorem dX7_drawn_72 : decode cX7_drawn 72 = .ok (.lrem, 1) := tb_d tk_X7_drawn_1 39 (72, .lrem, 1) rfl
def tb_X7_drawn_2 : List (Nat × Instr × Nat) := [(73, .lstore 4, 2), (75, .lload 4, 2), (77, .l2i, 1), (78, .aload_n 0, 1), (79, .getfield 25, 3), (82, .getfield 130, 3), (85, .invokestatic 304, 3), (88, .istore 9, 2), (90, .aload_n 0, 1), (91, .getfield 25, 3), (94, .iload 9, 2), (96, .lload 4, 2), (98, .l2i, 1), (99, .bipush 6, 2), (101, .irem, 1), (102, .iload 8, 2), (104, .invokevirtual 168, 3), (107, .ifCond .eq 9, 3), (110, .iinc 6 1, 3), (113, .goto 12, 3), (116, .iload 7, 2), (118, .iconst 1, 1), (119, .iload 9, 2), (121, .ishl, 1), (122, .ior, 1), (123, .istore 7, 2), (125, .iinc 8 1, 3), (128, .goto (-71), 3), (131, .iload_n 3, 1), (132, .ifCond .ne 8, 3), (135, .iload 6, 2), (137, .goto 5, 3), (140, .iload 7, 2), (142, .ireturn, 1)]
set_option maxRecDepth 100000 in
theorem tk_X7_drawn_2 : (tb_X7_drawn_2.all fun q => decide (decode cX7_drawn q.1 = .ok q.2)) = true := by decide +kernel
theorem dX7_drawn_73 : decode cX7_drawn 73 = .ok (.lstore 4, 2) := tb_d tk_X7_drawn_2 0 (73, .lstore 4, 2) rfl
theorem dX7_drawn_75 : decode cX7_drawn 75 = .ok (.lload 4, 2) := tb_d tk_X7_drawn_2 1 (75, .lload 4, 2) rfl
theorem dX7_drawn_77 : decode cX7_drawn 77 = .ok (.l2i, 1) := tb_d tk_X7_drawn_2 2 (77, .l2i, 1) rfl
theorem dX7_drawn_78 : decode cX7_drawn 78 = .ok (.aload_n 0, 1) := tb_d tk_X7_drawn_2 3 (78, .aload_n 0, 1) rfl
theorem dX7_drawn_79 : decode cX7_drawn 79 = .ok (.getfield 25, 3) := tb_d tk_X7_drawn_2 4 (79, .getfield 25, 3) rfl
theorem dX7_drawn_82 : decode cX7_drawn 82 = .ok (.getfield 130, 3) := tb_d tk_X7_drawn_2 5 (82, .getfield 130, 3) rfl
theorem dX7_drawn_85 : decode cX7_drawn 85 = .ok (.invokestatic 304, 3) := tb_d tk_X7_drawn_2 6 (85, .invokestatic 304, 3) rfl
theorem dX7_drawn_88 : decode cX7_drawn 88 = .ok (.istore 9, 2) := tb_d tk_X7_drawn_2 7 (88, .istore 9, 2) rfl
theorem dX7_drawn_90 : decode cX7_drawn 90 = .ok (.aload_n 0, 1) := tb_d tk_X7_drawn_2 8 (90, .aload_n 0, 1) rfl
theorem dX7_drawn_91 : decode cX7_drawn 91 = .ok (.getfield 25, 3) := tb_d tk_X7_drawn_2 9 (91, .getfield 25, 3) rfl
theorem dX7_drawn_94 : decode cX7_drawn 94 = .ok (.iload 9, 2) := tb_d tk_X7_drawn_2 10 (94, .iload 9, 2) rfl
theorem dX7_drawn_96 : decode cX7_drawn 96 = .ok (.lload 4, 2) := tb_d tk_X7_drawn_2 11 (96, .lload 4, 2) rfl
theorem dX7_drawn_98 : decode cX7_drawn 98 = .ok (.l2i, 1) := tb_d tk_X7_drawn_2 12 (98, .l2i, 1) rfl
theorem dX7_drawn_99 : decode cX7_drawn 99 = .ok (.bipush 6, 2) := tb_d tk_X7_drawn_2 13 (99, .bipush 6, 2) rfl
theorem dX7_drawn_101 : decode cX7_drawn 101 = .ok (.irem, 1) := tb_d tk_X7_drawn_2 14 (101, .irem, 1) rfl
theorem dX7_drawn_102 : decode cX7_drawn 102 = .ok (.iload 8, 2) := tb_d tk_X7_drawn_2 15 (102, .iload 8, 2) rfl
theorem dX7_drawn_104 : decode cX7_drawn 104 = .ok (.invokevirtual 168, 3) := tb_d tk_X7_drawn_2 16 (104, .invokevirtual 168, 3) rfl
theorem dX7_drawn_107 : decode cX7_drawn 107 = .ok (.ifCond .eq 9, 3) := tb_d tk_X7_drawn_2 17 (107, .ifCond .eq 9, 3) rfl
theorem dX7_drawn_110 : decode cX7_drawn 110 = .ok (.iinc 6 1, 3) := tb_d tk_X7_drawn_2 18 (110, .iinc 6 1, 3) rfl
theorem dX7_drawn_113 : decode cX7_drawn 113 = .ok (.goto 12, 3) := tb_d tk_X7_drawn_2 19 (113, .goto 12, 3) rfl
theorem dX7_drawn_116 : decode cX7_drawn 116 = .ok (.iload 7, 2) := tb_d tk_X7_drawn_2 20 (116, .iload 7, 2) rfl
theorem dX7_drawn_118 : decode cX7_drawn 118 = .ok (.iconst 1, 1) := tb_d tk_X7_drawn_2 21 (118, .iconst 1, 1) rfl
theorem dX7_drawn_119 : decode cX7_drawn 119 = .ok (.iload 9, 2) := tb_d tk_X7_drawn_2 22 (119, .iload 9, 2) rfl
theorem dX7_drawn_121 : decode cX7_drawn 121 = .ok (.ishl, 1) := tb_d tk_X7_drawn_2 23 (121, .ishl, 1) rfl
theorem dX7_drawn_122 : decode cX7_drawn 122 = .ok (.ior, 1) := tb_d tk_X7_drawn_2 24 (122, .ior, 1) rfl
theorem dX7_drawn_123 : decode cX7_drawn 123 = .ok (.istore 7, 2) := tb_d tk_X7_drawn_2 25 (123, .istore 7, 2) rfl
theorem dX7_drawn_125 : decode cX7_drawn 125 = .ok (.iinc 8 1, 3) := tb_d tk_X7_drawn_2 26 (125, .iinc 8 1, 3) rfl
theorem dX7_drawn_128 : decode cX7_drawn 128 = .ok (.goto (-71), 3) := tb_d tk_X7_drawn_2 27 (128, .goto (-71), 3) rfl
theorem dX7_drawn_131 : decode cX7_drawn 131 = .ok (.iload_n 3, 1) := tb_d tk_X7_drawn_2 28 (131, .iload_n 3, 1) rfl
theorem dX7_drawn_132 : decode cX7_drawn 132 = .ok (.ifCond .ne 8, 3) := tb_d tk_X7_drawn_2 29 (132, .ifCond .ne 8, 3) rfl
theorem dX7_drawn_135 : decode cX7_drawn 135 = .ok (.iload 6, 2) := tb_d tk_X7_drawn_2 30 (135, .iload 6, 2) rfl
theorem dX7_drawn_137 : decode cX7_drawn 137 = .ok (.goto 5, 3) := tb_d tk_X7_drawn_2 31 (137, .goto 5, 3) rfl
theorem dX7_drawn_140 : decode cX7_drawn 140 = .ok (.iload 7, 2) := tb_d tk_X7_drawn_2 32 (140, .iload 7, 2) rfl
theorem dX7_drawn_142 : decode cX7_drawn 142 = .ok (.ireturn, 1) := tb_d tk_X7_drawn_2 33 (142, .ireturn, 1) rfl
set_option maxRecDepth 20000 in
theorem ggX7_image_X7_noGate : GoodIn wsX7_image wsX7_noGate := goodIn_r _ [9, 4, 10, 42, 43, 44, 45, 46, 47, 48, 49, 50, 51, 52, 53, 54, 55, 56, 57, 58] (by decide +kernel) (by decide +kernel)
set_option maxRecDepth 20000 in
theorem gX7_image_X7_noGate : GoodIn wsX7_image (wsV RX7 133 RX7 yX7_noGate wsX7_noGate) := goodIn_app (goodIn_of _ (by decide +kernel)) ggX7_image_X7_noGate
set_option maxRecDepth 20000 in
theorem ggX7_image_X2_become : GoodIn wsX7_image wsX2_become := goodIn_r _ [15, 16, 17, 18, 19, 20, 21, 22, 23, 24, 25, 26, 27, 28, 29, 30, 31, 32, 33, 34, 35, 36, 37, 38, 39, 40, 41, 51, 52, 53, 54, 55, 56, 57, 58, 59, 60, 61, 62, 63, 64, 65, 66] (by decide +kernel) (by decide +kernel)
set_option maxRecDepth 20000 in
theorem gX7_image_X2_become : GoodIn wsX7_image (wsV RX7 123 RX2 yX2_become wsX2_become) := goodIn_app (goodIn_of _ (by decide +kernel)) ggX7_image_X2_become
def tb_X7_image_1 : List (Nat × Instr × Nat) := [(0, .iload_n 1, 1), (1, .ifCond .lt 8, 3), (4, .iload_n 1, 1), (5, .iconst 2, 1), (6, .if_icmp .lt 6, 3), (9, .ldc 59, 2), (11, .ireturn, 1), (12, .aload_n 0, 1), (13, .invokevirtual 133, 3), (16, .ifCond .eq 6, 3), (19, .ldc 136, 2), (21, .ireturn, 1), (22, .aload_n 0, 1), (23, .getfield 36, 3), (26, .iload_n 1, 1), (27, .aaload, 1), (28, .aload_n 0, 1), (29, .getfield 25, 3), (32, .invokevirtual 123, 3), (35, .iconst 1, 1), (36, .ireturn, 1)]
set_option maxRecDepth 100000 in
theorem tk_X7_image_1 : (tb_X7_image_1.all fun q => decide (decode cX7_image q.1 = .ok q.2)) = true := by decide +kernel
theorem dX7_image_0 : decode cX7_image 0 = .ok (.iload_n 1, 1) := tb_d tk_X7_image_1 0 (0, .iload_n 1, 1) rfl
theorem dX7_image_1 : decode cX7_image 1 = .ok (.ifCond .lt 8, 3) := tb_d tk_X7_image_1 1 (1, .ifCond .lt 8, 3) rfl
theorem dX7_image_4 : decode cX7_image 4 = .ok (.iload_n 1, 1) := tb_d tk_X7_image_1 2 (4, .iload_n 1, 1) rfl
theorem dX7_image_5 : decode cX7_image 5 = .ok (.iconst 2, 1) := tb_d tk_X7_image_1 3 (5, .iconst 2, 1) rfl
theorem dX7_image_6 : decode cX7_image 6 = .ok (.if_icmp .lt 6, 3) := tb_d tk_X7_image_1 4 (6, .if_icmp .lt 6, 3) rfl
theorem dX7_image_9 : decode cX7_image 9 = .ok (.ldc 59, 2) := tb_d tk_X7_image_1 5 (9, .ldc 59, 2) rfl
theorem dX7_image_11 : decode cX7_image 11 = .ok (.ireturn, 1) := tb_d tk_X7_image_1 6 (11, .ireturn, 1) rfl
theorem dX7_image_12 : decode cX7_image 12 = .ok (.aload_n 0, 1) := tb_d tk_X7_image_1 7 (12, .aload_n 0, 1) rfl
theorem dX7_image_13 : decode cX7_image 13 = .ok (.invokevirtual 133, 3) := tb_d tk_X7_image_1 8 (13, .invokevirtual 133, 3) rfl
theorem dX7_image_16 : decode cX7_image 16 = .ok (.ifCond .eq 6, 3) := tb_d tk_X7_image_1 9 (16, .ifCond .eq 6, 3) rfl
theorem dX7_image_19 : decode cX7_image 19 = .ok (.ldc 136, 2) := tb_d tk_X7_image_1 10 (19, .ldc 136, 2) rfl
theorem dX7_image_21 : decode cX7_image 21 = .ok (.ireturn, 1) := tb_d tk_X7_image_1 11 (21, .ireturn, 1) rfl
theorem dX7_image_22 : decode cX7_image 22 = .ok (.aload_n 0, 1) := tb_d tk_X7_image_1 12 (22, .aload_n 0, 1) rfl
theorem dX7_image_23 : decode cX7_image 23 = .ok (.getfield 36, 3) := tb_d tk_X7_image_1 13 (23, .getfield 36, 3) rfl
theorem dX7_image_26 : decode cX7_image 26 = .ok (.iload_n 1, 1) := tb_d tk_X7_image_1 14 (26, .iload_n 1, 1) rfl
theorem dX7_image_27 : decode cX7_image 27 = .ok (.aaload, 1) := tb_d tk_X7_image_1 15 (27, .aaload, 1) rfl
theorem dX7_image_28 : decode cX7_image 28 = .ok (.aload_n 0, 1) := tb_d tk_X7_image_1 16 (28, .aload_n 0, 1) rfl
theorem dX7_image_29 : decode cX7_image 29 = .ok (.getfield 25, 3) := tb_d tk_X7_image_1 17 (29, .getfield 25, 3) rfl
theorem dX7_image_32 : decode cX7_image 32 = .ok (.invokevirtual 123, 3) := tb_d tk_X7_image_1 18 (32, .invokevirtual 123, 3) rfl
theorem dX7_image_35 : decode cX7_image 35 = .ok (.iconst 1, 1) := tb_d tk_X7_image_1 19 (35, .iconst 1, 1) rfl
theorem dX7_image_36 : decode cX7_image 36 = .ok (.ireturn, 1) := tb_d tk_X7_image_1 20 (36, .ireturn, 1) rfl
set_option maxRecDepth 20000 in
theorem ggX7_restore_X2_become : GoodIn wsX7_restore wsX2_become := goodIn_r _ [11, 12, 13, 14, 15, 16, 17, 18, 19, 20, 21, 22, 23, 24, 25, 26, 27, 28, 29, 30, 31, 32, 33, 34, 35, 36, 37, 53, 54, 55, 56, 57, 58, 59, 60, 61, 62, 63, 64, 65, 66, 67, 68] (by decide +kernel) (by decide +kernel)
set_option maxRecDepth 20000 in
theorem gX7_restore_X2_become : GoodIn wsX7_restore (wsV RX7 123 RX2 yX2_become wsX2_become) := goodIn_app (goodIn_of _ (by decide +kernel)) ggX7_restore_X2_become
set_option maxRecDepth 20000 in
theorem ggX7_restore_X0_forget : GoodIn wsX7_restore wsX0_forget := goodIn_r _ [42, 43, 69, 70, 71] (by decide +kernel) (by decide +kernel)
set_option maxRecDepth 20000 in
theorem gX7_restore_X0_forget : GoodIn wsX7_restore (wsV RX7 127 RX0 yX0_forget wsX0_forget) := goodIn_app (goodIn_of _ (by decide +kernel)) ggX7_restore_X0_forget
def tb_X7_restore_1 : List (Nat × Instr × Nat) := [(0, .iload_n 1, 1), (1, .ifCond .lt 8, 3), (4, .iload_n 1, 1), (5, .iconst 2, 1), (6, .if_icmp .lt 6, 3), (9, .ldc 59, 2), (11, .ireturn, 1), (12, .aload_n 0, 1), (13, .getfield 36, 3), (16, .iload_n 1, 1), (17, .aaload, 1), (18, .getfield 130, 3), (21, .ifCond .ne 6, 3), (24, .ldc 136, 2), (26, .ireturn, 1), (27, .aload_n 0, 1), (28, .getfield 25, 3), (31, .aload_n 0, 1), (32, .getfield 36, 3), (35, .iload_n 1, 1), (36, .aaload, 1), (37, .invokevirtual 123, 3), (40, .aload_n 0, 1), (41, .getfield 32, 3), (44, .invokevirtual 127, 3), (47, .iconst 1, 1), (48, .ireturn, 1)]
set_option maxRecDepth 100000 in
theorem tk_X7_restore_1 : (tb_X7_restore_1.all fun q => decide (decode cX7_restore q.1 = .ok q.2)) = true := by decide +kernel
theorem dX7_restore_0 : decode cX7_restore 0 = .ok (.iload_n 1, 1) := tb_d tk_X7_restore_1 0 (0, .iload_n 1, 1) rfl
theorem dX7_restore_1 : decode cX7_restore 1 = .ok (.ifCond .lt 8, 3) := tb_d tk_X7_restore_1 1 (1, .ifCond .lt 8, 3) rfl
theorem dX7_restore_4 : decode cX7_restore 4 = .ok (.iload_n 1, 1) := tb_d tk_X7_restore_1 2 (4, .iload_n 1, 1) rfl
theorem dX7_restore_5 : decode cX7_restore 5 = .ok (.iconst 2, 1) := tb_d tk_X7_restore_1 3 (5, .iconst 2, 1) rfl
theorem dX7_restore_6 : decode cX7_restore 6 = .ok (.if_icmp .lt 6, 3) := tb_d tk_X7_restore_1 4 (6, .if_icmp .lt 6, 3) rfl
theorem dX7_restore_9 : decode cX7_restore 9 = .ok (.ldc 59, 2) := tb_d tk_X7_restore_1 5 (9, .ldc 59, 2) rfl
theorem dX7_restore_11 : decode cX7_restore 11 = .ok (.ireturn, 1) := tb_d tk_X7_restore_1 6 (11, .ireturn, 1) rfl
theorem dX7_restore_12 : decode cX7_restore 12 = .ok (.aload_n 0, 1) := tb_d tk_X7_restore_1 7 (12, .aload_n 0, 1) rfl
theorem dX7_restore_13 : decode cX7_restore 13 = .ok (.getfield 36, 3) := tb_d tk_X7_restore_1 8 (13, .getfield 36, 3) rfl
theorem dX7_restore_16 : decode cX7_restore 16 = .ok (.iload_n 1, 1) := tb_d tk_X7_restore_1 9 (16, .iload_n 1, 1) rfl
theorem dX7_restore_17 : decode cX7_restore 17 = .ok (.aaload, 1) := tb_d tk_X7_restore_1 10 (17, .aaload, 1) rfl
theorem dX7_restore_18 : decode cX7_restore 18 = .ok (.getfield 130, 3) := tb_d tk_X7_restore_1 11 (18, .getfield 130, 3) rfl
theorem dX7_restore_21 : decode cX7_restore 21 = .ok (.ifCond .ne 6, 3) := tb_d tk_X7_restore_1 12 (21, .ifCond .ne 6, 3) rfl
theorem dX7_restore_24 : decode cX7_restore 24 = .ok (.ldc 136, 2) := tb_d tk_X7_restore_1 13 (24, .ldc 136, 2) rfl
theorem dX7_restore_26 : decode cX7_restore 26 = .ok (.ireturn, 1) := tb_d tk_X7_restore_1 14 (26, .ireturn, 1) rfl
theorem dX7_restore_27 : decode cX7_restore 27 = .ok (.aload_n 0, 1) := tb_d tk_X7_restore_1 15 (27, .aload_n 0, 1) rfl
theorem dX7_restore_28 : decode cX7_restore 28 = .ok (.getfield 25, 3) := tb_d tk_X7_restore_1 16 (28, .getfield 25, 3) rfl
theorem dX7_restore_31 : decode cX7_restore 31 = .ok (.aload_n 0, 1) := tb_d tk_X7_restore_1 17 (31, .aload_n 0, 1) rfl
theorem dX7_restore_32 : decode cX7_restore 32 = .ok (.getfield 36, 3) := tb_d tk_X7_restore_1 18 (32, .getfield 36, 3) rfl
theorem dX7_restore_35 : decode cX7_restore 35 = .ok (.iload_n 1, 1) := tb_d tk_X7_restore_1 19 (35, .iload_n 1, 1) rfl
theorem dX7_restore_36 : decode cX7_restore 36 = .ok (.aaload, 1) := tb_d tk_X7_restore_1 20 (36, .aaload, 1) rfl
theorem dX7_restore_37 : decode cX7_restore 37 = .ok (.invokevirtual 123, 3) := tb_d tk_X7_restore_1 21 (37, .invokevirtual 123, 3) rfl
theorem dX7_restore_40 : decode cX7_restore 40 = .ok (.aload_n 0, 1) := tb_d tk_X7_restore_1 22 (40, .aload_n 0, 1) rfl
theorem dX7_restore_41 : decode cX7_restore 41 = .ok (.getfield 32, 3) := tb_d tk_X7_restore_1 23 (41, .getfield 32, 3) rfl
theorem dX7_restore_44 : decode cX7_restore 44 = .ok (.invokevirtual 127, 3) := tb_d tk_X7_restore_1 24 (44, .invokevirtual 127, 3) rfl
theorem dX7_restore_47 : decode cX7_restore 47 = .ok (.iconst 1, 1) := tb_d tk_X7_restore_1 25 (47, .iconst 1, 1) rfl
theorem dX7_restore_48 : decode cX7_restore 48 = .ok (.ireturn, 1) := tb_d tk_X7_restore_1 26 (48, .ireturn, 1) rfl
set_option maxRecDepth 20000 in
theorem ggX7_kind_X7_isGuard : GoodIn wsX7_kind wsX7_isGuard := goodIn_r _ [8, 1, 9, 10, 11, 12, 13, 14, 15, 16, 17, 18, 19, 20, 21, 22, 23, 24, 25, 26] (by decide +kernel) (by decide +kernel)
set_option maxRecDepth 20000 in
theorem gX7_kind_X7_isGuard : GoodIn wsX7_kind (wsV RX7 187 RX7 yX7_isGuard wsX7_isGuard) := goodIn_app (goodIn_of _ (by decide +kernel)) ggX7_kind_X7_isGuard
def tb_X7_kind_1 : List (Nat × Instr × Nat) := [(0, .aload_n 0, 1), (1, .iload_n 1, 1), (2, .invokevirtual 187, 3), (5, .ifCond .eq 15, 3), (8, .aload_n 0, 1), (9, .getfield 25, 3), (12, .getfield 278, 3), (15, .iload_n 1, 1), (16, .iaload, 1), (17, .goto 5, 3), (20, .ldc 59, 2), (22, .ireturn, 1)]
set_option maxRecDepth 100000 in
theorem tk_X7_kind_1 : (tb_X7_kind_1.all fun q => decide (decode cX7_kind q.1 = .ok q.2)) = true := by decide +kernel
theorem dX7_kind_0 : decode cX7_kind 0 = .ok (.aload_n 0, 1) := tb_d tk_X7_kind_1 0 (0, .aload_n 0, 1) rfl
theorem dX7_kind_1 : decode cX7_kind 1 = .ok (.iload_n 1, 1) := tb_d tk_X7_kind_1 1 (1, .iload_n 1, 1) rfl
theorem dX7_kind_2 : decode cX7_kind 2 = .ok (.invokevirtual 187, 3) := tb_d tk_X7_kind_1 2 (2, .invokevirtual 187, 3) rfl
theorem dX7_kind_5 : decode cX7_kind 5 = .ok (.ifCond .eq 15, 3) := tb_d tk_X7_kind_1 3 (5, .ifCond .eq 15, 3) rfl
theorem dX7_kind_8 : decode cX7_kind 8 = .ok (.aload_n 0, 1) := tb_d tk_X7_kind_1 4 (8, .aload_n 0, 1) rfl
theorem dX7_kind_9 : decode cX7_kind 9 = .ok (.getfield 25, 3) := tb_d tk_X7_kind_1 5 (9, .getfield 25, 3) rfl
theorem dX7_kind_12 : decode cX7_kind 12 = .ok (.getfield 278, 3) := tb_d tk_X7_kind_1 6 (12, .getfield 278, 3) rfl
theorem dX7_kind_15 : decode cX7_kind 15 = .ok (.iload_n 1, 1) := tb_d tk_X7_kind_1 7 (15, .iload_n 1, 1) rfl
theorem dX7_kind_16 : decode cX7_kind 16 = .ok (.iaload, 1) := tb_d tk_X7_kind_1 8 (16, .iaload, 1) rfl
theorem dX7_kind_17 : decode cX7_kind 17 = .ok (.goto 5, 3) := tb_d tk_X7_kind_1 9 (17, .goto 5, 3) rfl
theorem dX7_kind_20 : decode cX7_kind 20 = .ok (.ldc 59, 2) := tb_d tk_X7_kind_1 10 (20, .ldc 59, 2) rfl
theorem dX7_kind_22 : decode cX7_kind 22 = .ok (.ireturn, 1) := tb_d tk_X7_kind_1 11 (22, .ireturn, 1) rfl
set_option maxRecDepth 20000 in
theorem ggX7_as_X7_isGuard : GoodIn wsX7_as wsX7_isGuard := goodIn_r _ [8, 2, 9, 25, 26, 27, 28, 29, 30, 31, 32, 33, 34, 35, 36, 37, 38, 39, 40, 41] (by decide +kernel) (by decide +kernel)
set_option maxRecDepth 20000 in
theorem gX7_as_X7_isGuard : GoodIn wsX7_as (wsV RX7 187 RX7 yX7_isGuard wsX7_isGuard) := goodIn_app (goodIn_of _ (by decide +kernel)) ggX7_as_X7_isGuard
set_option maxRecDepth 20000 in
theorem ggX7_as_X1_isA : GoodIn wsX7_as wsX1_isA := goodIn_r _ [13, 14] (by decide +kernel) (by decide +kernel)
set_option maxRecDepth 20000 in
theorem gX7_as_X1_isA : GoodIn wsX7_as (va_wsS RX7 307 yX1_isA wsX1_isA) := goodIn_app (goodIn_of _ (by decide +kernel)) ggX7_as_X1_isA
set_option maxRecDepth 20000 in
theorem ggX7_as_X7_unfound : GoodIn wsX7_as wsX7_unfound := goodIn_r _ [18, 19, 25, 26, 27, 28, 29, 30, 31, 32, 33] (by decide +kernel) (by decide +kernel)
set_option maxRecDepth 20000 in
theorem gX7_as_X7_unfound : GoodIn wsX7_as (wsV RX7 68 RX7 yX7_unfound wsX7_unfound) := goodIn_app (goodIn_of _ (by decide +kernel)) ggX7_as_X7_unfound
set_option maxRecDepth 20000 in
theorem ggX7_as_X7_found : GoodIn wsX7_as wsX7_found := goodIn_r _ [23, 19, 24, 25, 26, 27, 28, 29, 30, 31, 32, 33] (by decide +kernel) (by decide +kernel)
set_option maxRecDepth 20000 in
theorem gX7_as_X7_found : GoodIn wsX7_as (wsV RX7 60 RX7 yX7_found wsX7_found) := goodIn_app (goodIn_of _ (by decide +kernel)) ggX7_as_X7_found
def tb_X7_as_1 : List (Nat × Instr × Nat) := [(0, .aload_n 0, 1), (1, .iload_n 1, 1), (2, .invokevirtual 187, 3), (5, .ifCond .eq 12, 3), (8, .iload_n 2, 1), (9, .ifCond .lt 8, 3), (12, .iload_n 2, 1), (13, .iconst 5, 1), (14, .if_icmp .le 6, 3), (17, .ldc 59, 2), (19, .ireturn, 1), (20, .aload_n 0, 1), (21, .getfield 25, 3), (24, .getfield 278, 3), (27, .iload_n 1, 1), (28, .iaload, 1), (29, .iload_n 2, 1), (30, .invokestatic 307, 3), (33, .ifCond .eq 11, 3), (36, .aload_n 0, 1), (37, .iload_n 1, 1), (38, .invokevirtual 68, 3), (41, .goto 8, 3), (44, .aload_n 0, 1), (45, .iconst 3, 1), (46, .invokevirtual 60, 3), (49, .ireturn, 1)]
set_option maxRecDepth 100000 in
theorem tk_X7_as_1 : (tb_X7_as_1.all fun q => decide (decode cX7_as q.1 = .ok q.2)) = true := by decide +kernel
theorem dX7_as_0 : decode cX7_as 0 = .ok (.aload_n 0, 1) := tb_d tk_X7_as_1 0 (0, .aload_n 0, 1) rfl
theorem dX7_as_1 : decode cX7_as 1 = .ok (.iload_n 1, 1) := tb_d tk_X7_as_1 1 (1, .iload_n 1, 1) rfl
theorem dX7_as_2 : decode cX7_as 2 = .ok (.invokevirtual 187, 3) := tb_d tk_X7_as_1 2 (2, .invokevirtual 187, 3) rfl
theorem dX7_as_5 : decode cX7_as 5 = .ok (.ifCond .eq 12, 3) := tb_d tk_X7_as_1 3 (5, .ifCond .eq 12, 3) rfl
theorem dX7_as_8 : decode cX7_as 8 = .ok (.iload_n 2, 1) := tb_d tk_X7_as_1 4 (8, .iload_n 2, 1) rfl
theorem dX7_as_9 : decode cX7_as 9 = .ok (.ifCond .lt 8, 3) := tb_d tk_X7_as_1 5 (9, .ifCond .lt 8, 3) rfl
theorem dX7_as_12 : decode cX7_as 12 = .ok (.iload_n 2, 1) := tb_d tk_X7_as_1 6 (12, .iload_n 2, 1) rfl
theorem dX7_as_13 : decode cX7_as 13 = .ok (.iconst 5, 1) := tb_d tk_X7_as_1 7 (13, .iconst 5, 1) rfl
theorem dX7_as_14 : decode cX7_as 14 = .ok (.if_icmp .le 6, 3) := tb_d tk_X7_as_1 8 (14, .if_icmp .le 6, 3) rfl
theorem dX7_as_17 : decode cX7_as 17 = .ok (.ldc 59, 2) := tb_d tk_X7_as_1 9 (17, .ldc 59, 2) rfl
theorem dX7_as_19 : decode cX7_as 19 = .ok (.ireturn, 1) := tb_d tk_X7_as_1 10 (19, .ireturn, 1) rfl
theorem dX7_as_20 : decode cX7_as 20 = .ok (.aload_n 0, 1) := tb_d tk_X7_as_1 11 (20, .aload_n 0, 1) rfl
theorem dX7_as_21 : decode cX7_as 21 = .ok (.getfield 25, 3) := tb_d tk_X7_as_1 12 (21, .getfield 25, 3) rfl
theorem dX7_as_24 : decode cX7_as 24 = .ok (.getfield 278, 3) := tb_d tk_X7_as_1 13 (24, .getfield 278, 3) rfl
theorem dX7_as_27 : decode cX7_as 27 = .ok (.iload_n 1, 1) := tb_d tk_X7_as_1 14 (27, .iload_n 1, 1) rfl
theorem dX7_as_28 : decode cX7_as 28 = .ok (.iaload, 1) := tb_d tk_X7_as_1 15 (28, .iaload, 1) rfl
theorem dX7_as_29 : decode cX7_as 29 = .ok (.iload_n 2, 1) := tb_d tk_X7_as_1 16 (29, .iload_n 2, 1) rfl
theorem dX7_as_30 : decode cX7_as 30 = .ok (.invokestatic 307, 3) := tb_d tk_X7_as_1 17 (30, .invokestatic 307, 3) rfl
theorem dX7_as_33 : decode cX7_as 33 = .ok (.ifCond .eq 11, 3) := tb_d tk_X7_as_1 18 (33, .ifCond .eq 11, 3) rfl
theorem dX7_as_36 : decode cX7_as 36 = .ok (.aload_n 0, 1) := tb_d tk_X7_as_1 19 (36, .aload_n 0, 1) rfl
theorem dX7_as_37 : decode cX7_as 37 = .ok (.iload_n 1, 1) := tb_d tk_X7_as_1 20 (37, .iload_n 1, 1) rfl
theorem dX7_as_38 : decode cX7_as 38 = .ok (.invokevirtual 68, 3) := tb_d tk_X7_as_1 21 (38, .invokevirtual 68, 3) rfl
theorem dX7_as_41 : decode cX7_as 41 = .ok (.goto 8, 3) := tb_d tk_X7_as_1 22 (41, .goto 8, 3) rfl
theorem dX7_as_44 : decode cX7_as 44 = .ok (.aload_n 0, 1) := tb_d tk_X7_as_1 23 (44, .aload_n 0, 1) rfl
theorem dX7_as_45 : decode cX7_as 45 = .ok (.iconst 3, 1) := tb_d tk_X7_as_1 24 (45, .iconst 3, 1) rfl
theorem dX7_as_46 : decode cX7_as 46 = .ok (.invokevirtual 60, 3) := tb_d tk_X7_as_1 25 (46, .invokevirtual 60, 3) rfl
theorem dX7_as_49 : decode cX7_as 49 = .ok (.ireturn, 1) := tb_d tk_X7_as_1 26 (49, .ireturn, 1) rfl
set_option maxRecDepth 20000 in
theorem ggX7_ask_X7_isGuard : GoodIn wsX7_ask wsX7_isGuard := goodIn_r _ [12, 3, 13, 46, 47, 48, 49, 50, 51, 52, 53, 54, 55, 56, 57, 58, 59, 60, 61, 62] (by decide +kernel) (by decide +kernel)
set_option maxRecDepth 20000 in
theorem gX7_ask_X7_isGuard : GoodIn wsX7_ask (wsV RX7 187 RX7 yX7_isGuard wsX7_isGuard) := goodIn_app (goodIn_of _ (by decide +kernel)) ggX7_ask_X7_isGuard
set_option maxRecDepth 20000 in
theorem ggX7_ask_X1_turnTo : GoodIn wsX7_ask wsX1_turnTo := goodIn_r _ [18, 19, 20, 21, 22, 23, 71, 72, 73, 74, 75, 76] (by decide +kernel) (by decide +kernel)
set_option maxRecDepth 20000 in
theorem gX7_ask_X1_turnTo : GoodIn wsX7_ask (wsV RX7 310 RX1 yX1_turnTo wsX1_turnTo) := goodIn_app (goodIn_of _ (by decide +kernel)) ggX7_ask_X1_turnTo
set_option maxRecDepth 20000 in
theorem ggX7_ask_X1_answer : GoodIn wsX7_ask wsX1_answer := goodIn_r _ [27, 28, 29, 30, 17, 31, 32, 20, 33, 34, 35, 36, 37, 38, 39, 40, 21, 19, 22, 41, 42, 43, 44, 23, 45, 71, 72, 73, 74, 75, 76] (by decide +kernel) (by decide +kernel)
set_option maxRecDepth 20000 in
theorem gX7_ask_X1_answer : GoodIn wsX7_ask (wsV RX7 314 RX1 yX1_answer wsX1_answer) := goodIn_app (goodIn_of _ (by decide +kernel)) ggX7_ask_X1_answer
def tb_X7_ask_1 : List (Nat × Instr × Nat) := [(0, .aload_n 0, 1), (1, .iload_n 1, 1), (2, .invokevirtual 187, 3), (5, .ifCond .eq 12, 3), (8, .iload_n 2, 1), (9, .ifCond .lt 8, 3), (12, .iload_n 2, 1), (13, .iconst 1, 1), (14, .if_icmp .le 6, 3), (17, .ldc 59, 2), (19, .ireturn, 1), (20, .aload_n 0, 1), (21, .getfield 50, 3), (24, .iload_n 1, 1), (25, .aload_n 0, 1), (26, .getfield 25, 3), (29, .getfield 278, 3), (32, .iload_n 1, 1), (33, .iaload, 1), (34, .aload_n 0, 1), (35, .getfield 25, 3), (38, .getfield 209, 3), (41, .iload_n 1, 1), (42, .iaload, 1), (43, .aload_n 0, 1), (44, .getfield 25, 3), (47, .getfield 137, 3), (50, .getfield 212, 3), (53, .iload_n 1, 1), (54, .iaload, 1), (55, .invokevirtual 310, 3), (58, .aload_n 0, 1), (59, .getfield 50, 3), (62, .iload_n 2, 1), (63, .invokevirtual 314, 3), (66, .ireturn, 1)]
set_option maxRecDepth 100000 in
theorem tk_X7_ask_1 : (tb_X7_ask_1.all fun q => decide (decode cX7_ask q.1 = .ok q.2)) = true := by decide +kernel
theorem dX7_ask_0 : decode cX7_ask 0 = .ok (.aload_n 0, 1) := tb_d tk_X7_ask_1 0 (0, .aload_n 0, 1) rfl
theorem dX7_ask_1 : decode cX7_ask 1 = .ok (.iload_n 1, 1) := tb_d tk_X7_ask_1 1 (1, .iload_n 1, 1) rfl
theorem dX7_ask_2 : decode cX7_ask 2 = .ok (.invokevirtual 187, 3) := tb_d tk_X7_ask_1 2 (2, .invokevirtual 187, 3) rfl
theorem dX7_ask_5 : decode cX7_ask 5 = .ok (.ifCond .eq 12, 3) := tb_d tk_X7_ask_1 3 (5, .ifCond .eq 12, 3) rfl
theorem dX7_ask_8 : decode cX7_ask 8 = .ok (.iload_n 2, 1) := tb_d tk_X7_ask_1 4 (8, .iload_n 2, 1) rfl
theorem dX7_ask_9 : decode cX7_ask 9 = .ok (.ifCond .lt 8, 3) := tb_d tk_X7_ask_1 5 (9, .ifCond .lt 8, 3) rfl
theorem dX7_ask_12 : decode cX7_ask 12 = .ok (.iload_n 2, 1) := tb_d tk_X7_ask_1 6 (12, .iload_n 2, 1) rfl
theorem dX7_ask_13 : decode cX7_ask 13 = .ok (.iconst 1, 1) := tb_d tk_X7_ask_1 7 (13, .iconst 1, 1) rfl
theorem dX7_ask_14 : decode cX7_ask 14 = .ok (.if_icmp .le 6, 3) := tb_d tk_X7_ask_1 8 (14, .if_icmp .le 6, 3) rfl
theorem dX7_ask_17 : decode cX7_ask 17 = .ok (.ldc 59, 2) := tb_d tk_X7_ask_1 9 (17, .ldc 59, 2) rfl
theorem dX7_ask_19 : decode cX7_ask 19 = .ok (.ireturn, 1) := tb_d tk_X7_ask_1 10 (19, .ireturn, 1) rfl
theorem dX7_ask_20 : decode cX7_ask 20 = .ok (.aload_n 0, 1) := tb_d tk_X7_ask_1 11 (20, .aload_n 0, 1) rfl
theorem dX7_ask_21 : decode cX7_ask 21 = .ok (.getfield 50, 3) := tb_d tk_X7_ask_1 12 (21, .getfield 50, 3) rfl
theorem dX7_ask_24 : decode cX7_ask 24 = .ok (.iload_n 1, 1) := tb_d tk_X7_ask_1 13 (24, .iload_n 1, 1) rfl
theorem dX7_ask_25 : decode cX7_ask 25 = .ok (.aload_n 0, 1) := tb_d tk_X7_ask_1 14 (25, .aload_n 0, 1) rfl
theorem dX7_ask_26 : decode cX7_ask 26 = .ok (.getfield 25, 3) := tb_d tk_X7_ask_1 15 (26, .getfield 25, 3) rfl
theorem dX7_ask_29 : decode cX7_ask 29 = .ok (.getfield 278, 3) := tb_d tk_X7_ask_1 16 (29, .getfield 278, 3) rfl
theorem dX7_ask_32 : decode cX7_ask 32 = .ok (.iload_n 1, 1) := tb_d tk_X7_ask_1 17 (32, .iload_n 1, 1) rfl
theorem dX7_ask_33 : decode cX7_ask 33 = .ok (.iaload, 1) := tb_d tk_X7_ask_1 18 (33, .iaload, 1) rfl
theorem dX7_ask_34 : decode cX7_ask 34 = .ok (.aload_n 0, 1) := tb_d tk_X7_ask_1 19 (34, .aload_n 0, 1) rfl
theorem dX7_ask_35 : decode cX7_ask 35 = .ok (.getfield 25, 3) := tb_d tk_X7_ask_1 20 (35, .getfield 25, 3) rfl
theorem dX7_ask_38 : decode cX7_ask 38 = .ok (.getfield 209, 3) := tb_d tk_X7_ask_1 21 (38, .getfield 209, 3) rfl
theorem dX7_ask_41 : decode cX7_ask 41 = .ok (.iload_n 1, 1) := tb_d tk_X7_ask_1 22 (41, .iload_n 1, 1) rfl
theorem dX7_ask_42 : decode cX7_ask 42 = .ok (.iaload, 1) := tb_d tk_X7_ask_1 23 (42, .iaload, 1) rfl
theorem dX7_ask_43 : decode cX7_ask 43 = .ok (.aload_n 0, 1) := tb_d tk_X7_ask_1 24 (43, .aload_n 0, 1) rfl
theorem dX7_ask_44 : decode cX7_ask 44 = .ok (.getfield 25, 3) := tb_d tk_X7_ask_1 25 (44, .getfield 25, 3) rfl
theorem dX7_ask_47 : decode cX7_ask 47 = .ok (.getfield 137, 3) := tb_d tk_X7_ask_1 26 (47, .getfield 137, 3) rfl
theorem dX7_ask_50 : decode cX7_ask 50 = .ok (.getfield 212, 3) := tb_d tk_X7_ask_1 27 (50, .getfield 212, 3) rfl
theorem dX7_ask_53 : decode cX7_ask 53 = .ok (.iload_n 1, 1) := tb_d tk_X7_ask_1 28 (53, .iload_n 1, 1) rfl
theorem dX7_ask_54 : decode cX7_ask 54 = .ok (.iaload, 1) := tb_d tk_X7_ask_1 29 (54, .iaload, 1) rfl
theorem dX7_ask_55 : decode cX7_ask 55 = .ok (.invokevirtual 310, 3) := tb_d tk_X7_ask_1 30 (55, .invokevirtual 310, 3) rfl
theorem dX7_ask_58 : decode cX7_ask 58 = .ok (.aload_n 0, 1) := tb_d tk_X7_ask_1 31 (58, .aload_n 0, 1) rfl
theorem dX7_ask_59 : decode cX7_ask 59 = .ok (.getfield 50, 3) := tb_d tk_X7_ask_1 32 (59, .getfield 50, 3) rfl
theorem dX7_ask_62 : decode cX7_ask 62 = .ok (.iload_n 2, 1) := tb_d tk_X7_ask_1 33 (62, .iload_n 2, 1) rfl
theorem dX7_ask_63 : decode cX7_ask 63 = .ok (.invokevirtual 314, 3) := tb_d tk_X7_ask_1 34 (63, .invokevirtual 314, 3) rfl
theorem dX7_ask_66 : decode cX7_ask 66 = .ok (.ireturn, 1) := tb_d tk_X7_ask_1 35 (66, .ireturn, 1) rfl
def tb_X7_trace_1 : List (Nat × Instr × Nat) := [(0, .iload_n 1, 1), (1, .ifCond .lt 14, 3), (4, .iload_n 1, 1), (5, .aload_n 0, 1), (6, .getfield 50, 3), (9, .getfield 317, 3), (12, .if_icmp .lt 8, 3), (15, .ldc 175, 2), (17, .goto 12, 3), (20, .aload_n 0, 1), (21, .getfield 50, 3), (24, .getfield 320, 3), (27, .iload_n 1, 1), (28, .iaload, 1), (29, .ireturn, 1)]
set_option maxRecDepth 100000 in
theorem tk_X7_trace_1 : (tb_X7_trace_1.all fun q => decide (decode cX7_trace q.1 = .ok q.2)) = true := by decide +kernel
theorem dX7_trace_0 : decode cX7_trace 0 = .ok (.iload_n 1, 1) := tb_d tk_X7_trace_1 0 (0, .iload_n 1, 1) rfl
theorem dX7_trace_1 : decode cX7_trace 1 = .ok (.ifCond .lt 14, 3) := tb_d tk_X7_trace_1 1 (1, .ifCond .lt 14, 3) rfl
theorem dX7_trace_4 : decode cX7_trace 4 = .ok (.iload_n 1, 1) := tb_d tk_X7_trace_1 2 (4, .iload_n 1, 1) rfl
theorem dX7_trace_5 : decode cX7_trace 5 = .ok (.aload_n 0, 1) := tb_d tk_X7_trace_1 3 (5, .aload_n 0, 1) rfl
theorem dX7_trace_6 : decode cX7_trace 6 = .ok (.getfield 50, 3) := tb_d tk_X7_trace_1 4 (6, .getfield 50, 3) rfl
theorem dX7_trace_9 : decode cX7_trace 9 = .ok (.getfield 317, 3) := tb_d tk_X7_trace_1 5 (9, .getfield 317, 3) rfl
theorem dX7_trace_12 : decode cX7_trace 12 = .ok (.if_icmp .lt 8, 3) := tb_d tk_X7_trace_1 6 (12, .if_icmp .lt 8, 3) rfl
theorem dX7_trace_15 : decode cX7_trace 15 = .ok (.ldc 175, 2) := tb_d tk_X7_trace_1 7 (15, .ldc 175, 2) rfl
theorem dX7_trace_17 : decode cX7_trace 17 = .ok (.goto 12, 3) := tb_d tk_X7_trace_1 8 (17, .goto 12, 3) rfl
theorem dX7_trace_20 : decode cX7_trace 20 = .ok (.aload_n 0, 1) := tb_d tk_X7_trace_1 9 (20, .aload_n 0, 1) rfl
theorem dX7_trace_21 : decode cX7_trace 21 = .ok (.getfield 50, 3) := tb_d tk_X7_trace_1 10 (21, .getfield 50, 3) rfl
theorem dX7_trace_24 : decode cX7_trace 24 = .ok (.getfield 320, 3) := tb_d tk_X7_trace_1 11 (24, .getfield 320, 3) rfl
theorem dX7_trace_27 : decode cX7_trace 27 = .ok (.iload_n 1, 1) := tb_d tk_X7_trace_1 12 (27, .iload_n 1, 1) rfl
theorem dX7_trace_28 : decode cX7_trace 28 = .ok (.iaload, 1) := tb_d tk_X7_trace_1 13 (28, .iaload, 1) rfl
theorem dX7_trace_29 : decode cX7_trace 29 = .ok (.ireturn, 1) := tb_d tk_X7_trace_1 14 (29, .ireturn, 1) rfl
set_option maxRecDepth 20000 in
theorem ggX7_count_X7_rowsThere : GoodIn wsX7_count wsX7_rowsThere := goodIn_r _ [18, 19, 20, 27, 28, 29, 30, 31, 32, 33, 34, 35, 62, 63, 64] (by decide +kernel) (by decide +kernel)
set_option maxRecDepth 20000 in
theorem gX7_count_X7_rowsThere : GoodIn wsX7_count (wsV RX7 323 RX7 yX7_rowsThere wsX7_rowsThere) := goodIn_app (goodIn_of _ (by decide +kernel)) ggX7_count_X7_rowsThere
set_option maxRecDepth 20000 in
theorem ggX7_count_X4_tookInAll : GoodIn wsX7_count wsX4_tookInAll := goodIn_r _ [25, 26, 44, 45, 46, 47, 48, 49, 50, 51] (by decide +kernel) (by decide +kernel)
set_option maxRecDepth 20000 in
theorem gX7_count_X4_tookInAll : GoodIn wsX7_count (wsV RX7 330 RX4 yX4_tookInAll wsX4_tookInAll) := goodIn_app (goodIn_of _ (by decide +kernel)) ggX7_count_X4_tookInAll
def tb_X7_count_1 : List (Nat × Instr × Nat) := [(0, .iload_n 1, 1), (1, .tableswitch 147 0 9 #[55, 60, 68, 76, 87, 98, 109, 117, 125, 136], 55), (56, .aload_n 0, 1), (57, .invokevirtual 323, 3), (60, .ireturn, 1), (61, .aload_n 0, 1), (62, .getfield 25, 3), (65, .getfield 130, 3), (68, .ireturn, 1), (69, .aload_n 0, 1), (70, .getfield 25, 3), (73, .getfield 327, 3), (76, .ireturn, 1), (77, .aload_n 0, 1), (78, .getfield 25, 3), (81, .getfield 137, 3), (84, .getfield 141, 3), (87, .ireturn, 1), (88, .aload_n 0, 1), (89, .getfield 25, 3), (92, .getfield 137, 3), (95, .getfield 162, 3), (98, .ireturn, 1), (99, .aload_n 0, 1), (100, .getfield 25, 3), (103, .getfield 137, 3), (106, .getfield 190, 3), (109, .ireturn, 1), (110, .aload_n 0, 1), (111, .getfield 32, 3), (114, .getfield 197, 3), (117, .ireturn, 1), (118, .aload_n 0, 1), (119, .getfield 18, 3), (122, .getfield 102, 3), (125, .ireturn, 1), (126, .aload_n 0, 1), (127, .getfield 25, 3), (130, .getfield 137, 3), (133, .getfield 184, 3)]
set_option maxRecDepth 100000 in
theorem tk_X7_count_1 : (tb_X7_count_1.all fun q => decide (decode cX7_count q.1 = .ok q.2)) = true := by decide +kernel
theorem dX7_count_0 : decode cX7_count 0 = .ok (.iload_n 1, 1) := tb_d tk_X7_count_1 0 (0, .iload_n 1, 1) rfl
theorem dX7_count_1 : decode cX7_count 1 = .ok (.tableswitch 147 0 9 #[55, 60, 68, 76, 87, 98, 109, 117, 125, 136], 55) := tb_d tk_X7_count_1 1 (1, .tableswitch 147 0 9 #[55, 60, 68, 76, 87, 98, 109, 117, 125, 136], 55) rfl
theorem dX7_count_56 : decode cX7_count 56 = .ok (.aload_n 0, 1) := tb_d tk_X7_count_1 2 (56, .aload_n 0, 1) rfl
theorem dX7_count_57 : decode cX7_count 57 = .ok (.invokevirtual 323, 3) := tb_d tk_X7_count_1 3 (57, .invokevirtual 323, 3) rfl
theorem dX7_count_60 : decode cX7_count 60 = .ok (.ireturn, 1) := tb_d tk_X7_count_1 4 (60, .ireturn, 1) rfl
theorem dX7_count_61 : decode cX7_count 61 = .ok (.aload_n 0, 1) := tb_d tk_X7_count_1 5 (61, .aload_n 0, 1) rfl
theorem dX7_count_62 : decode cX7_count 62 = .ok (.getfield 25, 3) := tb_d tk_X7_count_1 6 (62, .getfield 25, 3) rfl
theorem dX7_count_65 : decode cX7_count 65 = .ok (.getfield 130, 3) := tb_d tk_X7_count_1 7 (65, .getfield 130, 3) rfl
theorem dX7_count_68 : decode cX7_count 68 = .ok (.ireturn, 1) := tb_d tk_X7_count_1 8 (68, .ireturn, 1) rfl
theorem dX7_count_69 : decode cX7_count 69 = .ok (.aload_n 0, 1) := tb_d tk_X7_count_1 9 (69, .aload_n 0, 1) rfl
theorem dX7_count_70 : decode cX7_count 70 = .ok (.getfield 25, 3) := tb_d tk_X7_count_1 10 (70, .getfield 25, 3) rfl
theorem dX7_count_73 : decode cX7_count 73 = .ok (.getfield 327, 3) := tb_d tk_X7_count_1 11 (73, .getfield 327, 3) rfl
theorem dX7_count_76 : decode cX7_count 76 = .ok (.ireturn, 1) := tb_d tk_X7_count_1 12 (76, .ireturn, 1) rfl
theorem dX7_count_77 : decode cX7_count 77 = .ok (.aload_n 0, 1) := tb_d tk_X7_count_1 13 (77, .aload_n 0, 1) rfl
theorem dX7_count_78 : decode cX7_count 78 = .ok (.getfield 25, 3) := tb_d tk_X7_count_1 14 (78, .getfield 25, 3) rfl
theorem dX7_count_81 : decode cX7_count 81 = .ok (.getfield 137, 3) := tb_d tk_X7_count_1 15 (81, .getfield 137, 3) rfl
theorem dX7_count_84 : decode cX7_count 84 = .ok (.getfield 141, 3) := tb_d tk_X7_count_1 16 (84, .getfield 141, 3) rfl
theorem dX7_count_87 : decode cX7_count 87 = .ok (.ireturn, 1) := tb_d tk_X7_count_1 17 (87, .ireturn, 1) rfl
theorem dX7_count_88 : decode cX7_count 88 = .ok (.aload_n 0, 1) := tb_d tk_X7_count_1 18 (88, .aload_n 0, 1) rfl
theorem dX7_count_89 : decode cX7_count 89 = .ok (.getfield 25, 3) := tb_d tk_X7_count_1 19 (89, .getfield 25, 3) rfl
theorem dX7_count_92 : decode cX7_count 92 = .ok (.getfield 137, 3) := tb_d tk_X7_count_1 20 (92, .getfield 137, 3) rfl
theorem dX7_count_95 : decode cX7_count 95 = .ok (.getfield 162, 3) := tb_d tk_X7_count_1 21 (95, .getfield 162, 3) rfl
theorem dX7_count_98 : decode cX7_count 98 = .ok (.ireturn, 1) := tb_d tk_X7_count_1 22 (98, .ireturn, 1) rfl
theorem dX7_count_99 : decode cX7_count 99 = .ok (.aload_n 0, 1) := tb_d tk_X7_count_1 23 (99, .aload_n 0, 1) rfl
theorem dX7_count_100 : decode cX7_count 100 = .ok (.getfield 25, 3) := tb_d tk_X7_count_1 24 (100, .getfield 25, 3) rfl
theorem dX7_count_103 : decode cX7_count 103 = .ok (.getfield 137, 3) := tb_d tk_X7_count_1 25 (103, .getfield 137, 3) rfl
theorem dX7_count_106 : decode cX7_count 106 = .ok (.getfield 190, 3) := tb_d tk_X7_count_1 26 (106, .getfield 190, 3) rfl
theorem dX7_count_109 : decode cX7_count 109 = .ok (.ireturn, 1) := tb_d tk_X7_count_1 27 (109, .ireturn, 1) rfl
theorem dX7_count_110 : decode cX7_count 110 = .ok (.aload_n 0, 1) := tb_d tk_X7_count_1 28 (110, .aload_n 0, 1) rfl
theorem dX7_count_111 : decode cX7_count 111 = .ok (.getfield 32, 3) := tb_d tk_X7_count_1 29 (111, .getfield 32, 3) rfl
theorem dX7_count_114 : decode cX7_count 114 = .ok (.getfield 197, 3) := tb_d tk_X7_count_1 30 (114, .getfield 197, 3) rfl
theorem dX7_count_117 : decode cX7_count 117 = .ok (.ireturn, 1) := tb_d tk_X7_count_1 31 (117, .ireturn, 1) rfl
theorem dX7_count_118 : decode cX7_count 118 = .ok (.aload_n 0, 1) := tb_d tk_X7_count_1 32 (118, .aload_n 0, 1) rfl
theorem dX7_count_119 : decode cX7_count 119 = .ok (.getfield 18, 3) := tb_d tk_X7_count_1 33 (119, .getfield 18, 3) rfl
theorem dX7_count_122 : decode cX7_count 122 = .ok (.getfield 102, 3) := tb_d tk_X7_count_1 34 (122, .getfield 102, 3) rfl
theorem dX7_count_125 : decode cX7_count 125 = .ok (.ireturn, 1) := tb_d tk_X7_count_1 35 (125, .ireturn, 1) rfl
theorem dX7_count_126 : decode cX7_count 126 = .ok (.aload_n 0, 1) := tb_d tk_X7_count_1 36 (126, .aload_n 0, 1) rfl
theorem dX7_count_127 : decode cX7_count 127 = .ok (.getfield 25, 3) := tb_d tk_X7_count_1 37 (127, .getfield 25, 3) rfl
theorem dX7_count_130 : decode cX7_count 130 = .ok (.getfield 137, 3) := tb_d tk_X7_count_1 38 (130, .getfield 137, 3) rfl
theorem dX7_count_133 : decode cX7_count 133 = .ok (.getfield 184, 3) := tb_d tk_X7_count_1 39 (133, .getfield 184, 3) rfl
def tb_X7_count_2 : List (Nat × Instr × Nat) := [(136, .ireturn, 1), (137, .aload_n 0, 1), (138, .getfield 25, 3), (141, .getfield 137, 3), (144, .invokevirtual 330, 3), (147, .ireturn, 1), (148, .ldc 59, 2), (150, .ireturn, 1)]
set_option maxRecDepth 100000 in
theorem tk_X7_count_2 : (tb_X7_count_2.all fun q => decide (decode cX7_count q.1 = .ok q.2)) = true := by decide +kernel
theorem dX7_count_136 : decode cX7_count 136 = .ok (.ireturn, 1) := tb_d tk_X7_count_2 0 (136, .ireturn, 1) rfl
theorem dX7_count_137 : decode cX7_count 137 = .ok (.aload_n 0, 1) := tb_d tk_X7_count_2 1 (137, .aload_n 0, 1) rfl
theorem dX7_count_138 : decode cX7_count 138 = .ok (.getfield 25, 3) := tb_d tk_X7_count_2 2 (138, .getfield 25, 3) rfl
theorem dX7_count_141 : decode cX7_count 141 = .ok (.getfield 137, 3) := tb_d tk_X7_count_2 3 (141, .getfield 137, 3) rfl
theorem dX7_count_144 : decode cX7_count 144 = .ok (.invokevirtual 330, 3) := tb_d tk_X7_count_2 4 (144, .invokevirtual 330, 3) rfl
theorem dX7_count_147 : decode cX7_count 147 = .ok (.ireturn, 1) := tb_d tk_X7_count_2 5 (147, .ireturn, 1) rfl
theorem dX7_count_148 : decode cX7_count 148 = .ok (.ldc 59, 2) := tb_d tk_X7_count_2 6 (148, .ldc 59, 2) rfl
theorem dX7_count_150 : decode cX7_count 150 = .ok (.ireturn, 1) := tb_d tk_X7_count_2 7 (150, .ireturn, 1) rfl
def tb_X7_status_1 : List (Nat × Instr × Nat) := [(0, .aload_n 0, 1), (1, .getfield 333, 3), (4, .ireturn, 1)]
set_option maxRecDepth 100000 in
theorem tk_X7_status_1 : (tb_X7_status_1.all fun q => decide (decode cX7_status q.1 = .ok q.2)) = true := by decide +kernel
theorem dX7_status_0 : decode cX7_status 0 = .ok (.aload_n 0, 1) := tb_d tk_X7_status_1 0 (0, .aload_n 0, 1) rfl
theorem dX7_status_1 : decode cX7_status 1 = .ok (.getfield 333, 3) := tb_d tk_X7_status_1 1 (1, .getfield 333, 3) rfl
theorem dX7_status_4 : decode cX7_status 4 = .ok (.ireturn, 1) := tb_d tk_X7_status_1 2 (4, .ireturn, 1) rfl
def tb_X7_found_1 : List (Nat × Instr × Nat) := [(0, .aload_n 0, 1), (1, .iload_n 1, 1), (2, .putfield 333, 3), (5, .ldc_w 336, 3), (8, .iload_n 1, 1), (9, .isub, 1), (10, .ireturn, 1)]
set_option maxRecDepth 100000 in
theorem tk_X7_found_1 : (tb_X7_found_1.all fun q => decide (decode cX7_found q.1 = .ok q.2)) = true := by decide +kernel
theorem dX7_found_0 : decode cX7_found 0 = .ok (.aload_n 0, 1) := tb_d tk_X7_found_1 0 (0, .aload_n 0, 1) rfl
theorem dX7_found_1 : decode cX7_found 1 = .ok (.iload_n 1, 1) := tb_d tk_X7_found_1 1 (1, .iload_n 1, 1) rfl
theorem dX7_found_2 : decode cX7_found 2 = .ok (.putfield 333, 3) := tb_d tk_X7_found_1 2 (2, .putfield 333, 3) rfl
theorem dX7_found_5 : decode cX7_found 5 = .ok (.ldc_w 336, 3) := tb_d tk_X7_found_1 3 (5, .ldc_w 336, 3) rfl
theorem dX7_found_8 : decode cX7_found 8 = .ok (.iload_n 1, 1) := tb_d tk_X7_found_1 4 (8, .iload_n 1, 1) rfl
theorem dX7_found_9 : decode cX7_found 9 = .ok (.isub, 1) := tb_d tk_X7_found_1 5 (9, .isub, 1) rfl
theorem dX7_found_10 : decode cX7_found 10 = .ok (.ireturn, 1) := tb_d tk_X7_found_1 6 (10, .ireturn, 1) rfl
def tb_X7_unfound_1 : List (Nat × Instr × Nat) := [(0, .aload_n 0, 1), (1, .iconst 0, 1), (2, .putfield 333, 3), (5, .iload_n 1, 1), (6, .ireturn, 1)]
set_option maxRecDepth 100000 in
theorem tk_X7_unfound_1 : (tb_X7_unfound_1.all fun q => decide (decode cX7_unfound q.1 = .ok q.2)) = true := by decide +kernel
theorem dX7_unfound_0 : decode cX7_unfound 0 = .ok (.aload_n 0, 1) := tb_d tk_X7_unfound_1 0 (0, .aload_n 0, 1) rfl
theorem dX7_unfound_1 : decode cX7_unfound 1 = .ok (.iconst 0, 1) := tb_d tk_X7_unfound_1 1 (1, .iconst 0, 1) rfl
theorem dX7_unfound_2 : decode cX7_unfound 2 = .ok (.putfield 333, 3) := tb_d tk_X7_unfound_1 2 (2, .putfield 333, 3) rfl
theorem dX7_unfound_5 : decode cX7_unfound 5 = .ok (.iload_n 1, 1) := tb_d tk_X7_unfound_1 3 (5, .iload_n 1, 1) rfl
theorem dX7_unfound_6 : decode cX7_unfound 6 = .ok (.ireturn, 1) := tb_d tk_X7_unfound_1 4 (6, .ireturn, 1) rfl
def tb_X7_noGate_1 : List (Nat × Instr × Nat) := [(0, .aload_n 0, 1), (1, .getfield 25, 3), (4, .getfield 130, 3), (7, .ifCond .ne 7, 3), (10, .iconst 1, 1), (11, .goto 4, 3), (14, .iconst 0, 1), (15, .ireturn, 1)]
set_option maxRecDepth 100000 in
theorem tk_X7_noGate_1 : (tb_X7_noGate_1.all fun q => decide (decode cX7_noGate q.1 = .ok q.2)) = true := by decide +kernel
theorem dX7_noGate_0 : decode cX7_noGate 0 = .ok (.aload_n 0, 1) := tb_d tk_X7_noGate_1 0 (0, .aload_n 0, 1) rfl
theorem dX7_noGate_1 : decode cX7_noGate 1 = .ok (.getfield 25, 3) := tb_d tk_X7_noGate_1 1 (1, .getfield 25, 3) rfl
theorem dX7_noGate_4 : decode cX7_noGate 4 = .ok (.getfield 130, 3) := tb_d tk_X7_noGate_1 2 (4, .getfield 130, 3) rfl
theorem dX7_noGate_7 : decode cX7_noGate 7 = .ok (.ifCond .ne 7, 3) := tb_d tk_X7_noGate_1 3 (7, .ifCond .ne 7, 3) rfl
theorem dX7_noGate_10 : decode cX7_noGate 10 = .ok (.iconst 1, 1) := tb_d tk_X7_noGate_1 4 (10, .iconst 1, 1) rfl
theorem dX7_noGate_11 : decode cX7_noGate 11 = .ok (.goto 4, 3) := tb_d tk_X7_noGate_1 5 (11, .goto 4, 3) rfl
theorem dX7_noGate_14 : decode cX7_noGate 14 = .ok (.iconst 0, 1) := tb_d tk_X7_noGate_1 6 (14, .iconst 0, 1) rfl
theorem dX7_noGate_15 : decode cX7_noGate 15 = .ok (.ireturn, 1) := tb_d tk_X7_noGate_1 7 (15, .ireturn, 1) rfl
def tb_X7_isRow_1 : List (Nat × Instr × Nat) := [(0, .iload_n 1, 1), (1, .ifCond .lt 13, 3), (4, .iload_n 1, 1), (5, .bipush 8, 2), (7, .if_icmp .ge 7, 3), (10, .iconst 1, 1), (11, .goto 4, 3), (14, .iconst 0, 1), (15, .ireturn, 1)]
set_option maxRecDepth 100000 in
theorem tk_X7_isRow_1 : (tb_X7_isRow_1.all fun q => decide (decode cX7_isRow q.1 = .ok q.2)) = true := by decide +kernel
theorem dX7_isRow_0 : decode cX7_isRow 0 = .ok (.iload_n 1, 1) := tb_d tk_X7_isRow_1 0 (0, .iload_n 1, 1) rfl
theorem dX7_isRow_1 : decode cX7_isRow 1 = .ok (.ifCond .lt 13, 3) := tb_d tk_X7_isRow_1 1 (1, .ifCond .lt 13, 3) rfl
theorem dX7_isRow_4 : decode cX7_isRow 4 = .ok (.iload_n 1, 1) := tb_d tk_X7_isRow_1 2 (4, .iload_n 1, 1) rfl
theorem dX7_isRow_5 : decode cX7_isRow 5 = .ok (.bipush 8, 2) := tb_d tk_X7_isRow_1 3 (5, .bipush 8, 2) rfl
theorem dX7_isRow_7 : decode cX7_isRow 7 = .ok (.if_icmp .ge 7, 3) := tb_d tk_X7_isRow_1 4 (7, .if_icmp .ge 7, 3) rfl
theorem dX7_isRow_10 : decode cX7_isRow 10 = .ok (.iconst 1, 1) := tb_d tk_X7_isRow_1 5 (10, .iconst 1, 1) rfl
theorem dX7_isRow_11 : decode cX7_isRow 11 = .ok (.goto 4, 3) := tb_d tk_X7_isRow_1 6 (11, .goto 4, 3) rfl
theorem dX7_isRow_14 : decode cX7_isRow 14 = .ok (.iconst 0, 1) := tb_d tk_X7_isRow_1 7 (14, .iconst 0, 1) rfl
theorem dX7_isRow_15 : decode cX7_isRow 15 = .ok (.ireturn, 1) := tb_d tk_X7_isRow_1 8 (15, .ireturn, 1) rfl
def tb_X7_isWord_1 : List (Nat × Instr × Nat) := [(0, .iload_n 1, 1), (1, .ifCond .lt 18, 3), (4, .iload_n 1, 1), (5, .aload_n 0, 1), (6, .getfield 25, 3), (9, .getfield 130, 3), (12, .if_icmp .ge 7, 3), (15, .iconst 1, 1), (16, .goto 4, 3), (19, .iconst 0, 1), (20, .ireturn, 1)]
set_option maxRecDepth 100000 in
theorem tk_X7_isWord_1 : (tb_X7_isWord_1.all fun q => decide (decode cX7_isWord q.1 = .ok q.2)) = true := by decide +kernel
theorem dX7_isWord_0 : decode cX7_isWord 0 = .ok (.iload_n 1, 1) := tb_d tk_X7_isWord_1 0 (0, .iload_n 1, 1) rfl
theorem dX7_isWord_1 : decode cX7_isWord 1 = .ok (.ifCond .lt 18, 3) := tb_d tk_X7_isWord_1 1 (1, .ifCond .lt 18, 3) rfl
theorem dX7_isWord_4 : decode cX7_isWord 4 = .ok (.iload_n 1, 1) := tb_d tk_X7_isWord_1 2 (4, .iload_n 1, 1) rfl
theorem dX7_isWord_5 : decode cX7_isWord 5 = .ok (.aload_n 0, 1) := tb_d tk_X7_isWord_1 3 (5, .aload_n 0, 1) rfl
theorem dX7_isWord_6 : decode cX7_isWord 6 = .ok (.getfield 25, 3) := tb_d tk_X7_isWord_1 4 (6, .getfield 25, 3) rfl
theorem dX7_isWord_9 : decode cX7_isWord 9 = .ok (.getfield 130, 3) := tb_d tk_X7_isWord_1 5 (9, .getfield 130, 3) rfl
theorem dX7_isWord_12 : decode cX7_isWord 12 = .ok (.if_icmp .ge 7, 3) := tb_d tk_X7_isWord_1 6 (12, .if_icmp .ge 7, 3) rfl
theorem dX7_isWord_15 : decode cX7_isWord 15 = .ok (.iconst 1, 1) := tb_d tk_X7_isWord_1 7 (15, .iconst 1, 1) rfl
theorem dX7_isWord_16 : decode cX7_isWord 16 = .ok (.goto 4, 3) := tb_d tk_X7_isWord_1 8 (16, .goto 4, 3) rfl
theorem dX7_isWord_19 : decode cX7_isWord 19 = .ok (.iconst 0, 1) := tb_d tk_X7_isWord_1 9 (19, .iconst 0, 1) rfl
theorem dX7_isWord_20 : decode cX7_isWord 20 = .ok (.ireturn, 1) := tb_d tk_X7_isWord_1 10 (20, .ireturn, 1) rfl
def tb_X7_areWords_1 : List (Nat × Instr × Nat) := [(0, .iload_n 1, 1), (1, .ifCond .lt 20, 3), (4, .iload_n 1, 1), (5, .iconst 1, 1), (6, .aload_n 0, 1), (7, .getfield 25, 3), (10, .getfield 130, 3), (13, .ishl, 1), (14, .if_icmp .ge 7, 3), (17, .iconst 1, 1), (18, .goto 4, 3), (21, .iconst 0, 1), (22, .ireturn, 1)]
set_option maxRecDepth 100000 in
theorem tk_X7_areWords_1 : (tb_X7_areWords_1.all fun q => decide (decode cX7_areWords q.1 = .ok q.2)) = true := by decide +kernel
theorem dX7_areWords_0 : decode cX7_areWords 0 = .ok (.iload_n 1, 1) := tb_d tk_X7_areWords_1 0 (0, .iload_n 1, 1) rfl
theorem dX7_areWords_1 : decode cX7_areWords 1 = .ok (.ifCond .lt 20, 3) := tb_d tk_X7_areWords_1 1 (1, .ifCond .lt 20, 3) rfl
theorem dX7_areWords_4 : decode cX7_areWords 4 = .ok (.iload_n 1, 1) := tb_d tk_X7_areWords_1 2 (4, .iload_n 1, 1) rfl
theorem dX7_areWords_5 : decode cX7_areWords 5 = .ok (.iconst 1, 1) := tb_d tk_X7_areWords_1 3 (5, .iconst 1, 1) rfl
theorem dX7_areWords_6 : decode cX7_areWords 6 = .ok (.aload_n 0, 1) := tb_d tk_X7_areWords_1 4 (6, .aload_n 0, 1) rfl
theorem dX7_areWords_7 : decode cX7_areWords 7 = .ok (.getfield 25, 3) := tb_d tk_X7_areWords_1 5 (7, .getfield 25, 3) rfl
theorem dX7_areWords_10 : decode cX7_areWords 10 = .ok (.getfield 130, 3) := tb_d tk_X7_areWords_1 6 (10, .getfield 130, 3) rfl
theorem dX7_areWords_13 : decode cX7_areWords 13 = .ok (.ishl, 1) := tb_d tk_X7_areWords_1 7 (13, .ishl, 1) rfl
theorem dX7_areWords_14 : decode cX7_areWords 14 = .ok (.if_icmp .ge 7, 3) := tb_d tk_X7_areWords_1 8 (14, .if_icmp .ge 7, 3) rfl
theorem dX7_areWords_17 : decode cX7_areWords 17 = .ok (.iconst 1, 1) := tb_d tk_X7_areWords_1 9 (17, .iconst 1, 1) rfl
theorem dX7_areWords_18 : decode cX7_areWords 18 = .ok (.goto 4, 3) := tb_d tk_X7_areWords_1 10 (18, .goto 4, 3) rfl
theorem dX7_areWords_21 : decode cX7_areWords 21 = .ok (.iconst 0, 1) := tb_d tk_X7_areWords_1 11 (21, .iconst 0, 1) rfl
theorem dX7_areWords_22 : decode cX7_areWords 22 = .ok (.ireturn, 1) := tb_d tk_X7_areWords_1 12 (22, .ireturn, 1) rfl
def tb_X7_isGuard_1 : List (Nat × Instr × Nat) := [(0, .iload_n 1, 1), (1, .ifCond .lt 18, 3), (4, .iload_n 1, 1), (5, .aload_n 0, 1), (6, .getfield 25, 3), (9, .getfield 327, 3), (12, .if_icmp .ge 7, 3), (15, .iconst 1, 1), (16, .goto 4, 3), (19, .iconst 0, 1), (20, .ireturn, 1)]
set_option maxRecDepth 100000 in
theorem tk_X7_isGuard_1 : (tb_X7_isGuard_1.all fun q => decide (decode cX7_isGuard q.1 = .ok q.2)) = true := by decide +kernel
theorem dX7_isGuard_0 : decode cX7_isGuard 0 = .ok (.iload_n 1, 1) := tb_d tk_X7_isGuard_1 0 (0, .iload_n 1, 1) rfl
theorem dX7_isGuard_1 : decode cX7_isGuard 1 = .ok (.ifCond .lt 18, 3) := tb_d tk_X7_isGuard_1 1 (1, .ifCond .lt 18, 3) rfl
theorem dX7_isGuard_4 : decode cX7_isGuard 4 = .ok (.iload_n 1, 1) := tb_d tk_X7_isGuard_1 2 (4, .iload_n 1, 1) rfl
theorem dX7_isGuard_5 : decode cX7_isGuard 5 = .ok (.aload_n 0, 1) := tb_d tk_X7_isGuard_1 3 (5, .aload_n 0, 1) rfl
theorem dX7_isGuard_6 : decode cX7_isGuard 6 = .ok (.getfield 25, 3) := tb_d tk_X7_isGuard_1 4 (6, .getfield 25, 3) rfl
theorem dX7_isGuard_9 : decode cX7_isGuard 9 = .ok (.getfield 327, 3) := tb_d tk_X7_isGuard_1 5 (9, .getfield 327, 3) rfl
theorem dX7_isGuard_12 : decode cX7_isGuard 12 = .ok (.if_icmp .ge 7, 3) := tb_d tk_X7_isGuard_1 6 (12, .if_icmp .ge 7, 3) rfl
theorem dX7_isGuard_15 : decode cX7_isGuard 15 = .ok (.iconst 1, 1) := tb_d tk_X7_isGuard_1 7 (15, .iconst 1, 1) rfl
theorem dX7_isGuard_16 : decode cX7_isGuard 16 = .ok (.goto 4, 3) := tb_d tk_X7_isGuard_1 8 (16, .goto 4, 3) rfl
theorem dX7_isGuard_19 : decode cX7_isGuard 19 = .ok (.iconst 0, 1) := tb_d tk_X7_isGuard_1 9 (19, .iconst 0, 1) rfl
theorem dX7_isGuard_20 : decode cX7_isGuard 20 = .ok (.ireturn, 1) := tb_d tk_X7_isGuard_1 10 (20, .ireturn, 1) rfl
def tb_X7_isHour_1 : List (Nat × Instr × Nat) := [(0, .iload_n 1, 1), (1, .ifCond .lt 13, 3), (4, .iload_n 1, 1), (5, .bipush 6, 2), (7, .if_icmp .ge 7, 3), (10, .iconst 1, 1), (11, .goto 4, 3), (14, .iconst 0, 1), (15, .ireturn, 1)]
set_option maxRecDepth 100000 in
theorem tk_X7_isHour_1 : (tb_X7_isHour_1.all fun q => decide (decode cX7_isHour q.1 = .ok q.2)) = true := by decide +kernel
theorem dX7_isHour_0 : decode cX7_isHour 0 = .ok (.iload_n 1, 1) := tb_d tk_X7_isHour_1 0 (0, .iload_n 1, 1) rfl
theorem dX7_isHour_1 : decode cX7_isHour 1 = .ok (.ifCond .lt 13, 3) := tb_d tk_X7_isHour_1 1 (1, .ifCond .lt 13, 3) rfl
theorem dX7_isHour_4 : decode cX7_isHour 4 = .ok (.iload_n 1, 1) := tb_d tk_X7_isHour_1 2 (4, .iload_n 1, 1) rfl
theorem dX7_isHour_5 : decode cX7_isHour 5 = .ok (.bipush 6, 2) := tb_d tk_X7_isHour_1 3 (5, .bipush 6, 2) rfl
theorem dX7_isHour_7 : decode cX7_isHour 7 = .ok (.if_icmp .ge 7, 3) := tb_d tk_X7_isHour_1 4 (7, .if_icmp .ge 7, 3) rfl
theorem dX7_isHour_10 : decode cX7_isHour 10 = .ok (.iconst 1, 1) := tb_d tk_X7_isHour_1 5 (10, .iconst 1, 1) rfl
theorem dX7_isHour_11 : decode cX7_isHour 11 = .ok (.goto 4, 3) := tb_d tk_X7_isHour_1 6 (11, .goto 4, 3) rfl
theorem dX7_isHour_14 : decode cX7_isHour 14 = .ok (.iconst 0, 1) := tb_d tk_X7_isHour_1 7 (14, .iconst 0, 1) rfl
theorem dX7_isHour_15 : decode cX7_isHour 15 = .ok (.ireturn, 1) := tb_d tk_X7_isHour_1 8 (15, .ireturn, 1) rfl
def tb_X7_isAhead_1 : List (Nat × Instr × Nat) := [(0, .iload_n 1, 1), (1, .ifCond .lt 13, 3), (4, .iload_n 1, 1), (5, .bipush 60, 2), (7, .if_icmp .gt 7, 3), (10, .iconst 1, 1), (11, .goto 4, 3), (14, .iconst 0, 1), (15, .ireturn, 1)]
set_option maxRecDepth 100000 in
theorem tk_X7_isAhead_1 : (tb_X7_isAhead_1.all fun q => decide (decode cX7_isAhead q.1 = .ok q.2)) = true := by decide +kernel
theorem dX7_isAhead_0 : decode cX7_isAhead 0 = .ok (.iload_n 1, 1) := tb_d tk_X7_isAhead_1 0 (0, .iload_n 1, 1) rfl
theorem dX7_isAhead_1 : decode cX7_isAhead 1 = .ok (.ifCond .lt 13, 3) := tb_d tk_X7_isAhead_1 1 (1, .ifCond .lt 13, 3) rfl
theorem dX7_isAhead_4 : decode cX7_isAhead 4 = .ok (.iload_n 1, 1) := tb_d tk_X7_isAhead_1 2 (4, .iload_n 1, 1) rfl
theorem dX7_isAhead_5 : decode cX7_isAhead 5 = .ok (.bipush 60, 2) := tb_d tk_X7_isAhead_1 3 (5, .bipush 60, 2) rfl
theorem dX7_isAhead_7 : decode cX7_isAhead 7 = .ok (.if_icmp .gt 7, 3) := tb_d tk_X7_isAhead_1 4 (7, .if_icmp .gt 7, 3) rfl
theorem dX7_isAhead_10 : decode cX7_isAhead 10 = .ok (.iconst 1, 1) := tb_d tk_X7_isAhead_1 5 (10, .iconst 1, 1) rfl
theorem dX7_isAhead_11 : decode cX7_isAhead 11 = .ok (.goto 4, 3) := tb_d tk_X7_isAhead_1 6 (11, .goto 4, 3) rfl
theorem dX7_isAhead_14 : decode cX7_isAhead 14 = .ok (.iconst 0, 1) := tb_d tk_X7_isAhead_1 7 (14, .iconst 0, 1) rfl
theorem dX7_isAhead_15 : decode cX7_isAhead 15 = .ok (.ireturn, 1) := tb_d tk_X7_isAhead_1 8 (15, .ireturn, 1) rfl
def tb_X7_rowsThere_1 : List (Nat × Instr × Nat) := [(0, .iconst 0, 1), (1, .istore_n 1, 1), (2, .iconst 0, 1), (3, .istore_n 2, 1), (4, .iload_n 2, 1), (5, .bipush 8, 2), (7, .if_icmp .ge 25, 3), (10, .aload_n 0, 1), (11, .getfield 11, 3), (14, .iload_n 2, 1), (15, .aaload, 1), (16, .getfield 78, 3), (19, .iconst (-1), 1), (20, .if_icmp .eq 6, 3), (23, .iinc 1 1, 3), (26, .iinc 2 1, 3), (29, .goto (-25), 3), (32, .iload_n 1, 1), (33, .ireturn, 1)]
set_option maxRecDepth 100000 in
theorem tk_X7_rowsThere_1 : (tb_X7_rowsThere_1.all fun q => decide (decode cX7_rowsThere q.1 = .ok q.2)) = true := by decide +kernel
theorem dX7_rowsThere_0 : decode cX7_rowsThere 0 = .ok (.iconst 0, 1) := tb_d tk_X7_rowsThere_1 0 (0, .iconst 0, 1) rfl
theorem dX7_rowsThere_1 : decode cX7_rowsThere 1 = .ok (.istore_n 1, 1) := tb_d tk_X7_rowsThere_1 1 (1, .istore_n 1, 1) rfl
theorem dX7_rowsThere_2 : decode cX7_rowsThere 2 = .ok (.iconst 0, 1) := tb_d tk_X7_rowsThere_1 2 (2, .iconst 0, 1) rfl
theorem dX7_rowsThere_3 : decode cX7_rowsThere 3 = .ok (.istore_n 2, 1) := tb_d tk_X7_rowsThere_1 3 (3, .istore_n 2, 1) rfl
theorem dX7_rowsThere_4 : decode cX7_rowsThere 4 = .ok (.iload_n 2, 1) := tb_d tk_X7_rowsThere_1 4 (4, .iload_n 2, 1) rfl
theorem dX7_rowsThere_5 : decode cX7_rowsThere 5 = .ok (.bipush 8, 2) := tb_d tk_X7_rowsThere_1 5 (5, .bipush 8, 2) rfl
theorem dX7_rowsThere_7 : decode cX7_rowsThere 7 = .ok (.if_icmp .ge 25, 3) := tb_d tk_X7_rowsThere_1 6 (7, .if_icmp .ge 25, 3) rfl
theorem dX7_rowsThere_10 : decode cX7_rowsThere 10 = .ok (.aload_n 0, 1) := tb_d tk_X7_rowsThere_1 7 (10, .aload_n 0, 1) rfl
theorem dX7_rowsThere_11 : decode cX7_rowsThere 11 = .ok (.getfield 11, 3) := tb_d tk_X7_rowsThere_1 8 (11, .getfield 11, 3) rfl
theorem dX7_rowsThere_14 : decode cX7_rowsThere 14 = .ok (.iload_n 2, 1) := tb_d tk_X7_rowsThere_1 9 (14, .iload_n 2, 1) rfl
theorem dX7_rowsThere_15 : decode cX7_rowsThere 15 = .ok (.aaload, 1) := tb_d tk_X7_rowsThere_1 10 (15, .aaload, 1) rfl
theorem dX7_rowsThere_16 : decode cX7_rowsThere 16 = .ok (.getfield 78, 3) := tb_d tk_X7_rowsThere_1 11 (16, .getfield 78, 3) rfl
theorem dX7_rowsThere_19 : decode cX7_rowsThere 19 = .ok (.iconst (-1), 1) := tb_d tk_X7_rowsThere_1 12 (19, .iconst (-1), 1) rfl
theorem dX7_rowsThere_20 : decode cX7_rowsThere 20 = .ok (.if_icmp .eq 6, 3) := tb_d tk_X7_rowsThere_1 13 (20, .if_icmp .eq 6, 3) rfl
theorem dX7_rowsThere_23 : decode cX7_rowsThere 23 = .ok (.iinc 1 1, 3) := tb_d tk_X7_rowsThere_1 14 (23, .iinc 1 1, 3) rfl
theorem dX7_rowsThere_26 : decode cX7_rowsThere 26 = .ok (.iinc 2 1, 3) := tb_d tk_X7_rowsThere_1 15 (26, .iinc 2 1, 3) rfl
theorem dX7_rowsThere_29 : decode cX7_rowsThere 29 = .ok (.goto (-25), 3) := tb_d tk_X7_rowsThere_1 16 (29, .goto (-25), 3) rfl
theorem dX7_rowsThere_32 : decode cX7_rowsThere 32 = .ok (.iload_n 1, 1) := tb_d tk_X7_rowsThere_1 17 (32, .iload_n 1, 1) rfl
theorem dX7_rowsThere_33 : decode cX7_rowsThere 33 = .ok (.ireturn, 1) := tb_d tk_X7_rowsThere_1 18 (33, .ireturn, 1) rfl
set_option maxRecDepth 20000 in
theorem ggX7_hourOfLast_X7_isWord : GoodIn wsX7_hourOfLast wsX7_isWord := goodIn_r _ [8, 2, 9, 67, 68, 69, 70, 71, 72, 73, 74, 75, 76, 77, 78, 79, 80, 81, 82, 83] (by decide +kernel) (by decide +kernel)
set_option maxRecDepth 20000 in
theorem gX7_hourOfLast_X7_isWord : GoodIn wsX7_hourOfLast (wsV RX7 156 RX7 yX7_isWord wsX7_isWord) := goodIn_app (goodIn_of _ (by decide +kernel)) ggX7_hourOfLast_X7_isWord
set_option maxRecDepth 20000 in
theorem ggX7_hourOfLast_X2_hourIn : GoodIn wsX7_hourOfLast wsX2_hourIn := goodIn_r _ [14, 15, 16, 17, 18, 13, 19, 20, 21, 22, 23, 24, 25, 26, 27, 28, 29, 30, 31, 32, 33, 34, 7, 35, 36, 37, 38, 39, 40, 41, 42, 43, 44, 45, 46, 47, 48, 49, 50, 51, 52, 53, 54, 55, 56, 57, 58, 59, 60, 61, 62, 63, 76, 77, 78, 79, 80, 81, 82, 83, 84, 85, 86, 87, 88, 89, 90, 91] (by decide +kernel) (by decide +kernel)
set_option maxRecDepth 20000 in
theorem gX7_hourOfLast_X2_hourIn : GoodIn wsX7_hourOfLast (wsV RX7 337 RX2 yX2_hourIn wsX2_hourIn) := goodIn_app (goodIn_of _ (by decide +kernel)) ggX7_hourOfLast_X2_hourIn
def tb_X7_hourOfLast_1 : List (Nat × Instr × Nat) := [(0, .iconst (-1), 1), (1, .istore 4, 2), (3, .iconst 0, 1), (4, .istore 5, 2), (6, .iload 5, 2), (8, .iload_n 3, 1), (9, .if_icmp .ge 59, 3), (12, .aload_n 1, 1), (13, .getfield 86, 3), (16, .iload_n 2, 1), (17, .iload 5, 2), (19, .iadd, 1), (20, .iaload, 1), (21, .istore 6, 2), (23, .aload_n 0, 1), (24, .iload 6, 2), (26, .invokevirtual 156, 3), (29, .ifCond .eq 19, 3), (32, .aload_n 0, 1), (33, .getfield 25, 3), (36, .iload 6, 2), (38, .iload 4, 2), (40, .iconst 1, 1), (41, .iadd, 1), (42, .invokevirtual 337, 3), (45, .goto 5, 3), (48, .ldc 175, 2), (50, .istore 4, 2), (52, .iload 4, 2), (54, .ldc 175, 2), (56, .if_icmp .ne 6, 3), (59, .ldc 175, 2), (61, .ireturn, 1), (62, .iinc 5 1, 3), (65, .goto (-59), 3), (68, .iload 4, 2), (70, .ireturn, 1)]
set_option maxRecDepth 100000 in
theorem tk_X7_hourOfLast_1 : (tb_X7_hourOfLast_1.all fun q => decide (decode cX7_hourOfLast q.1 = .ok q.2)) = true := by decide +kernel
theorem dX7_hourOfLast_0 : decode cX7_hourOfLast 0 = .ok (.iconst (-1), 1) := tb_d tk_X7_hourOfLast_1 0 (0, .iconst (-1), 1) rfl
theorem dX7_hourOfLast_1 : decode cX7_hourOfLast 1 = .ok (.istore 4, 2) := tb_d tk_X7_hourOfLast_1 1 (1, .istore 4, 2) rfl
theorem dX7_hourOfLast_3 : decode cX7_hourOfLast 3 = .ok (.iconst 0, 1) := tb_d tk_X7_hourOfLast_1 2 (3, .iconst 0, 1) rfl
theorem dX7_hourOfLast_4 : decode cX7_hourOfLast 4 = .ok (.istore 5, 2) := tb_d tk_X7_hourOfLast_1 3 (4, .istore 5, 2) rfl
theorem dX7_hourOfLast_6 : decode cX7_hourOfLast 6 = .ok (.iload 5, 2) := tb_d tk_X7_hourOfLast_1 4 (6, .iload 5, 2) rfl
theorem dX7_hourOfLast_8 : decode cX7_hourOfLast 8 = .ok (.iload_n 3, 1) := tb_d tk_X7_hourOfLast_1 5 (8, .iload_n 3, 1) rfl
theorem dX7_hourOfLast_9 : decode cX7_hourOfLast 9 = .ok (.if_icmp .ge 59, 3) := tb_d tk_X7_hourOfLast_1 6 (9, .if_icmp .ge 59, 3) rfl
theorem dX7_hourOfLast_12 : decode cX7_hourOfLast 12 = .ok (.aload_n 1, 1) := tb_d tk_X7_hourOfLast_1 7 (12, .aload_n 1, 1) rfl
theorem dX7_hourOfLast_13 : decode cX7_hourOfLast 13 = .ok (.getfield 86, 3) := tb_d tk_X7_hourOfLast_1 8 (13, .getfield 86, 3) rfl
theorem dX7_hourOfLast_16 : decode cX7_hourOfLast 16 = .ok (.iload_n 2, 1) := tb_d tk_X7_hourOfLast_1 9 (16, .iload_n 2, 1) rfl
theorem dX7_hourOfLast_17 : decode cX7_hourOfLast 17 = .ok (.iload 5, 2) := tb_d tk_X7_hourOfLast_1 10 (17, .iload 5, 2) rfl
theorem dX7_hourOfLast_19 : decode cX7_hourOfLast 19 = .ok (.iadd, 1) := tb_d tk_X7_hourOfLast_1 11 (19, .iadd, 1) rfl
theorem dX7_hourOfLast_20 : decode cX7_hourOfLast 20 = .ok (.iaload, 1) := tb_d tk_X7_hourOfLast_1 12 (20, .iaload, 1) rfl
theorem dX7_hourOfLast_21 : decode cX7_hourOfLast 21 = .ok (.istore 6, 2) := tb_d tk_X7_hourOfLast_1 13 (21, .istore 6, 2) rfl
theorem dX7_hourOfLast_23 : decode cX7_hourOfLast 23 = .ok (.aload_n 0, 1) := tb_d tk_X7_hourOfLast_1 14 (23, .aload_n 0, 1) rfl
theorem dX7_hourOfLast_24 : decode cX7_hourOfLast 24 = .ok (.iload 6, 2) := tb_d tk_X7_hourOfLast_1 15 (24, .iload 6, 2) rfl
theorem dX7_hourOfLast_26 : decode cX7_hourOfLast 26 = .ok (.invokevirtual 156, 3) := tb_d tk_X7_hourOfLast_1 16 (26, .invokevirtual 156, 3) rfl
theorem dX7_hourOfLast_29 : decode cX7_hourOfLast 29 = .ok (.ifCond .eq 19, 3) := tb_d tk_X7_hourOfLast_1 17 (29, .ifCond .eq 19, 3) rfl
theorem dX7_hourOfLast_32 : decode cX7_hourOfLast 32 = .ok (.aload_n 0, 1) := tb_d tk_X7_hourOfLast_1 18 (32, .aload_n 0, 1) rfl
theorem dX7_hourOfLast_33 : decode cX7_hourOfLast 33 = .ok (.getfield 25, 3) := tb_d tk_X7_hourOfLast_1 19 (33, .getfield 25, 3) rfl
theorem dX7_hourOfLast_36 : decode cX7_hourOfLast 36 = .ok (.iload 6, 2) := tb_d tk_X7_hourOfLast_1 20 (36, .iload 6, 2) rfl
theorem dX7_hourOfLast_38 : decode cX7_hourOfLast 38 = .ok (.iload 4, 2) := tb_d tk_X7_hourOfLast_1 21 (38, .iload 4, 2) rfl
theorem dX7_hourOfLast_40 : decode cX7_hourOfLast 40 = .ok (.iconst 1, 1) := tb_d tk_X7_hourOfLast_1 22 (40, .iconst 1, 1) rfl
theorem dX7_hourOfLast_41 : decode cX7_hourOfLast 41 = .ok (.iadd, 1) := tb_d tk_X7_hourOfLast_1 23 (41, .iadd, 1) rfl
theorem dX7_hourOfLast_42 : decode cX7_hourOfLast 42 = .ok (.invokevirtual 337, 3) := tb_d tk_X7_hourOfLast_1 24 (42, .invokevirtual 337, 3) rfl
theorem dX7_hourOfLast_45 : decode cX7_hourOfLast 45 = .ok (.goto 5, 3) := tb_d tk_X7_hourOfLast_1 25 (45, .goto 5, 3) rfl
theorem dX7_hourOfLast_48 : decode cX7_hourOfLast 48 = .ok (.ldc 175, 2) := tb_d tk_X7_hourOfLast_1 26 (48, .ldc 175, 2) rfl
theorem dX7_hourOfLast_50 : decode cX7_hourOfLast 50 = .ok (.istore 4, 2) := tb_d tk_X7_hourOfLast_1 27 (50, .istore 4, 2) rfl
theorem dX7_hourOfLast_52 : decode cX7_hourOfLast 52 = .ok (.iload 4, 2) := tb_d tk_X7_hourOfLast_1 28 (52, .iload 4, 2) rfl
theorem dX7_hourOfLast_54 : decode cX7_hourOfLast 54 = .ok (.ldc 175, 2) := tb_d tk_X7_hourOfLast_1 29 (54, .ldc 175, 2) rfl
theorem dX7_hourOfLast_56 : decode cX7_hourOfLast 56 = .ok (.if_icmp .ne 6, 3) := tb_d tk_X7_hourOfLast_1 30 (56, .if_icmp .ne 6, 3) rfl
theorem dX7_hourOfLast_59 : decode cX7_hourOfLast 59 = .ok (.ldc 175, 2) := tb_d tk_X7_hourOfLast_1 31 (59, .ldc 175, 2) rfl
theorem dX7_hourOfLast_61 : decode cX7_hourOfLast 61 = .ok (.ireturn, 1) := tb_d tk_X7_hourOfLast_1 32 (61, .ireturn, 1) rfl
theorem dX7_hourOfLast_62 : decode cX7_hourOfLast 62 = .ok (.iinc 5 1, 3) := tb_d tk_X7_hourOfLast_1 33 (62, .iinc 5 1, 3) rfl
theorem dX7_hourOfLast_65 : decode cX7_hourOfLast 65 = .ok (.goto (-59), 3) := tb_d tk_X7_hourOfLast_1 34 (65, .goto (-59), 3) rfl
theorem dX7_hourOfLast_68 : decode cX7_hourOfLast 68 = .ok (.iload 4, 2) := tb_d tk_X7_hourOfLast_1 35 (68, .iload 4, 2) rfl
theorem dX7_hourOfLast_70 : decode cX7_hourOfLast 70 = .ok (.ireturn, 1) := tb_d tk_X7_hourOfLast_1 36 (70, .ireturn, 1) rfl
set_option maxRecDepth 20000 in
theorem ggX7_rulesThatTell_X2_secretBy : GoodIn wsX7_rulesThatTell wsX2_secretBy := goodIn_r _ [12, 13, 14, 15, 16, 29, 30, 31, 32, 33, 34, 35, 36] (by decide +kernel) (by decide +kernel)
set_option maxRecDepth 20000 in
theorem gX7_rulesThatTell_X2_secretBy : GoodIn wsX7_rulesThatTell (wsV RX7 346 RX2 yX2_secretBy wsX2_secretBy) := goodIn_app (goodIn_of _ (by decide +kernel)) ggX7_rulesThatTell_X2_secretBy
set_option maxRecDepth 20000 in
theorem ggX7_rulesThatTell_X7_bit : GoodIn wsX7_rulesThatTell wsX7_bit := goodIn_r _ [19] (by decide +kernel) (by decide +kernel)
set_option maxRecDepth 20000 in
theorem gX7_rulesThatTell_X7_bit : GoodIn wsX7_rulesThatTell (va_wsS RX7 180 yX7_bit wsX7_bit) := goodIn_app (goodIn_of _ (by decide +kernel)) ggX7_rulesThatTell_X7_bit
def tb_X7_rulesThatTell_1 : List (Nat × Instr × Nat) := [(0, .iload 4, 2), (2, .iconst 2, 1), (3, .if_icmp .ne 8, 3), (6, .bipush 6, 2), (8, .goto 16, 3), (11, .iload 4, 2), (13, .iconst 1, 1), (14, .if_icmp .ne 8, 3), (17, .bipush 9, 2), (19, .goto 5, 3), (22, .bipush 9, 2), (24, .istore 5, 2), (26, .iconst 0, 1), (27, .istore 6, 2), (29, .iconst 0, 1), (30, .istore 7, 2), (32, .iload 7, 2), (34, .iload 5, 2), (36, .if_icmp .gt 152, 3), (39, .iload 4, 2), (41, .ifCond .ne 8, 3), (44, .iload 7, 2), (46, .goto 13, 3), (49, .aload_n 0, 1), (50, .getfield 25, 3), (53, .getfield 137, 3), (56, .getfield 184, 3), (59, .istore 8, 2), (61, .iload 4, 2), (63, .iconst 1, 1), (64, .if_icmp .ne 8, 3), (67, .iload 7, 2), (69, .goto 10, 3), (72, .aload_n 0, 1), (73, .getfield 25, 3), (76, .getfield 340, 3), (79, .istore 9, 2), (81, .iload 4, 2), (83, .iconst 2, 1), (84, .if_icmp .ne 8, 3)]
set_option maxRecDepth 100000 in
theorem tk_X7_rulesThatTell_1 : (tb_X7_rulesThatTell_1.all fun q => decide (decode cX7_rulesThatTell q.1 = .ok q.2)) = true := by decide +kernel
theorem dX7_rulesThatTell_0 : decode cX7_rulesThatTell 0 = .ok (.iload 4, 2) := tb_d tk_X7_rulesThatTell_1 0 (0, .iload 4, 2) rfl
theorem dX7_rulesThatTell_2 : decode cX7_rulesThatTell 2 = .ok (.iconst 2, 1) := tb_d tk_X7_rulesThatTell_1 1 (2, .iconst 2, 1) rfl
theorem dX7_rulesThatTell_3 : decode cX7_rulesThatTell 3 = .ok (.if_icmp .ne 8, 3) := tb_d tk_X7_rulesThatTell_1 2 (3, .if_icmp .ne 8, 3) rfl
theorem dX7_rulesThatTell_6 : decode cX7_rulesThatTell 6 = .ok (.bipush 6, 2) := tb_d tk_X7_rulesThatTell_1 3 (6, .bipush 6, 2) rfl
theorem dX7_rulesThatTell_8 : decode cX7_rulesThatTell 8 = .ok (.goto 16, 3) := tb_d tk_X7_rulesThatTell_1 4 (8, .goto 16, 3) rfl
theorem dX7_rulesThatTell_11 : decode cX7_rulesThatTell 11 = .ok (.iload 4, 2) := tb_d tk_X7_rulesThatTell_1 5 (11, .iload 4, 2) rfl
theorem dX7_rulesThatTell_13 : decode cX7_rulesThatTell 13 = .ok (.iconst 1, 1) := tb_d tk_X7_rulesThatTell_1 6 (13, .iconst 1, 1) rfl
theorem dX7_rulesThatTell_14 : decode cX7_rulesThatTell 14 = .ok (.if_icmp .ne 8, 3) := tb_d tk_X7_rulesThatTell_1 7 (14, .if_icmp .ne 8, 3) rfl
theorem dX7_rulesThatTell_17 : decode cX7_rulesThatTell 17 = .ok (.bipush 9, 2) := tb_d tk_X7_rulesThatTell_1 8 (17, .bipush 9, 2) rfl
theorem dX7_rulesThatTell_19 : decode cX7_rulesThatTell 19 = .ok (.goto 5, 3) := tb_d tk_X7_rulesThatTell_1 9 (19, .goto 5, 3) rfl
theorem dX7_rulesThatTell_22 : decode cX7_rulesThatTell 22 = .ok (.bipush 9, 2) := tb_d tk_X7_rulesThatTell_1 10 (22, .bipush 9, 2) rfl
theorem dX7_rulesThatTell_24 : decode cX7_rulesThatTell 24 = .ok (.istore 5, 2) := tb_d tk_X7_rulesThatTell_1 11 (24, .istore 5, 2) rfl
theorem dX7_rulesThatTell_26 : decode cX7_rulesThatTell 26 = .ok (.iconst 0, 1) := tb_d tk_X7_rulesThatTell_1 12 (26, .iconst 0, 1) rfl
theorem dX7_rulesThatTell_27 : decode cX7_rulesThatTell 27 = .ok (.istore 6, 2) := tb_d tk_X7_rulesThatTell_1 13 (27, .istore 6, 2) rfl
theorem dX7_rulesThatTell_29 : decode cX7_rulesThatTell 29 = .ok (.iconst 0, 1) := tb_d tk_X7_rulesThatTell_1 14 (29, .iconst 0, 1) rfl
theorem dX7_rulesThatTell_30 : decode cX7_rulesThatTell 30 = .ok (.istore 7, 2) := tb_d tk_X7_rulesThatTell_1 15 (30, .istore 7, 2) rfl
theorem dX7_rulesThatTell_32 : decode cX7_rulesThatTell 32 = .ok (.iload 7, 2) := tb_d tk_X7_rulesThatTell_1 16 (32, .iload 7, 2) rfl
theorem dX7_rulesThatTell_34 : decode cX7_rulesThatTell 34 = .ok (.iload 5, 2) := tb_d tk_X7_rulesThatTell_1 17 (34, .iload 5, 2) rfl
theorem dX7_rulesThatTell_36 : decode cX7_rulesThatTell 36 = .ok (.if_icmp .gt 152, 3) := tb_d tk_X7_rulesThatTell_1 18 (36, .if_icmp .gt 152, 3) rfl
theorem dX7_rulesThatTell_39 : decode cX7_rulesThatTell 39 = .ok (.iload 4, 2) := tb_d tk_X7_rulesThatTell_1 19 (39, .iload 4, 2) rfl
theorem dX7_rulesThatTell_41 : decode cX7_rulesThatTell 41 = .ok (.ifCond .ne 8, 3) := tb_d tk_X7_rulesThatTell_1 20 (41, .ifCond .ne 8, 3) rfl
theorem dX7_rulesThatTell_44 : decode cX7_rulesThatTell 44 = .ok (.iload 7, 2) := tb_d tk_X7_rulesThatTell_1 21 (44, .iload 7, 2) rfl
theorem dX7_rulesThatTell_46 : decode cX7_rulesThatTell 46 = .ok (.goto 13, 3) := tb_d tk_X7_rulesThatTell_1 22 (46, .goto 13, 3) rfl
theorem dX7_rulesThatTell_49 : decode cX7_rulesThatTell 49 = .ok (.aload_n 0, 1) := tb_d tk_X7_rulesThatTell_1 23 (49, .aload_n 0, 1) rfl
theorem dX7_rulesThatTell_50 : decode cX7_rulesThatTell 50 = .ok (.getfield 25, 3) := tb_d tk_X7_rulesThatTell_1 24 (50, .getfield 25, 3) rfl
theorem dX7_rulesThatTell_53 : decode cX7_rulesThatTell 53 = .ok (.getfield 137, 3) := tb_d tk_X7_rulesThatTell_1 25 (53, .getfield 137, 3) rfl
theorem dX7_rulesThatTell_56 : decode cX7_rulesThatTell 56 = .ok (.getfield 184, 3) := tb_d tk_X7_rulesThatTell_1 26 (56, .getfield 184, 3) rfl
theorem dX7_rulesThatTell_59 : decode cX7_rulesThatTell 59 = .ok (.istore 8, 2) := tb_d tk_X7_rulesThatTell_1 27 (59, .istore 8, 2) rfl
theorem dX7_rulesThatTell_61 : decode cX7_rulesThatTell 61 = .ok (.iload 4, 2) := tb_d tk_X7_rulesThatTell_1 28 (61, .iload 4, 2) rfl
theorem dX7_rulesThatTell_63 : decode cX7_rulesThatTell 63 = .ok (.iconst 1, 1) := tb_d tk_X7_rulesThatTell_1 29 (63, .iconst 1, 1) rfl
theorem dX7_rulesThatTell_64 : decode cX7_rulesThatTell 64 = .ok (.if_icmp .ne 8, 3) := tb_d tk_X7_rulesThatTell_1 30 (64, .if_icmp .ne 8, 3) rfl
theorem dX7_rulesThatTell_67 : decode cX7_rulesThatTell 67 = .ok (.iload 7, 2) := tb_d tk_X7_rulesThatTell_1 31 (67, .iload 7, 2) rfl
theorem dX7_rulesThatTell_69 : decode cX7_rulesThatTell 69 = .ok (.goto 10, 3) := tb_d tk_X7_rulesThatTell_1 32 (69, .goto 10, 3) rfl
theorem dX7_rulesThatTell_72 : decode cX7_rulesThatTell 72 = .ok (.aload_n 0, 1) := tb_d tk_X7_rulesThatTell_1 33 (72, .aload_n 0, 1) rfl
theorem dX7_rulesThatTell_73 : decode cX7_rulesThatTell 73 = .ok (.getfield 25, 3) := tb_d tk_X7_rulesThatTell_1 34 (73, .getfield 25, 3) rfl
theorem dX7_rulesThatTell_76 : decode cX7_rulesThatTell 76 = .ok (.getfield 340, 3) := tb_d tk_X7_rulesThatTell_1 35 (76, .getfield 340, 3) rfl
theorem dX7_rulesThatTell_79 : decode cX7_rulesThatTell 79 = .ok (.istore 9, 2) := tb_d tk_X7_rulesThatTell_1 36 (79, .istore 9, 2) rfl
theorem dX7_rulesThatTell_81 : decode cX7_rulesThatTell 81 = .ok (.iload 4, 2) := tb_d tk_X7_rulesThatTell_1 37 (81, .iload 4, 2) rfl
theorem dX7_rulesThatTell_83 : decode cX7_rulesThatTell 83 = .ok (.iconst 2, 1) := tb_d tk_X7_rulesThatTell_1 38 (83, .iconst 2, 1) rfl
theorem dX7_rulesThatTell_84 : decode cX7_rulesThatTell 84 = .ok (.if_icmp .ne 8, 3) := tb_d tk_X7_rulesThatTell_1 39 (84, .if_icmp .ne 8, 3) rfl
def tb_X7_rulesThatTell_2 : List (Nat × Instr × Nat) := [(87, .iload 7, 2), (89, .goto 10, 3), (92, .aload_n 0, 1), (93, .getfield 25, 3), (96, .getfield 343, 3), (99, .istore 10, 2), (101, .iconst 1, 1), (102, .istore 11, 2), (104, .iconst 0, 1), (105, .istore 12, 2), (107, .iload 12, 2), (109, .iload_n 3, 1), (110, .if_icmp .ge 59, 3), (113, .iload 11, 2), (115, .ifCond .eq 54, 3), (118, .aload_n 0, 1), (119, .getfield 25, 3), (122, .iload 8, 2), (124, .iload 9, 2), (126, .iload 10, 2), (128, .aload_n 0, 1), (129, .getfield 25, 3), (132, .getfield 137, 3), (135, .getfield 141, 3), (138, .iload 12, 2), (140, .iadd, 1), (141, .invokevirtual 346, 3), (144, .aload_n 1, 1), (145, .getfield 86, 3), (148, .iload_n 2, 1), (149, .iload 12, 2), (151, .iadd, 1), (152, .iaload, 1), (153, .if_icmp .ne 7, 3), (156, .iconst 1, 1), (157, .goto 4, 3), (160, .iconst 0, 1), (161, .istore 11, 2), (163, .iinc 12 1, 3), (166, .goto (-59), 3)]
set_option maxRecDepth 100000 in
theorem tk_X7_rulesThatTell_2 : (tb_X7_rulesThatTell_2.all fun q => decide (decode cX7_rulesThatTell q.1 = .ok q.2)) = true := by decide +kernel
theorem dX7_rulesThatTell_87 : decode cX7_rulesThatTell 87 = .ok (.iload 7, 2) := tb_d tk_X7_rulesThatTell_2 0 (87, .iload 7, 2) rfl
theorem dX7_rulesThatTell_89 : decode cX7_rulesThatTell 89 = .ok (.goto 10, 3) := tb_d tk_X7_rulesThatTell_2 1 (89, .goto 10, 3) rfl
theorem dX7_rulesThatTell_92 : decode cX7_rulesThatTell 92 = .ok (.aload_n 0, 1) := tb_d tk_X7_rulesThatTell_2 2 (92, .aload_n 0, 1) rfl
theorem dX7_rulesThatTell_93 : decode cX7_rulesThatTell 93 = .ok (.getfield 25, 3) := tb_d tk_X7_rulesThatTell_2 3 (93, .getfield 25, 3) rfl
theorem dX7_rulesThatTell_96 : decode cX7_rulesThatTell 96 = .ok (.getfield 343, 3) := tb_d tk_X7_rulesThatTell_2 4 (96, .getfield 343, 3) rfl
theorem dX7_rulesThatTell_99 : decode cX7_rulesThatTell 99 = .ok (.istore 10, 2) := tb_d tk_X7_rulesThatTell_2 5 (99, .istore 10, 2) rfl
theorem dX7_rulesThatTell_101 : decode cX7_rulesThatTell 101 = .ok (.iconst 1, 1) := tb_d tk_X7_rulesThatTell_2 6 (101, .iconst 1, 1) rfl
theorem dX7_rulesThatTell_102 : decode cX7_rulesThatTell 102 = .ok (.istore 11, 2) := tb_d tk_X7_rulesThatTell_2 7 (102, .istore 11, 2) rfl
theorem dX7_rulesThatTell_104 : decode cX7_rulesThatTell 104 = .ok (.iconst 0, 1) := tb_d tk_X7_rulesThatTell_2 8 (104, .iconst 0, 1) rfl
theorem dX7_rulesThatTell_105 : decode cX7_rulesThatTell 105 = .ok (.istore 12, 2) := tb_d tk_X7_rulesThatTell_2 9 (105, .istore 12, 2) rfl
theorem dX7_rulesThatTell_107 : decode cX7_rulesThatTell 107 = .ok (.iload 12, 2) := tb_d tk_X7_rulesThatTell_2 10 (107, .iload 12, 2) rfl
theorem dX7_rulesThatTell_109 : decode cX7_rulesThatTell 109 = .ok (.iload_n 3, 1) := tb_d tk_X7_rulesThatTell_2 11 (109, .iload_n 3, 1) rfl
theorem dX7_rulesThatTell_110 : decode cX7_rulesThatTell 110 = .ok (.if_icmp .ge 59, 3) := tb_d tk_X7_rulesThatTell_2 12 (110, .if_icmp .ge 59, 3) rfl
theorem dX7_rulesThatTell_113 : decode cX7_rulesThatTell 113 = .ok (.iload 11, 2) := tb_d tk_X7_rulesThatTell_2 13 (113, .iload 11, 2) rfl
theorem dX7_rulesThatTell_115 : decode cX7_rulesThatTell 115 = .ok (.ifCond .eq 54, 3) := tb_d tk_X7_rulesThatTell_2 14 (115, .ifCond .eq 54, 3) rfl
theorem dX7_rulesThatTell_118 : decode cX7_rulesThatTell 118 = .ok (.aload_n 0, 1) := tb_d tk_X7_rulesThatTell_2 15 (118, .aload_n 0, 1) rfl
theorem dX7_rulesThatTell_119 : decode cX7_rulesThatTell 119 = .ok (.getfield 25, 3) := tb_d tk_X7_rulesThatTell_2 16 (119, .getfield 25, 3) rfl
theorem dX7_rulesThatTell_122 : decode cX7_rulesThatTell 122 = .ok (.iload 8, 2) := tb_d tk_X7_rulesThatTell_2 17 (122, .iload 8, 2) rfl
theorem dX7_rulesThatTell_124 : decode cX7_rulesThatTell 124 = .ok (.iload 9, 2) := tb_d tk_X7_rulesThatTell_2 18 (124, .iload 9, 2) rfl
theorem dX7_rulesThatTell_126 : decode cX7_rulesThatTell 126 = .ok (.iload 10, 2) := tb_d tk_X7_rulesThatTell_2 19 (126, .iload 10, 2) rfl
theorem dX7_rulesThatTell_128 : decode cX7_rulesThatTell 128 = .ok (.aload_n 0, 1) := tb_d tk_X7_rulesThatTell_2 20 (128, .aload_n 0, 1) rfl
theorem dX7_rulesThatTell_129 : decode cX7_rulesThatTell 129 = .ok (.getfield 25, 3) := tb_d tk_X7_rulesThatTell_2 21 (129, .getfield 25, 3) rfl
theorem dX7_rulesThatTell_132 : decode cX7_rulesThatTell 132 = .ok (.getfield 137, 3) := tb_d tk_X7_rulesThatTell_2 22 (132, .getfield 137, 3) rfl
theorem dX7_rulesThatTell_135 : decode cX7_rulesThatTell 135 = .ok (.getfield 141, 3) := tb_d tk_X7_rulesThatTell_2 23 (135, .getfield 141, 3) rfl
theorem dX7_rulesThatTell_138 : decode cX7_rulesThatTell 138 = .ok (.iload 12, 2) := tb_d tk_X7_rulesThatTell_2 24 (138, .iload 12, 2) rfl
theorem dX7_rulesThatTell_140 : decode cX7_rulesThatTell 140 = .ok (.iadd, 1) := tb_d tk_X7_rulesThatTell_2 25 (140, .iadd, 1) rfl
theorem dX7_rulesThatTell_141 : decode cX7_rulesThatTell 141 = .ok (.invokevirtual 346, 3) := tb_d tk_X7_rulesThatTell_2 26 (141, .invokevirtual 346, 3) rfl
theorem dX7_rulesThatTell_144 : decode cX7_rulesThatTell 144 = .ok (.aload_n 1, 1) := tb_d tk_X7_rulesThatTell_2 27 (144, .aload_n 1, 1) rfl
theorem dX7_rulesThatTell_145 : decode cX7_rulesThatTell 145 = .ok (.getfield 86, 3) := tb_d tk_X7_rulesThatTell_2 28 (145, .getfield 86, 3) rfl
theorem dX7_rulesThatTell_148 : decode cX7_rulesThatTell 148 = .ok (.iload_n 2, 1) := tb_d tk_X7_rulesThatTell_2 29 (148, .iload_n 2, 1) rfl
theorem dX7_rulesThatTell_149 : decode cX7_rulesThatTell 149 = .ok (.iload 12, 2) := tb_d tk_X7_rulesThatTell_2 30 (149, .iload 12, 2) rfl
theorem dX7_rulesThatTell_151 : decode cX7_rulesThatTell 151 = .ok (.iadd, 1) := tb_d tk_X7_rulesThatTell_2 31 (151, .iadd, 1) rfl
theorem dX7_rulesThatTell_152 : decode cX7_rulesThatTell 152 = .ok (.iaload, 1) := tb_d tk_X7_rulesThatTell_2 32 (152, .iaload, 1) rfl
theorem dX7_rulesThatTell_153 : decode cX7_rulesThatTell 153 = .ok (.if_icmp .ne 7, 3) := tb_d tk_X7_rulesThatTell_2 33 (153, .if_icmp .ne 7, 3) rfl
theorem dX7_rulesThatTell_156 : decode cX7_rulesThatTell 156 = .ok (.iconst 1, 1) := tb_d tk_X7_rulesThatTell_2 34 (156, .iconst 1, 1) rfl
theorem dX7_rulesThatTell_157 : decode cX7_rulesThatTell 157 = .ok (.goto 4, 3) := tb_d tk_X7_rulesThatTell_2 35 (157, .goto 4, 3) rfl
theorem dX7_rulesThatTell_160 : decode cX7_rulesThatTell 160 = .ok (.iconst 0, 1) := tb_d tk_X7_rulesThatTell_2 36 (160, .iconst 0, 1) rfl
theorem dX7_rulesThatTell_161 : decode cX7_rulesThatTell 161 = .ok (.istore 11, 2) := tb_d tk_X7_rulesThatTell_2 37 (161, .istore 11, 2) rfl
theorem dX7_rulesThatTell_163 : decode cX7_rulesThatTell 163 = .ok (.iinc 12 1, 3) := tb_d tk_X7_rulesThatTell_2 38 (163, .iinc 12 1, 3) rfl
theorem dX7_rulesThatTell_166 : decode cX7_rulesThatTell 166 = .ok (.goto (-59), 3) := tb_d tk_X7_rulesThatTell_2 39 (166, .goto (-59), 3) rfl
def tb_X7_rulesThatTell_3 : List (Nat × Instr × Nat) := [(169, .iload 6, 2), (171, .iload 11, 2), (173, .invokestatic 180, 3), (176, .iload 7, 2), (178, .ishl, 1), (179, .ior, 1), (180, .istore 6, 2), (182, .iinc 7 1, 3), (185, .goto (-153), 3), (188, .iload 6, 2), (190, .ireturn, 1)]
set_option maxRecDepth 100000 in
theorem tk_X7_rulesThatTell_3 : (tb_X7_rulesThatTell_3.all fun q => decide (decode cX7_rulesThatTell q.1 = .ok q.2)) = true := by decide +kernel
theorem dX7_rulesThatTell_169 : decode cX7_rulesThatTell 169 = .ok (.iload 6, 2) := tb_d tk_X7_rulesThatTell_3 0 (169, .iload 6, 2) rfl
theorem dX7_rulesThatTell_171 : decode cX7_rulesThatTell 171 = .ok (.iload 11, 2) := tb_d tk_X7_rulesThatTell_3 1 (171, .iload 11, 2) rfl
theorem dX7_rulesThatTell_173 : decode cX7_rulesThatTell 173 = .ok (.invokestatic 180, 3) := tb_d tk_X7_rulesThatTell_3 2 (173, .invokestatic 180, 3) rfl
theorem dX7_rulesThatTell_176 : decode cX7_rulesThatTell 176 = .ok (.iload 7, 2) := tb_d tk_X7_rulesThatTell_3 3 (176, .iload 7, 2) rfl
theorem dX7_rulesThatTell_178 : decode cX7_rulesThatTell 178 = .ok (.ishl, 1) := tb_d tk_X7_rulesThatTell_3 4 (178, .ishl, 1) rfl
theorem dX7_rulesThatTell_179 : decode cX7_rulesThatTell 179 = .ok (.ior, 1) := tb_d tk_X7_rulesThatTell_3 5 (179, .ior, 1) rfl
theorem dX7_rulesThatTell_180 : decode cX7_rulesThatTell 180 = .ok (.istore 6, 2) := tb_d tk_X7_rulesThatTell_3 6 (180, .istore 6, 2) rfl
theorem dX7_rulesThatTell_182 : decode cX7_rulesThatTell 182 = .ok (.iinc 7 1, 3) := tb_d tk_X7_rulesThatTell_3 7 (182, .iinc 7 1, 3) rfl
theorem dX7_rulesThatTell_185 : decode cX7_rulesThatTell 185 = .ok (.goto (-153), 3) := tb_d tk_X7_rulesThatTell_3 8 (185, .goto (-153), 3) rfl
theorem dX7_rulesThatTell_188 : decode cX7_rulesThatTell 188 = .ok (.iload 6, 2) := tb_d tk_X7_rulesThatTell_3 9 (188, .iload 6, 2) rfl
theorem dX7_rulesThatTell_190 : decode cX7_rulesThatTell 190 = .ok (.ireturn, 1) := tb_d tk_X7_rulesThatTell_3 10 (190, .ireturn, 1) rfl
set_option maxRecDepth 20000 in
theorem ggX7_kindsThatFit_X2_secretIn : GoodIn wsX7_kindsThatFit wsX2_secretIn := goodIn_r _ [6, 7, 8, 9, 10, 11, 12, 13, 14, 5, 15, 16, 17, 18, 19, 53, 54, 55, 56, 57, 58, 59, 60, 61, 62, 63, 64, 65, 66, 67, 68] (by decide +kernel) (by decide +kernel)
set_option maxRecDepth 20000 in
theorem gX7_kindsThatFit_X2_secretIn : GoodIn wsX7_kindsThatFit (wsV RX7 153 RX2 yX2_secretIn wsX2_secretIn) := goodIn_app (goodIn_of _ (by decide +kernel)) ggX7_kindsThatFit_X2_secretIn
set_option maxRecDepth 20000 in
theorem ggX7_kindsThatFit_X7_fitsTold : GoodIn wsX7_kindsThatFit wsX7_fitsTold := goodIn_r _ [23, 1, 24, 25, 26, 27, 28, 29, 30, 5, 31, 32, 33, 34, 35, 36, 37, 38, 39, 40, 41, 42, 18, 43, 44, 45, 46, 47, 48, 49, 50, 51, 52, 53, 54, 55, 56, 57, 58, 59, 60, 61, 62, 63, 64, 65, 66, 67, 68, 69, 70, 71] (by decide +kernel) (by decide +kernel)
set_option maxRecDepth 20000 in
theorem gX7_kindsThatFit_X7_fitsTold : GoodIn wsX7_kindsThatFit (wsV RX7 350 RX7 yX7_fitsTold wsX7_fitsTold) := goodIn_app (goodIn_of _ (by decide +kernel)) ggX7_kindsThatFit_X7_fitsTold
set_option maxRecDepth 20000 in
theorem ggX7_kindsThatFit_X7_bit : GoodIn wsX7_kindsThatFit wsX7_bit := goodIn_r _ [43] (by decide +kernel) (by decide +kernel)
set_option maxRecDepth 20000 in
theorem gX7_kindsThatFit_X7_bit : GoodIn wsX7_kindsThatFit (va_wsS RX7 180 yX7_bit wsX7_bit) := goodIn_app (goodIn_of _ (by decide +kernel)) ggX7_kindsThatFit_X7_bit
def tb_X7_kindsThatFit_1 : List (Nat × Instr × Nat) := [(0, .aload_n 0, 1), (1, .getfield 25, 3), (4, .iconst 0, 1), (5, .invokevirtual 153, 3), (8, .istore_n 3, 1), (9, .iconst 0, 1), (10, .istore 4, 2), (12, .iconst 1, 1), (13, .istore 5, 2), (15, .iload 5, 2), (17, .iconst 5, 1), (18, .if_icmp .gt 29, 3), (21, .iload 4, 2), (23, .aload_n 0, 1), (24, .iload 5, 2), (26, .iload_n 3, 1), (27, .aload_n 1, 1), (28, .iload_n 2, 1), (29, .invokevirtual 350, 3), (32, .invokestatic 180, 3), (35, .iload 5, 2), (37, .ishl, 1), (38, .ior, 1), (39, .istore 4, 2), (41, .iinc 5 1, 3), (44, .goto (-29), 3), (47, .iload 4, 2), (49, .ireturn, 1)]
set_option maxRecDepth 100000 in
theorem tk_X7_kindsThatFit_1 : (tb_X7_kindsThatFit_1.all fun q => decide (decode cX7_kindsThatFit q.1 = .ok q.2)) = true := by decide +kernel
theorem dX7_kindsThatFit_0 : decode cX7_kindsThatFit 0 = .ok (.aload_n 0, 1) := tb_d tk_X7_kindsThatFit_1 0 (0, .aload_n 0, 1) rfl
theorem dX7_kindsThatFit_1 : decode cX7_kindsThatFit 1 = .ok (.getfield 25, 3) := tb_d tk_X7_kindsThatFit_1 1 (1, .getfield 25, 3) rfl
theorem dX7_kindsThatFit_4 : decode cX7_kindsThatFit 4 = .ok (.iconst 0, 1) := tb_d tk_X7_kindsThatFit_1 2 (4, .iconst 0, 1) rfl
theorem dX7_kindsThatFit_5 : decode cX7_kindsThatFit 5 = .ok (.invokevirtual 153, 3) := tb_d tk_X7_kindsThatFit_1 3 (5, .invokevirtual 153, 3) rfl
theorem dX7_kindsThatFit_8 : decode cX7_kindsThatFit 8 = .ok (.istore_n 3, 1) := tb_d tk_X7_kindsThatFit_1 4 (8, .istore_n 3, 1) rfl
theorem dX7_kindsThatFit_9 : decode cX7_kindsThatFit 9 = .ok (.iconst 0, 1) := tb_d tk_X7_kindsThatFit_1 5 (9, .iconst 0, 1) rfl
theorem dX7_kindsThatFit_10 : decode cX7_kindsThatFit 10 = .ok (.istore 4, 2) := tb_d tk_X7_kindsThatFit_1 6 (10, .istore 4, 2) rfl
theorem dX7_kindsThatFit_12 : decode cX7_kindsThatFit 12 = .ok (.iconst 1, 1) := tb_d tk_X7_kindsThatFit_1 7 (12, .iconst 1, 1) rfl
theorem dX7_kindsThatFit_13 : decode cX7_kindsThatFit 13 = .ok (.istore 5, 2) := tb_d tk_X7_kindsThatFit_1 8 (13, .istore 5, 2) rfl
theorem dX7_kindsThatFit_15 : decode cX7_kindsThatFit 15 = .ok (.iload 5, 2) := tb_d tk_X7_kindsThatFit_1 9 (15, .iload 5, 2) rfl
theorem dX7_kindsThatFit_17 : decode cX7_kindsThatFit 17 = .ok (.iconst 5, 1) := tb_d tk_X7_kindsThatFit_1 10 (17, .iconst 5, 1) rfl
theorem dX7_kindsThatFit_18 : decode cX7_kindsThatFit 18 = .ok (.if_icmp .gt 29, 3) := tb_d tk_X7_kindsThatFit_1 11 (18, .if_icmp .gt 29, 3) rfl
theorem dX7_kindsThatFit_21 : decode cX7_kindsThatFit 21 = .ok (.iload 4, 2) := tb_d tk_X7_kindsThatFit_1 12 (21, .iload 4, 2) rfl
theorem dX7_kindsThatFit_23 : decode cX7_kindsThatFit 23 = .ok (.aload_n 0, 1) := tb_d tk_X7_kindsThatFit_1 13 (23, .aload_n 0, 1) rfl
theorem dX7_kindsThatFit_24 : decode cX7_kindsThatFit 24 = .ok (.iload 5, 2) := tb_d tk_X7_kindsThatFit_1 14 (24, .iload 5, 2) rfl
theorem dX7_kindsThatFit_26 : decode cX7_kindsThatFit 26 = .ok (.iload_n 3, 1) := tb_d tk_X7_kindsThatFit_1 15 (26, .iload_n 3, 1) rfl
theorem dX7_kindsThatFit_27 : decode cX7_kindsThatFit 27 = .ok (.aload_n 1, 1) := tb_d tk_X7_kindsThatFit_1 16 (27, .aload_n 1, 1) rfl
theorem dX7_kindsThatFit_28 : decode cX7_kindsThatFit 28 = .ok (.iload_n 2, 1) := tb_d tk_X7_kindsThatFit_1 17 (28, .iload_n 2, 1) rfl
theorem dX7_kindsThatFit_29 : decode cX7_kindsThatFit 29 = .ok (.invokevirtual 350, 3) := tb_d tk_X7_kindsThatFit_1 18 (29, .invokevirtual 350, 3) rfl
theorem dX7_kindsThatFit_32 : decode cX7_kindsThatFit 32 = .ok (.invokestatic 180, 3) := tb_d tk_X7_kindsThatFit_1 19 (32, .invokestatic 180, 3) rfl
theorem dX7_kindsThatFit_35 : decode cX7_kindsThatFit 35 = .ok (.iload 5, 2) := tb_d tk_X7_kindsThatFit_1 20 (35, .iload 5, 2) rfl
theorem dX7_kindsThatFit_37 : decode cX7_kindsThatFit 37 = .ok (.ishl, 1) := tb_d tk_X7_kindsThatFit_1 21 (37, .ishl, 1) rfl
theorem dX7_kindsThatFit_38 : decode cX7_kindsThatFit 38 = .ok (.ior, 1) := tb_d tk_X7_kindsThatFit_1 22 (38, .ior, 1) rfl
theorem dX7_kindsThatFit_39 : decode cX7_kindsThatFit 39 = .ok (.istore 4, 2) := tb_d tk_X7_kindsThatFit_1 23 (39, .istore 4, 2) rfl
theorem dX7_kindsThatFit_41 : decode cX7_kindsThatFit 41 = .ok (.iinc 5 1, 3) := tb_d tk_X7_kindsThatFit_1 24 (41, .iinc 5 1, 3) rfl
theorem dX7_kindsThatFit_44 : decode cX7_kindsThatFit 44 = .ok (.goto (-29), 3) := tb_d tk_X7_kindsThatFit_1 25 (44, .goto (-29), 3) rfl
theorem dX7_kindsThatFit_47 : decode cX7_kindsThatFit 47 = .ok (.iload 4, 2) := tb_d tk_X7_kindsThatFit_1 26 (47, .iload 4, 2) rfl
theorem dX7_kindsThatFit_49 : decode cX7_kindsThatFit 49 = .ok (.ireturn, 1) := tb_d tk_X7_kindsThatFit_1 27 (49, .ireturn, 1) rfl
set_option maxRecDepth 20000 in
theorem ggX7_secretsThatFit_X7_fitsTold : GoodIn wsX7_secretsThatFit wsX7_fitsTold := goodIn_r _ [7, 1, 2, 8, 9, 10, 11, 12, 13, 14, 15, 16, 17, 18, 19, 20, 21, 22, 23, 24, 25, 26, 6, 27, 28, 29, 30, 31, 32, 33, 34, 35, 36, 37, 38, 39, 40, 41, 42, 43, 44, 45, 46, 47, 48, 49, 50, 51, 52, 53, 54, 55] (by decide +kernel) (by decide +kernel)
set_option maxRecDepth 20000 in
theorem gX7_secretsThatFit_X7_fitsTold : GoodIn wsX7_secretsThatFit (wsV RX7 350 RX7 yX7_fitsTold wsX7_fitsTold) := goodIn_app (goodIn_of _ (by decide +kernel)) ggX7_secretsThatFit_X7_fitsTold
set_option maxRecDepth 20000 in
theorem ggX7_secretsThatFit_X7_bit : GoodIn wsX7_secretsThatFit wsX7_bit := goodIn_r _ [27] (by decide +kernel) (by decide +kernel)
set_option maxRecDepth 20000 in
theorem gX7_secretsThatFit_X7_bit : GoodIn wsX7_secretsThatFit (va_wsS RX7 180 yX7_bit wsX7_bit) := goodIn_app (goodIn_of _ (by decide +kernel)) ggX7_secretsThatFit_X7_bit
def tb_X7_secretsThatFit_1 : List (Nat × Instr × Nat) := [(0, .iconst 0, 1), (1, .istore 4, 2), (3, .iconst 0, 1), (4, .istore 5, 2), (6, .iload 5, 2), (8, .aload_n 0, 1), (9, .getfield 25, 3), (12, .getfield 130, 3), (15, .if_icmp .ge 29, 3), (18, .iload 4, 2), (20, .aload_n 0, 1), (21, .iload_n 1, 1), (22, .iload 5, 2), (24, .aload_n 2, 1), (25, .iload_n 3, 1), (26, .invokevirtual 350, 3), (29, .invokestatic 180, 3), (32, .iload 5, 2), (34, .ishl, 1), (35, .ior, 1), (36, .istore 4, 2), (38, .iinc 5 1, 3), (41, .goto (-35), 3), (44, .iload 4, 2), (46, .ireturn, 1)]
set_option maxRecDepth 100000 in
theorem tk_X7_secretsThatFit_1 : (tb_X7_secretsThatFit_1.all fun q => decide (decode cX7_secretsThatFit q.1 = .ok q.2)) = true := by decide +kernel
theorem dX7_secretsThatFit_0 : decode cX7_secretsThatFit 0 = .ok (.iconst 0, 1) := tb_d tk_X7_secretsThatFit_1 0 (0, .iconst 0, 1) rfl
theorem dX7_secretsThatFit_1 : decode cX7_secretsThatFit 1 = .ok (.istore 4, 2) := tb_d tk_X7_secretsThatFit_1 1 (1, .istore 4, 2) rfl
theorem dX7_secretsThatFit_3 : decode cX7_secretsThatFit 3 = .ok (.iconst 0, 1) := tb_d tk_X7_secretsThatFit_1 2 (3, .iconst 0, 1) rfl
theorem dX7_secretsThatFit_4 : decode cX7_secretsThatFit 4 = .ok (.istore 5, 2) := tb_d tk_X7_secretsThatFit_1 3 (4, .istore 5, 2) rfl
theorem dX7_secretsThatFit_6 : decode cX7_secretsThatFit 6 = .ok (.iload 5, 2) := tb_d tk_X7_secretsThatFit_1 4 (6, .iload 5, 2) rfl
theorem dX7_secretsThatFit_8 : decode cX7_secretsThatFit 8 = .ok (.aload_n 0, 1) := tb_d tk_X7_secretsThatFit_1 5 (8, .aload_n 0, 1) rfl
theorem dX7_secretsThatFit_9 : decode cX7_secretsThatFit 9 = .ok (.getfield 25, 3) := tb_d tk_X7_secretsThatFit_1 6 (9, .getfield 25, 3) rfl
theorem dX7_secretsThatFit_12 : decode cX7_secretsThatFit 12 = .ok (.getfield 130, 3) := tb_d tk_X7_secretsThatFit_1 7 (12, .getfield 130, 3) rfl
theorem dX7_secretsThatFit_15 : decode cX7_secretsThatFit 15 = .ok (.if_icmp .ge 29, 3) := tb_d tk_X7_secretsThatFit_1 8 (15, .if_icmp .ge 29, 3) rfl
theorem dX7_secretsThatFit_18 : decode cX7_secretsThatFit 18 = .ok (.iload 4, 2) := tb_d tk_X7_secretsThatFit_1 9 (18, .iload 4, 2) rfl
theorem dX7_secretsThatFit_20 : decode cX7_secretsThatFit 20 = .ok (.aload_n 0, 1) := tb_d tk_X7_secretsThatFit_1 10 (20, .aload_n 0, 1) rfl
theorem dX7_secretsThatFit_21 : decode cX7_secretsThatFit 21 = .ok (.iload_n 1, 1) := tb_d tk_X7_secretsThatFit_1 11 (21, .iload_n 1, 1) rfl
theorem dX7_secretsThatFit_22 : decode cX7_secretsThatFit 22 = .ok (.iload 5, 2) := tb_d tk_X7_secretsThatFit_1 12 (22, .iload 5, 2) rfl
theorem dX7_secretsThatFit_24 : decode cX7_secretsThatFit 24 = .ok (.aload_n 2, 1) := tb_d tk_X7_secretsThatFit_1 13 (24, .aload_n 2, 1) rfl
theorem dX7_secretsThatFit_25 : decode cX7_secretsThatFit 25 = .ok (.iload_n 3, 1) := tb_d tk_X7_secretsThatFit_1 14 (25, .iload_n 3, 1) rfl
theorem dX7_secretsThatFit_26 : decode cX7_secretsThatFit 26 = .ok (.invokevirtual 350, 3) := tb_d tk_X7_secretsThatFit_1 15 (26, .invokevirtual 350, 3) rfl
theorem dX7_secretsThatFit_29 : decode cX7_secretsThatFit 29 = .ok (.invokestatic 180, 3) := tb_d tk_X7_secretsThatFit_1 16 (29, .invokestatic 180, 3) rfl
theorem dX7_secretsThatFit_32 : decode cX7_secretsThatFit 32 = .ok (.iload 5, 2) := tb_d tk_X7_secretsThatFit_1 17 (32, .iload 5, 2) rfl
theorem dX7_secretsThatFit_34 : decode cX7_secretsThatFit 34 = .ok (.ishl, 1) := tb_d tk_X7_secretsThatFit_1 18 (34, .ishl, 1) rfl
theorem dX7_secretsThatFit_35 : decode cX7_secretsThatFit 35 = .ok (.ior, 1) := tb_d tk_X7_secretsThatFit_1 19 (35, .ior, 1) rfl
theorem dX7_secretsThatFit_36 : decode cX7_secretsThatFit 36 = .ok (.istore 4, 2) := tb_d tk_X7_secretsThatFit_1 20 (36, .istore 4, 2) rfl
theorem dX7_secretsThatFit_38 : decode cX7_secretsThatFit 38 = .ok (.iinc 5 1, 3) := tb_d tk_X7_secretsThatFit_1 21 (38, .iinc 5 1, 3) rfl
theorem dX7_secretsThatFit_41 : decode cX7_secretsThatFit 41 = .ok (.goto (-35), 3) := tb_d tk_X7_secretsThatFit_1 22 (41, .goto (-35), 3) rfl
theorem dX7_secretsThatFit_44 : decode cX7_secretsThatFit 44 = .ok (.iload 4, 2) := tb_d tk_X7_secretsThatFit_1 23 (44, .iload 4, 2) rfl
theorem dX7_secretsThatFit_46 : decode cX7_secretsThatFit 46 = .ok (.ireturn, 1) := tb_d tk_X7_secretsThatFit_1 24 (46, .ireturn, 1) rfl
set_option maxRecDepth 20000 in
theorem ggX7_fitsTold_X2_wouldTake : GoodIn wsX7_fitsTold wsX2_wouldTake := goodIn_r _ [10, 11, 12, 13, 9, 14, 15, 16, 17, 18, 19, 33, 34, 35, 36, 37, 38, 39, 40] (by decide +kernel) (by decide +kernel)
set_option maxRecDepth 20000 in
theorem gX7_fitsTold_X2_wouldTake : GoodIn wsX7_fitsTold (wsV RX7 354 RX2 yX2_wouldTake wsX2_wouldTake) := goodIn_app (goodIn_of _ (by decide +kernel)) ggX7_fitsTold_X2_wouldTake
set_option maxRecDepth 20000 in
theorem ggX7_fitsTold_X7_bit : GoodIn wsX7_fitsTold wsX7_bit := goodIn_r _ [23] (by decide +kernel) (by decide +kernel)
set_option maxRecDepth 20000 in
theorem gX7_fitsTold_X7_bit : GoodIn wsX7_fitsTold (va_wsS RX7 180 yX7_bit wsX7_bit) := goodIn_app (goodIn_of _ (by decide +kernel)) ggX7_fitsTold_X7_bit
def tb_X7_fitsTold_1 : List (Nat × Instr × Nat) := [(0, .iconst 0, 1), (1, .istore 5, 2), (3, .iload 5, 2), (5, .aload_n 0, 1), (6, .getfield 25, 3), (9, .getfield 130, 3), (12, .if_icmp .ge 48, 3), (15, .aload_n 0, 1), (16, .getfield 25, 3), (19, .iload_n 1, 1), (20, .iload 5, 2), (22, .iload_n 2, 1), (23, .aload_n 0, 1), (24, .getfield 25, 3), (27, .getfield 137, 3), (30, .getfield 141, 3), (33, .invokevirtual 354, 3), (36, .invokestatic 180, 3), (39, .aload_n 3, 1), (40, .getfield 86, 3), (43, .iload 4, 2), (45, .iload 5, 2), (47, .iadd, 1), (48, .iaload, 1), (49, .if_icmp .eq 5, 3), (52, .iconst 0, 1), (53, .ireturn, 1), (54, .iinc 5 1, 3), (57, .goto (-54), 3), (60, .iconst 1, 1), (61, .ireturn, 1)]
set_option maxRecDepth 100000 in
theorem tk_X7_fitsTold_1 : (tb_X7_fitsTold_1.all fun q => decide (decode cX7_fitsTold q.1 = .ok q.2)) = true := by decide +kernel
theorem dX7_fitsTold_0 : decode cX7_fitsTold 0 = .ok (.iconst 0, 1) := tb_d tk_X7_fitsTold_1 0 (0, .iconst 0, 1) rfl
theorem dX7_fitsTold_1 : decode cX7_fitsTold 1 = .ok (.istore 5, 2) := tb_d tk_X7_fitsTold_1 1 (1, .istore 5, 2) rfl
theorem dX7_fitsTold_3 : decode cX7_fitsTold 3 = .ok (.iload 5, 2) := tb_d tk_X7_fitsTold_1 2 (3, .iload 5, 2) rfl
theorem dX7_fitsTold_5 : decode cX7_fitsTold 5 = .ok (.aload_n 0, 1) := tb_d tk_X7_fitsTold_1 3 (5, .aload_n 0, 1) rfl
theorem dX7_fitsTold_6 : decode cX7_fitsTold 6 = .ok (.getfield 25, 3) := tb_d tk_X7_fitsTold_1 4 (6, .getfield 25, 3) rfl
theorem dX7_fitsTold_9 : decode cX7_fitsTold 9 = .ok (.getfield 130, 3) := tb_d tk_X7_fitsTold_1 5 (9, .getfield 130, 3) rfl
theorem dX7_fitsTold_12 : decode cX7_fitsTold 12 = .ok (.if_icmp .ge 48, 3) := tb_d tk_X7_fitsTold_1 6 (12, .if_icmp .ge 48, 3) rfl
theorem dX7_fitsTold_15 : decode cX7_fitsTold 15 = .ok (.aload_n 0, 1) := tb_d tk_X7_fitsTold_1 7 (15, .aload_n 0, 1) rfl
theorem dX7_fitsTold_16 : decode cX7_fitsTold 16 = .ok (.getfield 25, 3) := tb_d tk_X7_fitsTold_1 8 (16, .getfield 25, 3) rfl
theorem dX7_fitsTold_19 : decode cX7_fitsTold 19 = .ok (.iload_n 1, 1) := tb_d tk_X7_fitsTold_1 9 (19, .iload_n 1, 1) rfl
theorem dX7_fitsTold_20 : decode cX7_fitsTold 20 = .ok (.iload 5, 2) := tb_d tk_X7_fitsTold_1 10 (20, .iload 5, 2) rfl
theorem dX7_fitsTold_22 : decode cX7_fitsTold 22 = .ok (.iload_n 2, 1) := tb_d tk_X7_fitsTold_1 11 (22, .iload_n 2, 1) rfl
theorem dX7_fitsTold_23 : decode cX7_fitsTold 23 = .ok (.aload_n 0, 1) := tb_d tk_X7_fitsTold_1 12 (23, .aload_n 0, 1) rfl
theorem dX7_fitsTold_24 : decode cX7_fitsTold 24 = .ok (.getfield 25, 3) := tb_d tk_X7_fitsTold_1 13 (24, .getfield 25, 3) rfl
theorem dX7_fitsTold_27 : decode cX7_fitsTold 27 = .ok (.getfield 137, 3) := tb_d tk_X7_fitsTold_1 14 (27, .getfield 137, 3) rfl
theorem dX7_fitsTold_30 : decode cX7_fitsTold 30 = .ok (.getfield 141, 3) := tb_d tk_X7_fitsTold_1 15 (30, .getfield 141, 3) rfl
theorem dX7_fitsTold_33 : decode cX7_fitsTold 33 = .ok (.invokevirtual 354, 3) := tb_d tk_X7_fitsTold_1 16 (33, .invokevirtual 354, 3) rfl
theorem dX7_fitsTold_36 : decode cX7_fitsTold 36 = .ok (.invokestatic 180, 3) := tb_d tk_X7_fitsTold_1 17 (36, .invokestatic 180, 3) rfl
theorem dX7_fitsTold_39 : decode cX7_fitsTold 39 = .ok (.aload_n 3, 1) := tb_d tk_X7_fitsTold_1 18 (39, .aload_n 3, 1) rfl
theorem dX7_fitsTold_40 : decode cX7_fitsTold 40 = .ok (.getfield 86, 3) := tb_d tk_X7_fitsTold_1 19 (40, .getfield 86, 3) rfl
theorem dX7_fitsTold_43 : decode cX7_fitsTold 43 = .ok (.iload 4, 2) := tb_d tk_X7_fitsTold_1 20 (43, .iload 4, 2) rfl
theorem dX7_fitsTold_45 : decode cX7_fitsTold 45 = .ok (.iload 5, 2) := tb_d tk_X7_fitsTold_1 21 (45, .iload 5, 2) rfl
theorem dX7_fitsTold_47 : decode cX7_fitsTold 47 = .ok (.iadd, 1) := tb_d tk_X7_fitsTold_1 22 (47, .iadd, 1) rfl
theorem dX7_fitsTold_48 : decode cX7_fitsTold 48 = .ok (.iaload, 1) := tb_d tk_X7_fitsTold_1 23 (48, .iaload, 1) rfl
theorem dX7_fitsTold_49 : decode cX7_fitsTold 49 = .ok (.if_icmp .eq 5, 3) := tb_d tk_X7_fitsTold_1 24 (49, .if_icmp .eq 5, 3) rfl
theorem dX7_fitsTold_52 : decode cX7_fitsTold 52 = .ok (.iconst 0, 1) := tb_d tk_X7_fitsTold_1 25 (52, .iconst 0, 1) rfl
theorem dX7_fitsTold_53 : decode cX7_fitsTold 53 = .ok (.ireturn, 1) := tb_d tk_X7_fitsTold_1 26 (53, .ireturn, 1) rfl
theorem dX7_fitsTold_54 : decode cX7_fitsTold 54 = .ok (.iinc 5 1, 3) := tb_d tk_X7_fitsTold_1 27 (54, .iinc 5 1, 3) rfl
theorem dX7_fitsTold_57 : decode cX7_fitsTold 57 = .ok (.goto (-54), 3) := tb_d tk_X7_fitsTold_1 28 (57, .goto (-54), 3) rfl
theorem dX7_fitsTold_60 : decode cX7_fitsTold 60 = .ok (.iconst 1, 1) := tb_d tk_X7_fitsTold_1 29 (60, .iconst 1, 1) rfl
theorem dX7_fitsTold_61 : decode cX7_fitsTold 61 = .ok (.ireturn, 1) := tb_d tk_X7_fitsTold_1 30 (61, .ireturn, 1) rfl
def tb_X7_bit_1 : List (Nat × Instr × Nat) := [(0, .iload_n 0, 1), (1, .ifCond .eq 7, 3), (4, .iconst 1, 1), (5, .goto 4, 3), (8, .iconst 0, 1), (9, .ireturn, 1)]
set_option maxRecDepth 100000 in
theorem tk_X7_bit_1 : (tb_X7_bit_1.all fun q => decide (decode cX7_bit q.1 = .ok q.2)) = true := by decide +kernel
theorem dX7_bit_0 : decode cX7_bit 0 = .ok (.iload_n 0, 1) := tb_d tk_X7_bit_1 0 (0, .iload_n 0, 1) rfl
theorem dX7_bit_1 : decode cX7_bit 1 = .ok (.ifCond .eq 7, 3) := tb_d tk_X7_bit_1 1 (1, .ifCond .eq 7, 3) rfl
theorem dX7_bit_4 : decode cX7_bit 4 = .ok (.iconst 1, 1) := tb_d tk_X7_bit_1 2 (4, .iconst 1, 1) rfl
theorem dX7_bit_5 : decode cX7_bit 5 = .ok (.goto 4, 3) := tb_d tk_X7_bit_1 3 (5, .goto 4, 3) rfl
theorem dX7_bit_8 : decode cX7_bit 8 = .ok (.iconst 0, 1) := tb_d tk_X7_bit_1 4 (8, .iconst 0, 1) rfl
theorem dX7_bit_9 : decode cX7_bit 9 = .ok (.ireturn, 1) := tb_d tk_X7_bit_1 5 (9, .ireturn, 1) rfl
def tb_X7_rest_1 : List (Nat × Instr × Nat) := [(0, .iload_n 1, 1), (1, .ifCond .le 9, 3), (4, .iload_n 0, 1), (5, .iload_n 1, 1), (6, .irem, 1), (7, .goto 4, 3), (10, .iconst 0, 1), (11, .ireturn, 1)]
set_option maxRecDepth 100000 in
theorem tk_X7_rest_1 : (tb_X7_rest_1.all fun q => decide (decode cX7_rest q.1 = .ok q.2)) = true := by decide +kernel
theorem dX7_rest_0 : decode cX7_rest 0 = .ok (.iload_n 1, 1) := tb_d tk_X7_rest_1 0 (0, .iload_n 1, 1) rfl
theorem dX7_rest_1 : decode cX7_rest 1 = .ok (.ifCond .le 9, 3) := tb_d tk_X7_rest_1 1 (1, .ifCond .le 9, 3) rfl
theorem dX7_rest_4 : decode cX7_rest 4 = .ok (.iload_n 0, 1) := tb_d tk_X7_rest_1 2 (4, .iload_n 0, 1) rfl
theorem dX7_rest_5 : decode cX7_rest 5 = .ok (.iload_n 1, 1) := tb_d tk_X7_rest_1 3 (5, .iload_n 1, 1) rfl
theorem dX7_rest_6 : decode cX7_rest 6 = .ok (.irem, 1) := tb_d tk_X7_rest_1 4 (6, .irem, 1) rfl
theorem dX7_rest_7 : decode cX7_rest 7 = .ok (.goto 4, 3) := tb_d tk_X7_rest_1 5 (7, .goto 4, 3) rfl
theorem dX7_rest_10 : decode cX7_rest 10 = .ok (.iconst 0, 1) := tb_d tk_X7_rest_1 6 (10, .iconst 0, 1) rfl
theorem dX7_rest_11 : decode cX7_rest 11 = .ok (.ireturn, 1) := tb_d tk_X7_rest_1 7 (11, .ireturn, 1) rfl
def tb_X7_lowest_1 : List (Nat × Instr × Nat) := [(0, .iload_n 1, 1), (1, .ifCond .le 9, 3), (4, .iload_n 0, 1), (5, .iload_n 1, 1), (6, .idiv, 1), (7, .goto 4, 3), (10, .iload_n 0, 1), (11, .ireturn, 1)]
set_option maxRecDepth 100000 in
theorem tk_X7_lowest_1 : (tb_X7_lowest_1.all fun q => decide (decode cX7_lowest q.1 = .ok q.2)) = true := by decide +kernel
theorem dX7_lowest_0 : decode cX7_lowest 0 = .ok (.iload_n 1, 1) := tb_d tk_X7_lowest_1 0 (0, .iload_n 1, 1) rfl
theorem dX7_lowest_1 : decode cX7_lowest 1 = .ok (.ifCond .le 9, 3) := tb_d tk_X7_lowest_1 1 (1, .ifCond .le 9, 3) rfl
theorem dX7_lowest_4 : decode cX7_lowest 4 = .ok (.iload_n 0, 1) := tb_d tk_X7_lowest_1 2 (4, .iload_n 0, 1) rfl
theorem dX7_lowest_5 : decode cX7_lowest 5 = .ok (.iload_n 1, 1) := tb_d tk_X7_lowest_1 3 (5, .iload_n 1, 1) rfl
theorem dX7_lowest_6 : decode cX7_lowest 6 = .ok (.idiv, 1) := tb_d tk_X7_lowest_1 4 (6, .idiv, 1) rfl
theorem dX7_lowest_7 : decode cX7_lowest 7 = .ok (.goto 4, 3) := tb_d tk_X7_lowest_1 5 (7, .goto 4, 3) rfl
theorem dX7_lowest_10 : decode cX7_lowest 10 = .ok (.iload_n 0, 1) := tb_d tk_X7_lowest_1 6 (10, .iload_n 0, 1) rfl
theorem dX7_lowest_11 : decode cX7_lowest 11 = .ok (.ireturn, 1) := tb_d tk_X7_lowest_1 7 (11, .ireturn, 1) rfl
def tb_X7_commonDivisor_1 : List (Nat × Instr × Nat) := [(0, .iload_n 1, 1), (1, .istore_n 2, 1), (2, .iload_n 2, 1), (3, .iconst 1, 1), (4, .if_icmp .le 23, 3), (7, .iload_n 0, 1), (8, .iload_n 2, 1), (9, .irem, 1), (10, .ifCond .ne 11, 3), (13, .iload_n 1, 1), (14, .iload_n 2, 1), (15, .irem, 1), (16, .ifCond .ne 5, 3), (19, .iload_n 2, 1), (20, .ireturn, 1), (21, .iinc 2 (-1), 3), (24, .goto (-22), 3), (27, .iconst 1, 1), (28, .ireturn, 1)]
set_option maxRecDepth 100000 in
theorem tk_X7_commonDivisor_1 : (tb_X7_commonDivisor_1.all fun q => decide (decode cX7_commonDivisor q.1 = .ok q.2)) = true := by decide +kernel
theorem dX7_commonDivisor_0 : decode cX7_commonDivisor 0 = .ok (.iload_n 1, 1) := tb_d tk_X7_commonDivisor_1 0 (0, .iload_n 1, 1) rfl
theorem dX7_commonDivisor_1 : decode cX7_commonDivisor 1 = .ok (.istore_n 2, 1) := tb_d tk_X7_commonDivisor_1 1 (1, .istore_n 2, 1) rfl
theorem dX7_commonDivisor_2 : decode cX7_commonDivisor 2 = .ok (.iload_n 2, 1) := tb_d tk_X7_commonDivisor_1 2 (2, .iload_n 2, 1) rfl
theorem dX7_commonDivisor_3 : decode cX7_commonDivisor 3 = .ok (.iconst 1, 1) := tb_d tk_X7_commonDivisor_1 3 (3, .iconst 1, 1) rfl
theorem dX7_commonDivisor_4 : decode cX7_commonDivisor 4 = .ok (.if_icmp .le 23, 3) := tb_d tk_X7_commonDivisor_1 4 (4, .if_icmp .le 23, 3) rfl
theorem dX7_commonDivisor_7 : decode cX7_commonDivisor 7 = .ok (.iload_n 0, 1) := tb_d tk_X7_commonDivisor_1 5 (7, .iload_n 0, 1) rfl
theorem dX7_commonDivisor_8 : decode cX7_commonDivisor 8 = .ok (.iload_n 2, 1) := tb_d tk_X7_commonDivisor_1 6 (8, .iload_n 2, 1) rfl
theorem dX7_commonDivisor_9 : decode cX7_commonDivisor 9 = .ok (.irem, 1) := tb_d tk_X7_commonDivisor_1 7 (9, .irem, 1) rfl
theorem dX7_commonDivisor_10 : decode cX7_commonDivisor 10 = .ok (.ifCond .ne 11, 3) := tb_d tk_X7_commonDivisor_1 8 (10, .ifCond .ne 11, 3) rfl
theorem dX7_commonDivisor_13 : decode cX7_commonDivisor 13 = .ok (.iload_n 1, 1) := tb_d tk_X7_commonDivisor_1 9 (13, .iload_n 1, 1) rfl
theorem dX7_commonDivisor_14 : decode cX7_commonDivisor 14 = .ok (.iload_n 2, 1) := tb_d tk_X7_commonDivisor_1 10 (14, .iload_n 2, 1) rfl
theorem dX7_commonDivisor_15 : decode cX7_commonDivisor 15 = .ok (.irem, 1) := tb_d tk_X7_commonDivisor_1 11 (15, .irem, 1) rfl
theorem dX7_commonDivisor_16 : decode cX7_commonDivisor 16 = .ok (.ifCond .ne 5, 3) := tb_d tk_X7_commonDivisor_1 12 (16, .ifCond .ne 5, 3) rfl
theorem dX7_commonDivisor_19 : decode cX7_commonDivisor 19 = .ok (.iload_n 2, 1) := tb_d tk_X7_commonDivisor_1 13 (19, .iload_n 2, 1) rfl
theorem dX7_commonDivisor_20 : decode cX7_commonDivisor 20 = .ok (.ireturn, 1) := tb_d tk_X7_commonDivisor_1 14 (20, .ireturn, 1) rfl
theorem dX7_commonDivisor_21 : decode cX7_commonDivisor 21 = .ok (.iinc 2 (-1), 3) := tb_d tk_X7_commonDivisor_1 15 (21, .iinc 2 (-1), 3) rfl
theorem dX7_commonDivisor_24 : decode cX7_commonDivisor 24 = .ok (.goto (-22), 3) := tb_d tk_X7_commonDivisor_1 16 (24, .goto (-22), 3) rfl
theorem dX7_commonDivisor_27 : decode cX7_commonDivisor 27 = .ok (.iconst 1, 1) := tb_d tk_X7_commonDivisor_1 17 (27, .iconst 1, 1) rfl
theorem dX7_commonDivisor_28 : decode cX7_commonDivisor 28 = .ok (.ireturn, 1) := tb_d tk_X7_commonDivisor_1 18 (28, .ireturn, 1) rfl
def tb_X8_init_1 : List (Nat × Instr × Nat) := [(0, .aload_n 0, 1), (1, .invokespecial 1, 3), (4, .aload_n 0, 1), (5, .bipush 8, 2), (7, .newarray .int, 2), (9, .putfield 7, 3), (12, .aload_n 0, 1), (13, .bipush 8, 2), (15, .newarray .int, 2), (17, .putfield 13, 3), (20, .aload_n 0, 1), (21, .sipush 320, 3), (24, .newarray .int, 2), (26, .putfield 16, 3), (29, .aload_n 0, 1), (30, .bipush 40, 2), (32, .newarray .int, 2), (34, .putfield 19, 3), (37, .aload_n 0, 1), (38, .bipush 100, 2), (40, .newarray .int, 2), (42, .putfield 22, 3), (45, .aload_n 0, 1), (46, .bipush 65, 2), (48, .newarray .int, 2), (50, .putfield 25, 3), (53, .aload_n 0, 1), (54, .bipush 65, 2), (56, .newarray .int, 2), (58, .putfield 28, 3), (61, .aload_n 0, 1), (62, .bipush 65, 2), (64, .newarray .int, 2), (66, .putfield 31, 3), (69, .aload_n 0, 1), (70, .sipush 1560, 3), (73, .newarray .int, 2), (75, .putfield 34, 3), (78, .aload_n 0, 1), (79, .sipush 130, 3)]
set_option maxRecDepth 100000 in
theorem tk_X8_init_1 : (tb_X8_init_1.all fun q => decide (decode cX8_init q.1 = .ok q.2)) = true := by decide +kernel
theorem dX8_init_0 : decode cX8_init 0 = .ok (.aload_n 0, 1) := tb_d tk_X8_init_1 0 (0, .aload_n 0, 1) rfl
theorem dX8_init_1 : decode cX8_init 1 = .ok (.invokespecial 1, 3) := tb_d tk_X8_init_1 1 (1, .invokespecial 1, 3) rfl
theorem dX8_init_4 : decode cX8_init 4 = .ok (.aload_n 0, 1) := tb_d tk_X8_init_1 2 (4, .aload_n 0, 1) rfl
theorem dX8_init_5 : decode cX8_init 5 = .ok (.bipush 8, 2) := tb_d tk_X8_init_1 3 (5, .bipush 8, 2) rfl
theorem dX8_init_7 : decode cX8_init 7 = .ok (.newarray .int, 2) := tb_d tk_X8_init_1 4 (7, .newarray .int, 2) rfl
theorem dX8_init_9 : decode cX8_init 9 = .ok (.putfield 7, 3) := tb_d tk_X8_init_1 5 (9, .putfield 7, 3) rfl
theorem dX8_init_12 : decode cX8_init 12 = .ok (.aload_n 0, 1) := tb_d tk_X8_init_1 6 (12, .aload_n 0, 1) rfl
theorem dX8_init_13 : decode cX8_init 13 = .ok (.bipush 8, 2) := tb_d tk_X8_init_1 7 (13, .bipush 8, 2) rfl
theorem dX8_init_15 : decode cX8_init 15 = .ok (.newarray .int, 2) := tb_d tk_X8_init_1 8 (15, .newarray .int, 2) rfl
theorem dX8_init_17 : decode cX8_init 17 = .ok (.putfield 13, 3) := tb_d tk_X8_init_1 9 (17, .putfield 13, 3) rfl
theorem dX8_init_20 : decode cX8_init 20 = .ok (.aload_n 0, 1) := tb_d tk_X8_init_1 10 (20, .aload_n 0, 1) rfl
theorem dX8_init_21 : decode cX8_init 21 = .ok (.sipush 320, 3) := tb_d tk_X8_init_1 11 (21, .sipush 320, 3) rfl
theorem dX8_init_24 : decode cX8_init 24 = .ok (.newarray .int, 2) := tb_d tk_X8_init_1 12 (24, .newarray .int, 2) rfl
theorem dX8_init_26 : decode cX8_init 26 = .ok (.putfield 16, 3) := tb_d tk_X8_init_1 13 (26, .putfield 16, 3) rfl
theorem dX8_init_29 : decode cX8_init 29 = .ok (.aload_n 0, 1) := tb_d tk_X8_init_1 14 (29, .aload_n 0, 1) rfl
theorem dX8_init_30 : decode cX8_init 30 = .ok (.bipush 40, 2) := tb_d tk_X8_init_1 15 (30, .bipush 40, 2) rfl
theorem dX8_init_32 : decode cX8_init 32 = .ok (.newarray .int, 2) := tb_d tk_X8_init_1 16 (32, .newarray .int, 2) rfl
theorem dX8_init_34 : decode cX8_init 34 = .ok (.putfield 19, 3) := tb_d tk_X8_init_1 17 (34, .putfield 19, 3) rfl
theorem dX8_init_37 : decode cX8_init 37 = .ok (.aload_n 0, 1) := tb_d tk_X8_init_1 18 (37, .aload_n 0, 1) rfl
theorem dX8_init_38 : decode cX8_init 38 = .ok (.bipush 100, 2) := tb_d tk_X8_init_1 19 (38, .bipush 100, 2) rfl
theorem dX8_init_40 : decode cX8_init 40 = .ok (.newarray .int, 2) := tb_d tk_X8_init_1 20 (40, .newarray .int, 2) rfl
theorem dX8_init_42 : decode cX8_init 42 = .ok (.putfield 22, 3) := tb_d tk_X8_init_1 21 (42, .putfield 22, 3) rfl
theorem dX8_init_45 : decode cX8_init 45 = .ok (.aload_n 0, 1) := tb_d tk_X8_init_1 22 (45, .aload_n 0, 1) rfl
theorem dX8_init_46 : decode cX8_init 46 = .ok (.bipush 65, 2) := tb_d tk_X8_init_1 23 (46, .bipush 65, 2) rfl
theorem dX8_init_48 : decode cX8_init 48 = .ok (.newarray .int, 2) := tb_d tk_X8_init_1 24 (48, .newarray .int, 2) rfl
theorem dX8_init_50 : decode cX8_init 50 = .ok (.putfield 25, 3) := tb_d tk_X8_init_1 25 (50, .putfield 25, 3) rfl
theorem dX8_init_53 : decode cX8_init 53 = .ok (.aload_n 0, 1) := tb_d tk_X8_init_1 26 (53, .aload_n 0, 1) rfl
theorem dX8_init_54 : decode cX8_init 54 = .ok (.bipush 65, 2) := tb_d tk_X8_init_1 27 (54, .bipush 65, 2) rfl
theorem dX8_init_56 : decode cX8_init 56 = .ok (.newarray .int, 2) := tb_d tk_X8_init_1 28 (56, .newarray .int, 2) rfl
theorem dX8_init_58 : decode cX8_init 58 = .ok (.putfield 28, 3) := tb_d tk_X8_init_1 29 (58, .putfield 28, 3) rfl
theorem dX8_init_61 : decode cX8_init 61 = .ok (.aload_n 0, 1) := tb_d tk_X8_init_1 30 (61, .aload_n 0, 1) rfl
theorem dX8_init_62 : decode cX8_init 62 = .ok (.bipush 65, 2) := tb_d tk_X8_init_1 31 (62, .bipush 65, 2) rfl
theorem dX8_init_64 : decode cX8_init 64 = .ok (.newarray .int, 2) := tb_d tk_X8_init_1 32 (64, .newarray .int, 2) rfl
theorem dX8_init_66 : decode cX8_init 66 = .ok (.putfield 31, 3) := tb_d tk_X8_init_1 33 (66, .putfield 31, 3) rfl
theorem dX8_init_69 : decode cX8_init 69 = .ok (.aload_n 0, 1) := tb_d tk_X8_init_1 34 (69, .aload_n 0, 1) rfl
theorem dX8_init_70 : decode cX8_init 70 = .ok (.sipush 1560, 3) := tb_d tk_X8_init_1 35 (70, .sipush 1560, 3) rfl
theorem dX8_init_73 : decode cX8_init 73 = .ok (.newarray .int, 2) := tb_d tk_X8_init_1 36 (73, .newarray .int, 2) rfl
theorem dX8_init_75 : decode cX8_init 75 = .ok (.putfield 34, 3) := tb_d tk_X8_init_1 37 (75, .putfield 34, 3) rfl
theorem dX8_init_78 : decode cX8_init 78 = .ok (.aload_n 0, 1) := tb_d tk_X8_init_1 38 (78, .aload_n 0, 1) rfl
theorem dX8_init_79 : decode cX8_init 79 = .ok (.sipush 130, 3) := tb_d tk_X8_init_1 39 (79, .sipush 130, 3) rfl
def tb_X8_init_2 : List (Nat × Instr × Nat) := [(82, .newarray .int, 2), (84, .putfield 37, 3), (87, .aload_n 0, 1), (88, .iconst 2, 1), (89, .newarray .boolean, 2), (91, .putfield 40, 3), (94, .aload_n 0, 1), (95, .bipush 64, 2), (97, .newarray .int, 2), (99, .putfield 44, 3), (102, .aload_n 0, 1), (103, .bipush 16, 2), (105, .newarray .int, 2), (107, .putfield 47, 3), (110, .iconst 0, 1), (111, .istore_n 1, 1), (112, .iload_n 1, 1), (113, .bipush 8, 2), (115, .if_icmp .ge 17, 3), (118, .aload_n 0, 1), (119, .getfield 7, 3), (122, .iload_n 1, 1), (123, .ldc 50, 2), (125, .iastore, 1), (126, .iinc 1 1, 3), (129, .goto (-17), 3), (132, .return_, 1)]
set_option maxRecDepth 100000 in
theorem tk_X8_init_2 : (tb_X8_init_2.all fun q => decide (decode cX8_init q.1 = .ok q.2)) = true := by decide +kernel
theorem dX8_init_82 : decode cX8_init 82 = .ok (.newarray .int, 2) := tb_d tk_X8_init_2 0 (82, .newarray .int, 2) rfl
theorem dX8_init_84 : decode cX8_init 84 = .ok (.putfield 37, 3) := tb_d tk_X8_init_2 1 (84, .putfield 37, 3) rfl
theorem dX8_init_87 : decode cX8_init 87 = .ok (.aload_n 0, 1) := tb_d tk_X8_init_2 2 (87, .aload_n 0, 1) rfl
theorem dX8_init_88 : decode cX8_init 88 = .ok (.iconst 2, 1) := tb_d tk_X8_init_2 3 (88, .iconst 2, 1) rfl
theorem dX8_init_89 : decode cX8_init 89 = .ok (.newarray .boolean, 2) := tb_d tk_X8_init_2 4 (89, .newarray .boolean, 2) rfl
theorem dX8_init_91 : decode cX8_init 91 = .ok (.putfield 40, 3) := tb_d tk_X8_init_2 5 (91, .putfield 40, 3) rfl
theorem dX8_init_94 : decode cX8_init 94 = .ok (.aload_n 0, 1) := tb_d tk_X8_init_2 6 (94, .aload_n 0, 1) rfl
theorem dX8_init_95 : decode cX8_init 95 = .ok (.bipush 64, 2) := tb_d tk_X8_init_2 7 (95, .bipush 64, 2) rfl
theorem dX8_init_97 : decode cX8_init 97 = .ok (.newarray .int, 2) := tb_d tk_X8_init_2 8 (97, .newarray .int, 2) rfl
theorem dX8_init_99 : decode cX8_init 99 = .ok (.putfield 44, 3) := tb_d tk_X8_init_2 9 (99, .putfield 44, 3) rfl
theorem dX8_init_102 : decode cX8_init 102 = .ok (.aload_n 0, 1) := tb_d tk_X8_init_2 10 (102, .aload_n 0, 1) rfl
theorem dX8_init_103 : decode cX8_init 103 = .ok (.bipush 16, 2) := tb_d tk_X8_init_2 11 (103, .bipush 16, 2) rfl
theorem dX8_init_105 : decode cX8_init 105 = .ok (.newarray .int, 2) := tb_d tk_X8_init_2 12 (105, .newarray .int, 2) rfl
theorem dX8_init_107 : decode cX8_init 107 = .ok (.putfield 47, 3) := tb_d tk_X8_init_2 13 (107, .putfield 47, 3) rfl
theorem dX8_init_110 : decode cX8_init 110 = .ok (.iconst 0, 1) := tb_d tk_X8_init_2 14 (110, .iconst 0, 1) rfl
theorem dX8_init_111 : decode cX8_init 111 = .ok (.istore_n 1, 1) := tb_d tk_X8_init_2 15 (111, .istore_n 1, 1) rfl
theorem dX8_init_112 : decode cX8_init 112 = .ok (.iload_n 1, 1) := tb_d tk_X8_init_2 16 (112, .iload_n 1, 1) rfl
theorem dX8_init_113 : decode cX8_init 113 = .ok (.bipush 8, 2) := tb_d tk_X8_init_2 17 (113, .bipush 8, 2) rfl
theorem dX8_init_115 : decode cX8_init 115 = .ok (.if_icmp .ge 17, 3) := tb_d tk_X8_init_2 18 (115, .if_icmp .ge 17, 3) rfl
theorem dX8_init_118 : decode cX8_init 118 = .ok (.aload_n 0, 1) := tb_d tk_X8_init_2 19 (118, .aload_n 0, 1) rfl
theorem dX8_init_119 : decode cX8_init 119 = .ok (.getfield 7, 3) := tb_d tk_X8_init_2 20 (119, .getfield 7, 3) rfl
theorem dX8_init_122 : decode cX8_init 122 = .ok (.iload_n 1, 1) := tb_d tk_X8_init_2 21 (122, .iload_n 1, 1) rfl
theorem dX8_init_123 : decode cX8_init 123 = .ok (.ldc 50, 2) := tb_d tk_X8_init_2 22 (123, .ldc 50, 2) rfl
theorem dX8_init_125 : decode cX8_init 125 = .ok (.iastore, 1) := tb_d tk_X8_init_2 23 (125, .iastore, 1) rfl
theorem dX8_init_126 : decode cX8_init 126 = .ok (.iinc 1 1, 3) := tb_d tk_X8_init_2 24 (126, .iinc 1 1, 3) rfl
theorem dX8_init_129 : decode cX8_init 129 = .ok (.goto (-17), 3) := tb_d tk_X8_init_2 25 (129, .goto (-17), 3) rfl
theorem dX8_init_132 : decode cX8_init 132 = .ok (.return_, 1) := tb_d tk_X8_init_2 26 (132, .return_, 1) rfl
def tb_X8_in_1 : List (Nat × Instr × Nat) := [(0, .iload_n 0, 1), (1, .iload_n 1, 1), (2, .if_icmp .lt 12, 3), (5, .iload_n 0, 1), (6, .iload_n 2, 1), (7, .if_icmp .gt 7, 3), (10, .iconst 1, 1), (11, .goto 4, 3), (14, .iconst 0, 1), (15, .ireturn, 1)]
set_option maxRecDepth 100000 in
theorem tk_X8_in_1 : (tb_X8_in_1.all fun q => decide (decode cX8_in q.1 = .ok q.2)) = true := by decide +kernel
theorem dX8_in_0 : decode cX8_in 0 = .ok (.iload_n 0, 1) := tb_d tk_X8_in_1 0 (0, .iload_n 0, 1) rfl
theorem dX8_in_1 : decode cX8_in 1 = .ok (.iload_n 1, 1) := tb_d tk_X8_in_1 1 (1, .iload_n 1, 1) rfl
theorem dX8_in_2 : decode cX8_in 2 = .ok (.if_icmp .lt 12, 3) := tb_d tk_X8_in_1 2 (2, .if_icmp .lt 12, 3) rfl
theorem dX8_in_5 : decode cX8_in 5 = .ok (.iload_n 0, 1) := tb_d tk_X8_in_1 3 (5, .iload_n 0, 1) rfl
theorem dX8_in_6 : decode cX8_in 6 = .ok (.iload_n 2, 1) := tb_d tk_X8_in_1 4 (6, .iload_n 2, 1) rfl
theorem dX8_in_7 : decode cX8_in 7 = .ok (.if_icmp .gt 7, 3) := tb_d tk_X8_in_1 5 (7, .if_icmp .gt 7, 3) rfl
theorem dX8_in_10 : decode cX8_in 10 = .ok (.iconst 1, 1) := tb_d tk_X8_in_1 6 (10, .iconst 1, 1) rfl
theorem dX8_in_11 : decode cX8_in 11 = .ok (.goto 4, 3) := tb_d tk_X8_in_1 7 (11, .goto 4, 3) rfl
theorem dX8_in_14 : decode cX8_in 14 = .ok (.iconst 0, 1) := tb_d tk_X8_in_1 8 (14, .iconst 0, 1) rfl
theorem dX8_in_15 : decode cX8_in 15 = .ok (.ireturn, 1) := tb_d tk_X8_in_1 9 (15, .ireturn, 1) rfl
def tb_X8_has_1 : List (Nat × Instr × Nat) := [(0, .iload_n 0, 1), (1, .iload_n 1, 1), (2, .ishr, 1), (3, .iconst 1, 1), (4, .iand, 1), (5, .iconst 1, 1), (6, .if_icmp .ne 7, 3), (9, .iconst 1, 1), (10, .goto 4, 3), (13, .iconst 0, 1), (14, .ireturn, 1)]
set_option maxRecDepth 100000 in
theorem tk_X8_has_1 : (tb_X8_has_1.all fun q => decide (decode cX8_has q.1 = .ok q.2)) = true := by decide +kernel
theorem dX8_has_0 : decode cX8_has 0 = .ok (.iload_n 0, 1) := tb_d tk_X8_has_1 0 (0, .iload_n 0, 1) rfl
theorem dX8_has_1 : decode cX8_has 1 = .ok (.iload_n 1, 1) := tb_d tk_X8_has_1 1 (1, .iload_n 1, 1) rfl
theorem dX8_has_2 : decode cX8_has 2 = .ok (.ishr, 1) := tb_d tk_X8_has_1 2 (2, .ishr, 1) rfl
theorem dX8_has_3 : decode cX8_has 3 = .ok (.iconst 1, 1) := tb_d tk_X8_has_1 3 (3, .iconst 1, 1) rfl
theorem dX8_has_4 : decode cX8_has 4 = .ok (.iand, 1) := tb_d tk_X8_has_1 4 (4, .iand, 1) rfl
theorem dX8_has_5 : decode cX8_has 5 = .ok (.iconst 1, 1) := tb_d tk_X8_has_1 5 (5, .iconst 1, 1) rfl
theorem dX8_has_6 : decode cX8_has 6 = .ok (.if_icmp .ne 7, 3) := tb_d tk_X8_has_1 6 (6, .if_icmp .ne 7, 3) rfl
theorem dX8_has_9 : decode cX8_has 9 = .ok (.iconst 1, 1) := tb_d tk_X8_has_1 7 (9, .iconst 1, 1) rfl
theorem dX8_has_10 : decode cX8_has 10 = .ok (.goto 4, 3) := tb_d tk_X8_has_1 8 (10, .goto 4, 3) rfl
theorem dX8_has_13 : decode cX8_has 13 = .ok (.iconst 0, 1) := tb_d tk_X8_has_1 9 (13, .iconst 0, 1) rfl
theorem dX8_has_14 : decode cX8_has 14 = .ok (.ireturn, 1) := tb_d tk_X8_has_1 10 (14, .ireturn, 1) rfl
def tb_X8_ones_1 : List (Nat × Instr × Nat) := [(0, .iconst 0, 1), (1, .istore_n 1, 1), (2, .iconst 0, 1), (3, .istore_n 2, 1), (4, .iload_n 2, 1), (5, .bipush 8, 2), (7, .if_icmp .ge 17, 3), (10, .iload_n 1, 1), (11, .iload_n 0, 1), (12, .iload_n 2, 1), (13, .ishr, 1), (14, .iconst 1, 1), (15, .iand, 1), (16, .iadd, 1), (17, .istore_n 1, 1), (18, .iinc 2 1, 3), (21, .goto (-17), 3), (24, .iload_n 1, 1), (25, .ireturn, 1)]
set_option maxRecDepth 100000 in
theorem tk_X8_ones_1 : (tb_X8_ones_1.all fun q => decide (decode cX8_ones q.1 = .ok q.2)) = true := by decide +kernel
theorem dX8_ones_0 : decode cX8_ones 0 = .ok (.iconst 0, 1) := tb_d tk_X8_ones_1 0 (0, .iconst 0, 1) rfl
theorem dX8_ones_1 : decode cX8_ones 1 = .ok (.istore_n 1, 1) := tb_d tk_X8_ones_1 1 (1, .istore_n 1, 1) rfl
theorem dX8_ones_2 : decode cX8_ones 2 = .ok (.iconst 0, 1) := tb_d tk_X8_ones_1 2 (2, .iconst 0, 1) rfl
theorem dX8_ones_3 : decode cX8_ones 3 = .ok (.istore_n 2, 1) := tb_d tk_X8_ones_1 3 (3, .istore_n 2, 1) rfl
theorem dX8_ones_4 : decode cX8_ones 4 = .ok (.iload_n 2, 1) := tb_d tk_X8_ones_1 4 (4, .iload_n 2, 1) rfl
theorem dX8_ones_5 : decode cX8_ones 5 = .ok (.bipush 8, 2) := tb_d tk_X8_ones_1 5 (5, .bipush 8, 2) rfl
theorem dX8_ones_7 : decode cX8_ones 7 = .ok (.if_icmp .ge 17, 3) := tb_d tk_X8_ones_1 6 (7, .if_icmp .ge 17, 3) rfl
theorem dX8_ones_10 : decode cX8_ones 10 = .ok (.iload_n 1, 1) := tb_d tk_X8_ones_1 7 (10, .iload_n 1, 1) rfl
theorem dX8_ones_11 : decode cX8_ones 11 = .ok (.iload_n 0, 1) := tb_d tk_X8_ones_1 8 (11, .iload_n 0, 1) rfl
theorem dX8_ones_12 : decode cX8_ones 12 = .ok (.iload_n 2, 1) := tb_d tk_X8_ones_1 9 (12, .iload_n 2, 1) rfl
theorem dX8_ones_13 : decode cX8_ones 13 = .ok (.ishr, 1) := tb_d tk_X8_ones_1 10 (13, .ishr, 1) rfl
theorem dX8_ones_14 : decode cX8_ones 14 = .ok (.iconst 1, 1) := tb_d tk_X8_ones_1 11 (14, .iconst 1, 1) rfl
theorem dX8_ones_15 : decode cX8_ones 15 = .ok (.iand, 1) := tb_d tk_X8_ones_1 12 (15, .iand, 1) rfl
theorem dX8_ones_16 : decode cX8_ones 16 = .ok (.iadd, 1) := tb_d tk_X8_ones_1 13 (16, .iadd, 1) rfl
theorem dX8_ones_17 : decode cX8_ones 17 = .ok (.istore_n 1, 1) := tb_d tk_X8_ones_1 14 (17, .istore_n 1, 1) rfl
theorem dX8_ones_18 : decode cX8_ones 18 = .ok (.iinc 2 1, 3) := tb_d tk_X8_ones_1 15 (18, .iinc 2 1, 3) rfl
theorem dX8_ones_21 : decode cX8_ones 21 = .ok (.goto (-17), 3) := tb_d tk_X8_ones_1 16 (21, .goto (-17), 3) rfl
theorem dX8_ones_24 : decode cX8_ones 24 = .ok (.iload_n 1, 1) := tb_d tk_X8_ones_1 17 (24, .iload_n 1, 1) rfl
theorem dX8_ones_25 : decode cX8_ones 25 = .ok (.ireturn, 1) := tb_d tk_X8_ones_1 18 (25, .ireturn, 1) rfl
def tb_X8_found_1 : List (Nat × Instr × Nat) := [(0, .aload_n 0, 1), (1, .iload_n 1, 1), (2, .putfield 51, 3), (5, .ldc 55, 2), (7, .iload_n 1, 1), (8, .isub, 1), (9, .ireturn, 1)]
set_option maxRecDepth 100000 in
theorem tk_X8_found_1 : (tb_X8_found_1.all fun q => decide (decode cX8_found q.1 = .ok q.2)) = true := by decide +kernel
theorem dX8_found_0 : decode cX8_found 0 = .ok (.aload_n 0, 1) := tb_d tk_X8_found_1 0 (0, .aload_n 0, 1) rfl
theorem dX8_found_1 : decode cX8_found 1 = .ok (.iload_n 1, 1) := tb_d tk_X8_found_1 1 (1, .iload_n 1, 1) rfl
theorem dX8_found_2 : decode cX8_found 2 = .ok (.putfield 51, 3) := tb_d tk_X8_found_1 2 (2, .putfield 51, 3) rfl
theorem dX8_found_5 : decode cX8_found 5 = .ok (.ldc 55, 2) := tb_d tk_X8_found_1 3 (5, .ldc 55, 2) rfl
theorem dX8_found_7 : decode cX8_found 7 = .ok (.iload_n 1, 1) := tb_d tk_X8_found_1 4 (7, .iload_n 1, 1) rfl
theorem dX8_found_8 : decode cX8_found 8 = .ok (.isub, 1) := tb_d tk_X8_found_1 5 (8, .isub, 1) rfl
theorem dX8_found_9 : decode cX8_found 9 = .ok (.ireturn, 1) := tb_d tk_X8_found_1 6 (9, .ireturn, 1) rfl
def tb_X8_well_1 : List (Nat × Instr × Nat) := [(0, .aload_n 0, 1), (1, .iconst 0, 1), (2, .putfield 51, 3), (5, .iload_n 1, 1), (6, .ireturn, 1)]
set_option maxRecDepth 100000 in
theorem tk_X8_well_1 : (tb_X8_well_1.all fun q => decide (decode cX8_well q.1 = .ok q.2)) = true := by decide +kernel
theorem dX8_well_0 : decode cX8_well 0 = .ok (.aload_n 0, 1) := tb_d tk_X8_well_1 0 (0, .aload_n 0, 1) rfl
theorem dX8_well_1 : decode cX8_well 1 = .ok (.iconst 0, 1) := tb_d tk_X8_well_1 1 (1, .iconst 0, 1) rfl
theorem dX8_well_2 : decode cX8_well 2 = .ok (.putfield 51, 3) := tb_d tk_X8_well_1 2 (2, .putfield 51, 3) rfl
theorem dX8_well_5 : decode cX8_well 5 = .ok (.iload_n 1, 1) := tb_d tk_X8_well_1 3 (5, .iload_n 1, 1) rfl
theorem dX8_well_6 : decode cX8_well 6 = .ok (.ireturn, 1) := tb_d tk_X8_well_1 4 (6, .ireturn, 1) rfl
def tb_X8_copies_1 : List (Nat × Instr × Nat) := [(0, .iconst 0, 1), (1, .istore 4, 2), (3, .iload 4, 2), (5, .bipush 65, 2), (7, .if_icmp .ge 21, 3), (10, .aload_n 2, 1), (11, .iload_n 3, 1), (12, .iload 4, 2), (14, .iadd, 1), (15, .aload_n 0, 1), (16, .iload_n 1, 1), (17, .iload 4, 2), (19, .iadd, 1), (20, .iaload, 1), (21, .iastore, 1), (22, .iinc 4 1, 3), (25, .goto (-22), 3), (28, .return_, 1)]
set_option maxRecDepth 100000 in
theorem tk_X8_copies_1 : (tb_X8_copies_1.all fun q => decide (decode cX8_copies q.1 = .ok q.2)) = true := by decide +kernel
theorem dX8_copies_0 : decode cX8_copies 0 = .ok (.iconst 0, 1) := tb_d tk_X8_copies_1 0 (0, .iconst 0, 1) rfl
theorem dX8_copies_1 : decode cX8_copies 1 = .ok (.istore 4, 2) := tb_d tk_X8_copies_1 1 (1, .istore 4, 2) rfl
theorem dX8_copies_3 : decode cX8_copies 3 = .ok (.iload 4, 2) := tb_d tk_X8_copies_1 2 (3, .iload 4, 2) rfl
theorem dX8_copies_5 : decode cX8_copies 5 = .ok (.bipush 65, 2) := tb_d tk_X8_copies_1 3 (5, .bipush 65, 2) rfl
theorem dX8_copies_7 : decode cX8_copies 7 = .ok (.if_icmp .ge 21, 3) := tb_d tk_X8_copies_1 4 (7, .if_icmp .ge 21, 3) rfl
theorem dX8_copies_10 : decode cX8_copies 10 = .ok (.aload_n 2, 1) := tb_d tk_X8_copies_1 5 (10, .aload_n 2, 1) rfl
theorem dX8_copies_11 : decode cX8_copies 11 = .ok (.iload_n 3, 1) := tb_d tk_X8_copies_1 6 (11, .iload_n 3, 1) rfl
theorem dX8_copies_12 : decode cX8_copies 12 = .ok (.iload 4, 2) := tb_d tk_X8_copies_1 7 (12, .iload 4, 2) rfl
theorem dX8_copies_14 : decode cX8_copies 14 = .ok (.iadd, 1) := tb_d tk_X8_copies_1 8 (14, .iadd, 1) rfl
theorem dX8_copies_15 : decode cX8_copies 15 = .ok (.aload_n 0, 1) := tb_d tk_X8_copies_1 9 (15, .aload_n 0, 1) rfl
theorem dX8_copies_16 : decode cX8_copies 16 = .ok (.iload_n 1, 1) := tb_d tk_X8_copies_1 10 (16, .iload_n 1, 1) rfl
theorem dX8_copies_17 : decode cX8_copies 17 = .ok (.iload 4, 2) := tb_d tk_X8_copies_1 11 (17, .iload 4, 2) rfl
theorem dX8_copies_19 : decode cX8_copies 19 = .ok (.iadd, 1) := tb_d tk_X8_copies_1 12 (19, .iadd, 1) rfl
theorem dX8_copies_20 : decode cX8_copies 20 = .ok (.iaload, 1) := tb_d tk_X8_copies_1 13 (20, .iaload, 1) rfl
theorem dX8_copies_21 : decode cX8_copies 21 = .ok (.iastore, 1) := tb_d tk_X8_copies_1 14 (21, .iastore, 1) rfl
theorem dX8_copies_22 : decode cX8_copies 22 = .ok (.iinc 4 1, 3) := tb_d tk_X8_copies_1 15 (22, .iinc 4 1, 3) rfl
theorem dX8_copies_25 : decode cX8_copies 25 = .ok (.goto (-22), 3) := tb_d tk_X8_copies_1 16 (25, .goto (-22), 3) rfl
theorem dX8_copies_28 : decode cX8_copies 28 = .ok (.return_, 1) := tb_d tk_X8_copies_1 17 (28, .return_, 1) rfl
set_option maxRecDepth 20000 in
theorem ggX8_isRow_X8_in : GoodIn wsX8_isRow wsX8_in := goodIn_r _ [4] (by decide +kernel) (by decide +kernel)
set_option maxRecDepth 20000 in
theorem gX8_isRow_X8_in : GoodIn wsX8_isRow (va_wsS RX8 56 yX8_in wsX8_in) := goodIn_app (goodIn_of _ (by decide +kernel)) ggX8_isRow_X8_in
def tb_X8_isRow_1 : List (Nat × Instr × Nat) := [(0, .iload_n 0, 1), (1, .iconst 0, 1), (2, .bipush 7, 2), (4, .invokestatic 56, 3), (7, .ireturn, 1)]
set_option maxRecDepth 100000 in
theorem tk_X8_isRow_1 : (tb_X8_isRow_1.all fun q => decide (decode cX8_isRow q.1 = .ok q.2)) = true := by decide +kernel
theorem dX8_isRow_0 : decode cX8_isRow 0 = .ok (.iload_n 0, 1) := tb_d tk_X8_isRow_1 0 (0, .iload_n 0, 1) rfl
theorem dX8_isRow_1 : decode cX8_isRow 1 = .ok (.iconst 0, 1) := tb_d tk_X8_isRow_1 1 (1, .iconst 0, 1) rfl
theorem dX8_isRow_2 : decode cX8_isRow 2 = .ok (.bipush 7, 2) := tb_d tk_X8_isRow_1 2 (2, .bipush 7, 2) rfl
theorem dX8_isRow_4 : decode cX8_isRow 4 = .ok (.invokestatic 56, 3) := tb_d tk_X8_isRow_1 3 (4, .invokestatic 56, 3) rfl
theorem dX8_isRow_7 : decode cX8_isRow 7 = .ok (.ireturn, 1) := tb_d tk_X8_isRow_1 4 (7, .ireturn, 1) rfl
def tb_X8_isMissing_1 : List (Nat × Instr × Nat) := [(0, .aload_n 0, 1), (1, .getfield 7, 3), (4, .iload_n 1, 1), (5, .iaload, 1), (6, .ldc 50, 2), (8, .if_icmp .ne 7, 3), (11, .iconst 1, 1), (12, .goto 4, 3), (15, .iconst 0, 1), (16, .ireturn, 1)]
set_option maxRecDepth 100000 in
theorem tk_X8_isMissing_1 : (tb_X8_isMissing_1.all fun q => decide (decode cX8_isMissing q.1 = .ok q.2)) = true := by decide +kernel
theorem dX8_isMissing_0 : decode cX8_isMissing 0 = .ok (.aload_n 0, 1) := tb_d tk_X8_isMissing_1 0 (0, .aload_n 0, 1) rfl
theorem dX8_isMissing_1 : decode cX8_isMissing 1 = .ok (.getfield 7, 3) := tb_d tk_X8_isMissing_1 1 (1, .getfield 7, 3) rfl
theorem dX8_isMissing_4 : decode cX8_isMissing 4 = .ok (.iload_n 1, 1) := tb_d tk_X8_isMissing_1 2 (4, .iload_n 1, 1) rfl
theorem dX8_isMissing_5 : decode cX8_isMissing 5 = .ok (.iaload, 1) := tb_d tk_X8_isMissing_1 3 (5, .iaload, 1) rfl
theorem dX8_isMissing_6 : decode cX8_isMissing 6 = .ok (.ldc 50, 2) := tb_d tk_X8_isMissing_1 4 (6, .ldc 50, 2) rfl
theorem dX8_isMissing_8 : decode cX8_isMissing 8 = .ok (.if_icmp .ne 7, 3) := tb_d tk_X8_isMissing_1 5 (8, .if_icmp .ne 7, 3) rfl
theorem dX8_isMissing_11 : decode cX8_isMissing 11 = .ok (.iconst 1, 1) := tb_d tk_X8_isMissing_1 6 (11, .iconst 1, 1) rfl
theorem dX8_isMissing_12 : decode cX8_isMissing 12 = .ok (.goto 4, 3) := tb_d tk_X8_isMissing_1 7 (12, .goto 4, 3) rfl
theorem dX8_isMissing_15 : decode cX8_isMissing 15 = .ok (.iconst 0, 1) := tb_d tk_X8_isMissing_1 8 (15, .iconst 0, 1) rfl
theorem dX8_isMissing_16 : decode cX8_isMissing 16 = .ok (.ireturn, 1) := tb_d tk_X8_isMissing_1 9 (16, .ireturn, 1) rfl
def tb_X8_cut_1 : List (Nat × Instr × Nat) := [(0, .iload_n 0, 1), (1, .ifCond .ne 13, 3), (4, .iload_n 1, 1), (5, .bipush 24, 2), (7, .ishl, 1), (8, .bipush 24, 2), (10, .ishr, 1), (11, .goto 19, 3), (14, .iload_n 0, 1), (15, .iconst 1, 1), (16, .if_icmp .ne 13, 3), (19, .iload_n 1, 1), (20, .bipush 16, 2), (22, .ishl, 1), (23, .bipush 16, 2), (25, .ishr, 1), (26, .goto 4, 3), (29, .iload_n 1, 1), (30, .ireturn, 1)]
set_option maxRecDepth 100000 in
theorem tk_X8_cut_1 : (tb_X8_cut_1.all fun q => decide (decode cX8_cut q.1 = .ok q.2)) = true := by decide +kernel
theorem dX8_cut_0 : decode cX8_cut 0 = .ok (.iload_n 0, 1) := tb_d tk_X8_cut_1 0 (0, .iload_n 0, 1) rfl
theorem dX8_cut_1 : decode cX8_cut 1 = .ok (.ifCond .ne 13, 3) := tb_d tk_X8_cut_1 1 (1, .ifCond .ne 13, 3) rfl
theorem dX8_cut_4 : decode cX8_cut 4 = .ok (.iload_n 1, 1) := tb_d tk_X8_cut_1 2 (4, .iload_n 1, 1) rfl
theorem dX8_cut_5 : decode cX8_cut 5 = .ok (.bipush 24, 2) := tb_d tk_X8_cut_1 3 (5, .bipush 24, 2) rfl
theorem dX8_cut_7 : decode cX8_cut 7 = .ok (.ishl, 1) := tb_d tk_X8_cut_1 4 (7, .ishl, 1) rfl
theorem dX8_cut_8 : decode cX8_cut 8 = .ok (.bipush 24, 2) := tb_d tk_X8_cut_1 5 (8, .bipush 24, 2) rfl
theorem dX8_cut_10 : decode cX8_cut 10 = .ok (.ishr, 1) := tb_d tk_X8_cut_1 6 (10, .ishr, 1) rfl
theorem dX8_cut_11 : decode cX8_cut 11 = .ok (.goto 19, 3) := tb_d tk_X8_cut_1 7 (11, .goto 19, 3) rfl
theorem dX8_cut_14 : decode cX8_cut 14 = .ok (.iload_n 0, 1) := tb_d tk_X8_cut_1 8 (14, .iload_n 0, 1) rfl
theorem dX8_cut_15 : decode cX8_cut 15 = .ok (.iconst 1, 1) := tb_d tk_X8_cut_1 9 (15, .iconst 1, 1) rfl
theorem dX8_cut_16 : decode cX8_cut 16 = .ok (.if_icmp .ne 13, 3) := tb_d tk_X8_cut_1 10 (16, .if_icmp .ne 13, 3) rfl
theorem dX8_cut_19 : decode cX8_cut 19 = .ok (.iload_n 1, 1) := tb_d tk_X8_cut_1 11 (19, .iload_n 1, 1) rfl
theorem dX8_cut_20 : decode cX8_cut 20 = .ok (.bipush 16, 2) := tb_d tk_X8_cut_1 12 (20, .bipush 16, 2) rfl
theorem dX8_cut_22 : decode cX8_cut 22 = .ok (.ishl, 1) := tb_d tk_X8_cut_1 13 (22, .ishl, 1) rfl
theorem dX8_cut_23 : decode cX8_cut 23 = .ok (.bipush 16, 2) := tb_d tk_X8_cut_1 14 (23, .bipush 16, 2) rfl
theorem dX8_cut_25 : decode cX8_cut 25 = .ok (.ishr, 1) := tb_d tk_X8_cut_1 15 (25, .ishr, 1) rfl
theorem dX8_cut_26 : decode cX8_cut 26 = .ok (.goto 4, 3) := tb_d tk_X8_cut_1 16 (26, .goto 4, 3) rfl
theorem dX8_cut_29 : decode cX8_cut 29 = .ok (.iload_n 1, 1) := tb_d tk_X8_cut_1 17 (29, .iload_n 1, 1) rfl
theorem dX8_cut_30 : decode cX8_cut 30 = .ok (.ireturn, 1) := tb_d tk_X8_cut_1 18 (30, .ireturn, 1) rfl
set_option maxRecDepth 20000 in
theorem ggX8_row_X8_isRow : GoodIn wsX8_row wsX8_isRow := goodIn_r _ [8, 9, 10, 7, 11] (by decide +kernel) (by decide +kernel)
set_option maxRecDepth 20000 in
theorem gX8_row_X8_isRow : GoodIn wsX8_row (va_wsS RX8 60 yX8_isRow wsX8_isRow) := goodIn_app (goodIn_of _ (by decide +kernel)) ggX8_row_X8_isRow
set_option maxRecDepth 20000 in
theorem ggX8_row_X8_in : GoodIn wsX8_row wsX8_in := goodIn_r _ [11] (by decide +kernel) (by decide +kernel)
set_option maxRecDepth 20000 in
theorem gX8_row_X8_in : GoodIn wsX8_row (va_wsS RX8 56 yX8_in wsX8_in) := goodIn_app (goodIn_of _ (by decide +kernel)) ggX8_row_X8_in
set_option maxRecDepth 20000 in
theorem ggX8_row_X8_found : GoodIn wsX8_row wsX8_found := goodIn_r _ [15, 16, 17, 22, 23, 24, 25, 26, 27, 28, 29, 30, 31, 32, 33, 34, 35, 36, 37, 38, 39, 40, 41, 42, 43, 44] (by decide +kernel) (by decide +kernel)
set_option maxRecDepth 20000 in
theorem gX8_row_X8_found : GoodIn wsX8_row (wsV RX8 65 RX8 yX8_found wsX8_found) := goodIn_app (goodIn_of _ (by decide +kernel)) ggX8_row_X8_found
set_option maxRecDepth 20000 in
theorem ggX8_row_X8_well : GoodIn wsX8_row wsX8_well := goodIn_r _ [21, 16, 22, 23, 24, 25, 26, 27, 28, 29, 30, 31, 32, 33, 34, 35, 36, 37, 38, 39, 40, 41, 42, 43, 44] (by decide +kernel) (by decide +kernel)
set_option maxRecDepth 20000 in
theorem gX8_row_X8_well : GoodIn wsX8_row (wsV RX8 69 RX8 yX8_well wsX8_well) := goodIn_app (goodIn_of _ (by decide +kernel)) ggX8_row_X8_well
def tb_X8_row_1 : List (Nat × Instr × Nat) := [(0, .iload_n 1, 1), (1, .invokestatic 60, 3), (4, .ifCond .eq 18, 3), (7, .iload_n 2, 1), (8, .iconst 0, 1), (9, .iconst 2, 1), (10, .invokestatic 56, 3), (13, .ifCond .eq 9, 3), (16, .iload_n 3, 1), (17, .bipush 40, 2), (19, .if_icmp .le 6, 3), (22, .ldc 64, 2), (24, .ireturn, 1), (25, .iload_n 3, 1), (26, .ifCond .ge 9, 3), (29, .aload_n 0, 1), (30, .iconst 4, 1), (31, .invokevirtual 65, 3), (34, .ireturn, 1), (35, .aload_n 0, 1), (36, .getfield 7, 3), (39, .iload_n 1, 1), (40, .iload_n 2, 1), (41, .iastore, 1), (42, .aload_n 0, 1), (43, .getfield 13, 3), (46, .iload_n 1, 1), (47, .iload_n 3, 1), (48, .iastore, 1), (49, .iconst 0, 1), (50, .istore 4, 2), (52, .iload 4, 2), (54, .bipush 40, 2), (56, .if_icmp .ge 22, 3), (59, .aload_n 0, 1), (60, .getfield 16, 3), (63, .bipush 40, 2), (65, .iload_n 1, 1), (66, .imul, 1), (67, .iload 4, 2)]
set_option maxRecDepth 100000 in
theorem tk_X8_row_1 : (tb_X8_row_1.all fun q => decide (decode cX8_row q.1 = .ok q.2)) = true := by decide +kernel
theorem dX8_row_0 : decode cX8_row 0 = .ok (.iload_n 1, 1) := tb_d tk_X8_row_1 0 (0, .iload_n 1, 1) rfl
theorem dX8_row_1 : decode cX8_row 1 = .ok (.invokestatic 60, 3) := tb_d tk_X8_row_1 1 (1, .invokestatic 60, 3) rfl
theorem dX8_row_4 : decode cX8_row 4 = .ok (.ifCond .eq 18, 3) := tb_d tk_X8_row_1 2 (4, .ifCond .eq 18, 3) rfl
theorem dX8_row_7 : decode cX8_row 7 = .ok (.iload_n 2, 1) := tb_d tk_X8_row_1 3 (7, .iload_n 2, 1) rfl
theorem dX8_row_8 : decode cX8_row 8 = .ok (.iconst 0, 1) := tb_d tk_X8_row_1 4 (8, .iconst 0, 1) rfl
theorem dX8_row_9 : decode cX8_row 9 = .ok (.iconst 2, 1) := tb_d tk_X8_row_1 5 (9, .iconst 2, 1) rfl
theorem dX8_row_10 : decode cX8_row 10 = .ok (.invokestatic 56, 3) := tb_d tk_X8_row_1 6 (10, .invokestatic 56, 3) rfl
theorem dX8_row_13 : decode cX8_row 13 = .ok (.ifCond .eq 9, 3) := tb_d tk_X8_row_1 7 (13, .ifCond .eq 9, 3) rfl
theorem dX8_row_16 : decode cX8_row 16 = .ok (.iload_n 3, 1) := tb_d tk_X8_row_1 8 (16, .iload_n 3, 1) rfl
theorem dX8_row_17 : decode cX8_row 17 = .ok (.bipush 40, 2) := tb_d tk_X8_row_1 9 (17, .bipush 40, 2) rfl
theorem dX8_row_19 : decode cX8_row 19 = .ok (.if_icmp .le 6, 3) := tb_d tk_X8_row_1 10 (19, .if_icmp .le 6, 3) rfl
theorem dX8_row_22 : decode cX8_row 22 = .ok (.ldc 64, 2) := tb_d tk_X8_row_1 11 (22, .ldc 64, 2) rfl
theorem dX8_row_24 : decode cX8_row 24 = .ok (.ireturn, 1) := tb_d tk_X8_row_1 12 (24, .ireturn, 1) rfl
theorem dX8_row_25 : decode cX8_row 25 = .ok (.iload_n 3, 1) := tb_d tk_X8_row_1 13 (25, .iload_n 3, 1) rfl
theorem dX8_row_26 : decode cX8_row 26 = .ok (.ifCond .ge 9, 3) := tb_d tk_X8_row_1 14 (26, .ifCond .ge 9, 3) rfl
theorem dX8_row_29 : decode cX8_row 29 = .ok (.aload_n 0, 1) := tb_d tk_X8_row_1 15 (29, .aload_n 0, 1) rfl
theorem dX8_row_30 : decode cX8_row 30 = .ok (.iconst 4, 1) := tb_d tk_X8_row_1 16 (30, .iconst 4, 1) rfl
theorem dX8_row_31 : decode cX8_row 31 = .ok (.invokevirtual 65, 3) := tb_d tk_X8_row_1 17 (31, .invokevirtual 65, 3) rfl
theorem dX8_row_34 : decode cX8_row 34 = .ok (.ireturn, 1) := tb_d tk_X8_row_1 18 (34, .ireturn, 1) rfl
theorem dX8_row_35 : decode cX8_row 35 = .ok (.aload_n 0, 1) := tb_d tk_X8_row_1 19 (35, .aload_n 0, 1) rfl
theorem dX8_row_36 : decode cX8_row 36 = .ok (.getfield 7, 3) := tb_d tk_X8_row_1 20 (36, .getfield 7, 3) rfl
theorem dX8_row_39 : decode cX8_row 39 = .ok (.iload_n 1, 1) := tb_d tk_X8_row_1 21 (39, .iload_n 1, 1) rfl
theorem dX8_row_40 : decode cX8_row 40 = .ok (.iload_n 2, 1) := tb_d tk_X8_row_1 22 (40, .iload_n 2, 1) rfl
theorem dX8_row_41 : decode cX8_row 41 = .ok (.iastore, 1) := tb_d tk_X8_row_1 23 (41, .iastore, 1) rfl
theorem dX8_row_42 : decode cX8_row 42 = .ok (.aload_n 0, 1) := tb_d tk_X8_row_1 24 (42, .aload_n 0, 1) rfl
theorem dX8_row_43 : decode cX8_row 43 = .ok (.getfield 13, 3) := tb_d tk_X8_row_1 25 (43, .getfield 13, 3) rfl
theorem dX8_row_46 : decode cX8_row 46 = .ok (.iload_n 1, 1) := tb_d tk_X8_row_1 26 (46, .iload_n 1, 1) rfl
theorem dX8_row_47 : decode cX8_row 47 = .ok (.iload_n 3, 1) := tb_d tk_X8_row_1 27 (47, .iload_n 3, 1) rfl
theorem dX8_row_48 : decode cX8_row 48 = .ok (.iastore, 1) := tb_d tk_X8_row_1 28 (48, .iastore, 1) rfl
theorem dX8_row_49 : decode cX8_row 49 = .ok (.iconst 0, 1) := tb_d tk_X8_row_1 29 (49, .iconst 0, 1) rfl
theorem dX8_row_50 : decode cX8_row 50 = .ok (.istore 4, 2) := tb_d tk_X8_row_1 30 (50, .istore 4, 2) rfl
theorem dX8_row_52 : decode cX8_row 52 = .ok (.iload 4, 2) := tb_d tk_X8_row_1 31 (52, .iload 4, 2) rfl
theorem dX8_row_54 : decode cX8_row 54 = .ok (.bipush 40, 2) := tb_d tk_X8_row_1 32 (54, .bipush 40, 2) rfl
theorem dX8_row_56 : decode cX8_row 56 = .ok (.if_icmp .ge 22, 3) := tb_d tk_X8_row_1 33 (56, .if_icmp .ge 22, 3) rfl
theorem dX8_row_59 : decode cX8_row 59 = .ok (.aload_n 0, 1) := tb_d tk_X8_row_1 34 (59, .aload_n 0, 1) rfl
theorem dX8_row_60 : decode cX8_row 60 = .ok (.getfield 16, 3) := tb_d tk_X8_row_1 35 (60, .getfield 16, 3) rfl
theorem dX8_row_63 : decode cX8_row 63 = .ok (.bipush 40, 2) := tb_d tk_X8_row_1 36 (63, .bipush 40, 2) rfl
theorem dX8_row_65 : decode cX8_row 65 = .ok (.iload_n 1, 1) := tb_d tk_X8_row_1 37 (65, .iload_n 1, 1) rfl
theorem dX8_row_66 : decode cX8_row 66 = .ok (.imul, 1) := tb_d tk_X8_row_1 38 (66, .imul, 1) rfl
theorem dX8_row_67 : decode cX8_row 67 = .ok (.iload 4, 2) := tb_d tk_X8_row_1 39 (67, .iload 4, 2) rfl
def tb_X8_row_2 : List (Nat × Instr × Nat) := [(69, .iadd, 1), (70, .iconst 0, 1), (71, .iastore, 1), (72, .iinc 4 1, 3), (75, .goto (-23), 3), (78, .aload_n 0, 1), (79, .iload_n 3, 1), (80, .invokevirtual 69, 3), (83, .ireturn, 1)]
set_option maxRecDepth 100000 in
theorem tk_X8_row_2 : (tb_X8_row_2.all fun q => decide (decode cX8_row q.1 = .ok q.2)) = true := by decide +kernel
theorem dX8_row_69 : decode cX8_row 69 = .ok (.iadd, 1) := tb_d tk_X8_row_2 0 (69, .iadd, 1) rfl
theorem dX8_row_70 : decode cX8_row 70 = .ok (.iconst 0, 1) := tb_d tk_X8_row_2 1 (70, .iconst 0, 1) rfl
theorem dX8_row_71 : decode cX8_row 71 = .ok (.iastore, 1) := tb_d tk_X8_row_2 2 (71, .iastore, 1) rfl
theorem dX8_row_72 : decode cX8_row 72 = .ok (.iinc 4 1, 3) := tb_d tk_X8_row_2 3 (72, .iinc 4 1, 3) rfl
theorem dX8_row_75 : decode cX8_row 75 = .ok (.goto (-23), 3) := tb_d tk_X8_row_2 4 (75, .goto (-23), 3) rfl
theorem dX8_row_78 : decode cX8_row 78 = .ok (.aload_n 0, 1) := tb_d tk_X8_row_2 5 (78, .aload_n 0, 1) rfl
theorem dX8_row_79 : decode cX8_row 79 = .ok (.iload_n 3, 1) := tb_d tk_X8_row_2 6 (79, .iload_n 3, 1) rfl
theorem dX8_row_80 : decode cX8_row 80 = .ok (.invokevirtual 69, 3) := tb_d tk_X8_row_2 7 (80, .invokevirtual 69, 3) rfl
theorem dX8_row_83 : decode cX8_row 83 = .ok (.ireturn, 1) := tb_d tk_X8_row_2 8 (83, .ireturn, 1) rfl
set_option maxRecDepth 20000 in
theorem ggX8_set_X8_isRow : GoodIn wsX8_set wsX8_isRow := goodIn_r _ [8, 9, 10, 7, 11] (by decide +kernel) (by decide +kernel)
set_option maxRecDepth 20000 in
theorem gX8_set_X8_isRow : GoodIn wsX8_set (va_wsS RX8 60 yX8_isRow wsX8_isRow) := goodIn_app (goodIn_of _ (by decide +kernel)) ggX8_set_X8_isRow
set_option maxRecDepth 20000 in
theorem ggX8_set_X8_isMissing : GoodIn wsX8_set wsX8_isMissing := goodIn_r _ [15, 4, 16, 30, 31, 32, 33, 34, 35, 36, 37, 38, 39, 40, 41, 42, 43, 44, 45, 46, 47, 48, 49, 50, 51, 52] (by decide +kernel) (by decide +kernel)
set_option maxRecDepth 20000 in
theorem gX8_set_X8_isMissing : GoodIn wsX8_set (wsV RX8 72 RX8 yX8_isMissing wsX8_isMissing) := goodIn_app (goodIn_of _ (by decide +kernel)) ggX8_set_X8_isMissing
set_option maxRecDepth 20000 in
theorem ggX8_set_X8_found : GoodIn wsX8_set wsX8_found := goodIn_r _ [20, 21, 22, 30, 31, 32, 33, 34, 35, 36, 37, 38, 39, 40, 41, 42, 43, 44, 45, 46, 47, 48, 49, 50, 51, 52] (by decide +kernel) (by decide +kernel)
set_option maxRecDepth 20000 in
theorem gX8_set_X8_found : GoodIn wsX8_set (wsV RX8 65 RX8 yX8_found wsX8_found) := goodIn_app (goodIn_of _ (by decide +kernel)) ggX8_set_X8_found
