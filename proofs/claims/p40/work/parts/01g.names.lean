theorem dX8_init_0 : decode cX8_init 0 = .ok (.aload_n 0, 1) := tb_d tk_X8_init_1 0 (0, .aload_n 0, 1) rfl
theorem dX8_init_1 : decode cX8_init 1 = .ok (.invokespecial 1, 3) := tb_d tk_X8_init_1 1 (1, .invokespecial 1, 3) rfl
theorem dX8_init_4 : decode cX8_init 4 = .ok (.aload_n 0, 1) := tb_d tk_X8_init_1 2 (4, .aload_n 0, 1) rfl
theorem dX8_init_5 : decode cX8_init 5 = .ok (.bipush 8, 2) := tb_d tk_X8_init_1 3 (5, .bipush 8, 2) rfl
theorem dX8_init_7 : decode cX8_init 7 = .ok (.newarray .int, 2) := tb_d tk_X8_init_1 4 (7, .newarray .int, 2) rfl
theorem dX8_init_9 : decode cX8_init 9 = .ok (.putfield 7, 3) := tb_d tk_X8_init_1 5 (9, .putfield 7, 3) rfl
theorem dX8_init_12 : decode cX8_init 12 = .ok (.aload_n 0, 1) := tb_d tk_X8_init_1 6 (12, .aload_n 0, 1) rfl
theorem dX8_init_13 : decode cX8_init 13 = .ok (.bipush 8, 2) := tb_d tk_X8_init_1 7 (13, .bipush 8, 2) rfl
theorem dX8_init_15 : decode cX8_init 15 = .ok (.newarray .int, 2) := tb_d tk_X8_init_1 8 (15, .newarray .int, 2) rfl
theorem dX8_init_17 : decode cX8_init 17 = .ok (.putfield 13, 3) := tb_d tk_X8_init_1 9 (17, .putfield 13, 3) rfl
theorem dX8_init_20 : decode cX8_init 20 = .ok (.aload_n 0, 1) := tb_d tk_X8_init_1 10 (20, .aload_n 0, 1) rfl
theorem dX8_init_21 : decode cX8_init 21 = .ok (.sipush 320, 3) := tb_d tk_X8_init_1 11 (21, .sipush 320, 3) rfl
theorem dX8_init_24 : decode cX8_init 24 = .ok (.newarray .int, 2) := tb_d tk_X8_init_1 12 (24, .newarray .int, 2) rfl
theorem dX8_init_26 : decode cX8_init 26 = .ok (.putfield 16, 3) := tb_d tk_X8_init_1 13 (26, .putfield 16, 3) rfl
theorem dX8_init_29 : decode cX8_init 29 = .ok (.aload_n 0, 1) := tb_d tk_X8_init_1 14 (29, .aload_n 0, 1) rfl
theorem dX8_init_30 : decode cX8_init 30 = .ok (.bipush 40, 2) := tb_d tk_X8_init_1 15 (30, .bipush 40, 2) rfl
theorem dX8_init_32 : decode cX8_init 32 = .ok (.newarray .int, 2) := tb_d tk_X8_init_1 16 (32, .newarray .int, 2) rfl
theorem dX8_init_34 : decode cX8_init 34 = .ok (.putfield 19, 3) := tb_d tk_X8_init_1 17 (34, .putfield 19, 3) rfl
theorem dX8_init_37 : decode cX8_init 37 = .ok (.aload_n 0, 1) := tb_d tk_X8_init_1 18 (37, .aload_n 0, 1) rfl
theorem dX8_init_38 : decode cX8_init 38 = .ok (.bipush 100, 2) := tb_d tk_X8_init_1 19 (38, .bipush 100, 2) rfl
theorem dX8_init_40 : decode cX8_init 40 = .ok (.newarray .int, 2) := tb_d tk_X8_init_1 20 (40, .newarray .int, 2) rfl
theorem dX8_init_42 : decode cX8_init 42 = .ok (.putfield 22, 3) := tb_d tk_X8_init_1 21 (42, .putfield 22, 3) rfl
theorem dX8_init_45 : decode cX8_init 45 = .ok (.aload_n 0, 1) := tb_d tk_X8_init_1 22 (45, .aload_n 0, 1) rfl
theorem dX8_init_46 : decode cX8_init 46 = .ok (.bipush 65, 2) := tb_d tk_X8_init_1 23 (46, .bipush 65, 2) rfl
theorem dX8_init_48 : decode cX8_init 48 = .ok (.newarray .int, 2) := tb_d tk_X8_init_1 24 (48, .newarray .int, 2) rfl
theorem dX8_init_50 : decode cX8_init 50 = .ok (.putfield 25, 3) := tb_d tk_X8_init_1 25 (50, .putfield 25, 3) rfl
theorem dX8_init_53 : decode cX8_init 53 = .ok (.aload_n 0, 1) := tb_d tk_X8_init_1 26 (53, .aload_n 0, 1) rfl
theorem dX8_init_54 : decode cX8_init 54 = .ok (.bipush 65, 2) := tb_d tk_X8_init_1 27 (54, .bipush 65, 2) rfl
theorem dX8_init_56 : decode cX8_init 56 = .ok (.newarray .int, 2) := tb_d tk_X8_init_1 28 (56, .newarray .int, 2) rfl
theorem dX8_init_58 : decode cX8_init 58 = .ok (.putfield 28, 3) := tb_d tk_X8_init_1 29 (58, .putfield 28, 3) rfl
theorem dX8_init_61 : decode cX8_init 61 = .ok (.aload_n 0, 1) := tb_d tk_X8_init_1 30 (61, .aload_n 0, 1) rfl
theorem dX8_init_62 : decode cX8_init 62 = .ok (.bipush 65, 2) := tb_d tk_X8_init_1 31 (62, .bipush 65, 2) rfl
theorem dX8_init_64 : decode cX8_init 64 = .ok (.newarray .int, 2) := tb_d tk_X8_init_1 32 (64, .newarray .int, 2) rfl
theorem dX8_init_66 : decode cX8_init 66 = .ok (.putfield 31, 3) := tb_d tk_X8_init_1 33 (66, .putfield 31, 3) rfl
theorem dX8_init_69 : decode cX8_init 69 = .ok (.aload_n 0, 1) := tb_d tk_X8_init_1 34 (69, .aload_n 0, 1) rfl
theorem dX8_init_70 : decode cX8_init 70 = .ok (.sipush 1560, 3) := tb_d tk_X8_init_1 35 (70, .sipush 1560, 3) rfl
theorem dX8_init_73 : decode cX8_init 73 = .ok (.newarray .int, 2) := tb_d tk_X8_init_1 36 (73, .newarray .int, 2) rfl
theorem dX8_init_75 : decode cX8_init 75 = .ok (.putfield 34, 3) := tb_d tk_X8_init_1 37 (75, .putfield 34, 3) rfl
theorem dX8_init_78 : decode cX8_init 78 = .ok (.aload_n 0, 1) := tb_d tk_X8_init_1 38 (78, .aload_n 0, 1) rfl
theorem dX8_init_79 : decode cX8_init 79 = .ok (.sipush 130, 3) := tb_d tk_X8_init_1 39 (79, .sipush 130, 3) rfl
def tb_X8_init_2 : List (Nat × Instr × Nat) := [(82, .newarray .int, 2), (84, .putfield 37, 3), (87, .aload_n 0, 1), (88, .iconst 2, 1), (89, .newarray .boolean, 2), (91, .putfield 40, 3), (94, .aload_n 0, 1), (95, .bipush 64, 2), (97, .newarray .int, 2), (99, .putfield 44, 3), (102, .aload_n 0, 1), (103, .bipush 16, 2), (105, .newarray .int, 2), (107, .putfield 47, 3), (110, .iconst 0, 1), (111, .istore_n 1, 1), (112, .iload_n 1, 1), (113, .bipush 8, 2), (115, .if_icmp .ge 17, 3), (118, .aload_n 0, 1), (119, .getfield 7, 3), (122, .iload_n 1, 1), (123, .ldc 50, 2), (125, .iastore, 1), (126, .iinc 1 1, 3), (129, .goto (-17), 3), (132, .return_, 1)]
set_option maxRecDepth 100000 in
theorem tk_X8_init_2 : (tb_X8_init_2.all fun q => decide (decode cX8_init q.1 = .ok q.2)) = true := by decide +kernel
theorem dX8_init_82 : decode cX8_init 82 = .ok (.newarray .int, 2) := tb_d tk_X8_init_2 0 (82, .newarray .int, 2) rfl
theorem dX8_init_84 : decode cX8_init 84 = .ok (.putfield 37, 3) := tb_d tk_X8_init_2 1 (84, .putfield 37, 3) rfl
theorem dX8_init_87 : decode cX8_init 87 = .ok (.aload_n 0, 1) := tb_d tk_X8_init_2 2 (87, .aload_n 0, 1) rfl
theorem dX8_init_88 : decode cX8_init 88 = .ok (.iconst 2, 1) := tb_d tk_X8_init_2 3 (88, .iconst 2, 1) rfl
theorem dX8_init_89 : decode cX8_init 89 = .ok (.newarray .boolean, 2) := tb_d tk_X8_init_2 4 (89, .newarray .boolean, 2) rfl
theorem dX8_init_91 : decode cX8_init 91 = .ok (.putfield 40, 3) := tb_d tk_X8_init_2 5 (91, .putfield 40, 3) rfl
theorem dX8_init_94 : decode cX8_init 94 = .ok (.aload_n 0, 1) := tb_d tk_X8_init_2 6 (94, .aload_n 0, 1) rfl
theorem dX8_init_95 : decode cX8_init 95 = .ok (.bipush 64, 2) := tb_d tk_X8_init_2 7 (95, .bipush 64, 2) rfl
theorem dX8_init_97 : decode cX8_init 97 = .ok (.newarray .int, 2) := tb_d tk_X8_init_2 8 (97, .newarray .int, 2) rfl
theorem dX8_init_99 : decode cX8_init 99 = .ok (.putfield 44, 3) := tb_d tk_X8_init_2 9 (99, .putfield 44, 3) rfl
theorem dX8_init_102 : decode cX8_init 102 = .ok (.aload_n 0, 1) := tb_d tk_X8_init_2 10 (102, .aload_n 0, 1) rfl
theorem dX8_init_103 : decode cX8_init 103 = .ok (.bipush 16, 2) := tb_d tk_X8_init_2 11 (103, .bipush 16, 2) rfl
theorem dX8_init_105 : decode cX8_init 105 = .ok (.newarray .int, 2) := tb_d tk_X8_init_2 12 (105, .newarray .int, 2) rfl
theorem dX8_init_107 : decode cX8_init 107 = .ok (.putfield 47, 3) := tb_d tk_X8_init_2 13 (107, .putfield 47, 3) rfl
theorem dX8_init_110 : decode cX8_init 110 = .ok (.iconst 0, 1) := tb_d tk_X8_init_2 14 (110, .iconst 0, 1) rfl
theorem dX8_init_111 : decode cX8_init 111 = .ok (.istore_n 1, 1) := tb_d tk_X8_init_2 15 (111, .istore_n 1, 1) rfl
theorem dX8_init_112 : decode cX8_init 112 = .ok (.iload_n 1, 1) := tb_d tk_X8_init_2 16 (112, .iload_n 1, 1) rfl
theorem dX8_init_113 : decode cX8_init 113 = .ok (.bipush 8, 2) := tb_d tk_X8_init_2 17 (113, .bipush 8, 2) rfl
theorem dX8_init_115 : decode cX8_init 115 = .ok (.if_icmp .ge 17, 3) := tb_d tk_X8_init_2 18 (115, .if_icmp .ge 17, 3) rfl
theorem dX8_init_118 : decode cX8_init 118 = .ok (.aload_n 0, 1) := tb_d tk_X8_init_2 19 (118, .aload_n 0, 1) rfl
theorem dX8_init_119 : decode cX8_init 119 = .ok (.getfield 7, 3) := tb_d tk_X8_init_2 20 (119, .getfield 7, 3) rfl
theorem dX8_init_122 : decode cX8_init 122 = .ok (.iload_n 1, 1) := tb_d tk_X8_init_2 21 (122, .iload_n 1, 1) rfl
theorem dX8_init_123 : decode cX8_init 123 = .ok (.ldc 50, 2) := tb_d tk_X8_init_2 22 (123, .ldc 50, 2) rfl
theorem dX8_init_125 : decode cX8_init 125 = .ok (.iastore, 1) := tb_d tk_X8_init_2 23 (125, .iastore, 1) rfl
theorem dX8_init_126 : decode cX8_init 126 = .ok (.iinc 1 1, 3) := tb_d tk_X8_init_2 24 (126, .iinc 1 1, 3) rfl
theorem dX8_init_129 : decode cX8_init 129 = .ok (.goto (-17), 3) := tb_d tk_X8_init_2 25 (129, .goto (-17), 3) rfl
theorem dX8_init_132 : decode cX8_init 132 = .ok (.return_, 1) := tb_d tk_X8_init_2 26 (132, .return_, 1) rfl
def tb_X8_in_1 : List (Nat × Instr × Nat) := [(0, .iload_n 0, 1), (1, .iload_n 1, 1), (2, .if_icmp .lt 12, 3), (5, .iload_n 0, 1), (6, .iload_n 2, 1), (7, .if_icmp .gt 7, 3), (10, .iconst 1, 1), (11, .goto 4, 3), (14, .iconst 0, 1), (15, .ireturn, 1)]
set_option maxRecDepth 100000 in
theorem tk_X8_in_1 : (tb_X8_in_1.all fun q => decide (decode cX8_in q.1 = .ok q.2)) = true := by decide +kernel
theorem dX8_in_0 : decode cX8_in 0 = .ok (.iload_n 0, 1) := tb_d tk_X8_in_1 0 (0, .iload_n 0, 1) rfl
theorem dX8_in_1 : decode cX8_in 1 = .ok (.iload_n 1, 1) := tb_d tk_X8_in_1 1 (1, .iload_n 1, 1) rfl
theorem dX8_in_2 : decode cX8_in 2 = .ok (.if_icmp .lt 12, 3) := tb_d tk_X8_in_1 2 (2, .if_icmp .lt 12, 3) rfl
theorem dX8_in_5 : decode cX8_in 5 = .ok (.iload_n 0, 1) := tb_d tk_X8_in_1 3 (5, .iload_n 0, 1) rfl
theorem dX8_in_6 : decode cX8_in 6 = .ok (.iload_n 2, 1) := tb_d tk_X8_in_1 4 (6, .iload_n 2, 1) rfl
theorem dX8_in_7 : decode cX8_in 7 = .ok (.if_icmp .gt 7, 3) := tb_d tk_X8_in_1 5 (7, .if_icmp .gt 7, 3) rfl
theorem dX8_in_10 : decode cX8_in 10 = .ok (.iconst 1, 1) := tb_d tk_X8_in_1 6 (10, .iconst 1, 1) rfl
theorem dX8_in_11 : decode cX8_in 11 = .ok (.goto 4, 3) := tb_d tk_X8_in_1 7 (11, .goto 4, 3) rfl
theorem dX8_in_14 : decode cX8_in 14 = .ok (.iconst 0, 1) := tb_d tk_X8_in_1 8 (14, .iconst 0, 1) rfl
theorem dX8_in_15 : decode cX8_in 15 = .ok (.ireturn, 1) := tb_d tk_X8_in_1 9 (15, .ireturn, 1) rfl
def tb_X8_has_1 : List (Nat × Instr × Nat) := [(0, .iload_n 0, 1), (1, .iload_n 1, 1), (2, .ishr, 1), (3, .iconst 1, 1), (4, .iand, 1), (5, .iconst 1, 1), (6, .if_icmp .ne 7, 3), (9, .iconst 1, 1), (10, .goto 4, 3), (13, .iconst 0, 1), (14, .ireturn, 1)]
set_option maxRecDepth 100000 in
theorem tk_X8_has_1 : (tb_X8_has_1.all fun q => decide (decode cX8_has q.1 = .ok q.2)) = true := by decide +kernel
theorem dX8_has_0 : decode cX8_has 0 = .ok (.iload_n 0, 1) := tb_d tk_X8_has_1 0 (0, .iload_n 0, 1) rfl
theorem dX8_has_1 : decode cX8_has 1 = .ok (.iload_n 1, 1) := tb_d tk_X8_has_1 1 (1, .iload_n 1, 1) rfl
theorem dX8_has_2 : decode cX8_has 2 = .ok (.ishr, 1) := tb_d tk_X8_has_1 2 (2, .ishr, 1) rfl
theorem dX8_has_3 : decode cX8_has 3 = .ok (.iconst 1, 1) := tb_d tk_X8_has_1 3 (3, .iconst 1, 1) rfl
theorem dX8_has_4 : decode cX8_has 4 = .ok (.iand, 1) := tb_d tk_X8_has_1 4 (4, .iand, 1) rfl
theorem dX8_has_5 : decode cX8_has 5 = .ok (.iconst 1, 1) := tb_d tk_X8_has_1 5 (5, .iconst 1, 1) rfl
theorem dX8_has_6 : decode cX8_has 6 = .ok (.if_icmp .ne 7, 3) := tb_d tk_X8_has_1 6 (6, .if_icmp .ne 7, 3) rfl
theorem dX8_has_9 : decode cX8_has 9 = .ok (.iconst 1, 1) := tb_d tk_X8_has_1 7 (9, .iconst 1, 1) rfl
theorem dX8_has_10 : decode cX8_has 10 = .ok (.goto 4, 3) := tb_d tk_X8_has_1 8 (10, .goto 4, 3) rfl
theorem dX8_has_13 : decode cX8_has 13 = .ok (.iconst 0, 1) := tb_d tk_X8_has_1 9 (13, .iconst 0, 1) rfl
theorem dX8_has_14 : decode cX8_has 14 = .ok (.ireturn, 1) := tb_d tk_X8_has_1 10 (14, .ireturn, 1) rfl
def tb_X8_ones_1 : List (Nat × Instr × Nat) := [(0, .iconst 0, 1), (1, .istore_n 1, 1), (2, .iconst 0, 1), (3, .istore_n 2, 1), (4, .iload_n 2, 1), (5, .bipush 8, 2), (7, .if_icmp .ge 17, 3), (10, .iload_n 1, 1), (11, .iload_n 0, 1), (12, .iload_n 2, 1), (13, .ishr, 1), (14, .iconst 1, 1), (15, .iand, 1), (16, .iadd, 1), (17, .istore_n 1, 1), (18, .iinc 2 1, 3), (21, .goto (-17), 3), (24, .iload_n 1, 1), (25, .ireturn, 1)]
set_option maxRecDepth 100000 in
theorem tk_X8_ones_1 : (tb_X8_ones_1.all fun q => decide (decode cX8_ones q.1 = .ok q.2)) = true := by decide +kernel
theorem dX8_ones_0 : decode cX8_ones 0 = .ok (.iconst 0, 1) := tb_d tk_X8_ones_1 0 (0, .iconst 0, 1) rfl
theorem dX8_ones_1 : decode cX8_ones 1 = .ok (.istore_n 1, 1) := tb_d tk_X8_ones_1 1 (1, .istore_n 1, 1) rfl
theorem dX8_ones_2 : decode cX8_ones 2 = .ok (.iconst 0, 1) := tb_d tk_X8_ones_1 2 (2, .iconst 0, 1) rfl
theorem dX8_ones_3 : decode cX8_ones 3 = .ok (.istore_n 2, 1) := tb_d tk_X8_ones_1 3 (3, .istore_n 2, 1) rfl
theorem dX8_ones_4 : decode cX8_ones 4 = .ok (.iload_n 2, 1) := tb_d tk_X8_ones_1 4 (4, .iload_n 2, 1) rfl
theorem dX8_ones_5 : decode cX8_ones 5 = .ok (.bipush 8, 2) := tb_d tk_X8_ones_1 5 (5, .bipush 8, 2) rfl
theorem dX8_ones_7 : decode cX8_ones 7 = .ok (.if_icmp .ge 17, 3) := tb_d tk_X8_ones_1 6 (7, .if_icmp .ge 17, 3) rfl
theorem dX8_ones_10 : decode cX8_ones 10 = .ok (.iload_n 1, 1) := tb_d tk_X8_ones_1 7 (10, .iload_n 1, 1) rfl
theorem dX8_ones_11 : decode cX8_ones 11 = .ok (.iload_n 0, 1) := tb_d tk_X8_ones_1 8 (11, .iload_n 0, 1) rfl
theorem dX8_ones_12 : decode cX8_ones 12 = .ok (.iload_n 2, 1) := tb_d tk_X8_ones_1 9 (12, .iload_n 2, 1) rfl
theorem dX8_ones_13 : decode cX8_ones 13 = .ok (.ishr, 1) := tb_d tk_X8_ones_1 10 (13, .ishr, 1) rfl
theorem dX8_ones_14 : decode cX8_ones 14 = .ok (.iconst 1, 1) := tb_d tk_X8_ones_1 11 (14, .iconst 1, 1) rfl
theorem dX8_ones_15 : decode cX8_ones 15 = .ok (.iand, 1) := tb_d tk_X8_ones_1 12 (15, .iand, 1) rfl
theorem dX8_ones_16 : decode cX8_ones 16 = .ok (.iadd, 1) := tb_d tk_X8_ones_1 13 (16, .iadd, 1) rfl
theorem dX8_ones_17 : decode cX8_ones 17 = .ok (.istore_n 1, 1) := tb_d tk_X8_ones_1 14 (17, .istore_n 1, 1) rfl
theorem dX8_ones_18 : decode cX8_ones 18 = .ok (.iinc 2 1, 3) := tb_d tk_X8_ones_1 15 (18, .iinc 2 1, 3) rfl
theorem dX8_ones_21 : decode cX8_ones 21 = .ok (.goto (-17), 3) := tb_d tk_X8_ones_1 16 (21, .goto (-17), 3) rfl
theorem dX8_ones_24 : decode cX8_ones 24 = .ok (.iload_n 1, 1) := tb_d tk_X8_ones_1 17 (24, .iload_n 1, 1) rfl
theorem dX8_ones_25 : decode cX8_ones 25 = .ok (.ireturn, 1) := tb_d tk_X8_ones_1 18 (25, .ireturn, 1) rfl
def tb_X8_found_1 : List (Nat × Instr × Nat) := [(0, .aload_n 0, 1), (1, .iload_n 1, 1), (2, .putfield 51, 3), (5, .ldc 55, 2), (7, .iload_n 1, 1), (8, .isub, 1), (9, .ireturn, 1)]
set_option maxRecDepth 100000 in
theorem tk_X8_found_1 : (tb_X8_found_1.all fun q => decide (decode cX8_found q.1 = .ok q.2)) = true := by decide +kernel
theorem dX8_found_0 : decode cX8_found 0 = .ok (.aload_n 0, 1) := tb_d tk_X8_found_1 0 (0, .aload_n 0, 1) rfl
theorem dX8_found_1 : decode cX8_found 1 = .ok (.iload_n 1, 1) := tb_d tk_X8_found_1 1 (1, .iload_n 1, 1) rfl
theorem dX8_found_2 : decode cX8_found 2 = .ok (.putfield 51, 3) := tb_d tk_X8_found_1 2 (2, .putfield 51, 3) rfl
theorem dX8_found_5 : decode cX8_found 5 = .ok (.ldc 55, 2) := tb_d tk_X8_found_1 3 (5, .ldc 55, 2) rfl
theorem dX8_found_7 : decode cX8_found 7 = .ok (.iload_n 1, 1) := tb_d tk_X8_found_1 4 (7, .iload_n 1, 1) rfl
theorem dX8_found_8 : decode cX8_found 8 = .ok (.isub, 1) := tb_d tk_X8_found_1 5 (8, .isub, 1) rfl
theorem dX8_found_9 : decode cX8_found 9 = .ok (.ireturn, 1) := tb_d tk_X8_found_1 6 (9, .ireturn, 1) rfl
def tb_X8_well_1 : List (Nat × Instr × Nat) := [(0, .aload_n 0, 1), (1, .iconst 0, 1), (2, .putfield 51, 3), (5, .iload_n 1, 1), (6, .ireturn, 1)]
set_option maxRecDepth 100000 in
theorem tk_X8_well_1 : (tb_X8_well_1.all fun q => decide (decode cX8_well q.1 = .ok q.2)) = true := by decide +kernel
theorem dX8_well_0 : decode cX8_well 0 = .ok (.aload_n 0, 1) := tb_d tk_X8_well_1 0 (0, .aload_n 0, 1) rfl
theorem dX8_well_1 : decode cX8_well 1 = .ok (.iconst 0, 1) := tb_d tk_X8_well_1 1 (1, .iconst 0, 1) rfl
theorem dX8_well_2 : decode cX8_well 2 = .ok (.putfield 51, 3) := tb_d tk_X8_well_1 2 (2, .putfield 51, 3) rfl
theorem dX8_well_5 : decode cX8_well 5 = .ok (.iload_n 1, 1) := tb_d tk_X8_well_1 3 (5, .iload_n 1, 1) rfl
theorem dX8_well_6 : decode cX8_well 6 = .ok (.ireturn, 1) := tb_d tk_X8_well_1 4 (6, .ireturn, 1) rfl
def tb_X8_copies_1 : List (Nat × Instr × Nat) := [(0, .iconst 0, 1), (1, .istore 4, 2), (3, .iload 4, 2), (5, .bipush 65, 2), (7, .if_icmp .ge 21, 3), (10, .aload_n 2, 1), (11, .iload_n 3, 1), (12, .iload 4, 2), (14, .iadd, 1), (15, .aload_n 0, 1), (16, .iload_n 1, 1), (17, .iload 4, 2), (19, .iadd, 1), (20, .iaload, 1), (21, .iastore, 1), (22, .iinc 4 1, 3), (25, .goto (-22), 3), (28, .return_, 1)]
set_option maxRecDepth 100000 in
theorem tk_X8_copies_1 : (tb_X8_copies_1.all fun q => decide (decode cX8_copies q.1 = .ok q.2)) = true := by decide +kernel
theorem dX8_copies_0 : decode cX8_copies 0 = .ok (.iconst 0, 1) := tb_d tk_X8_copies_1 0 (0, .iconst 0, 1) rfl
theorem dX8_copies_1 : decode cX8_copies 1 = .ok (.istore 4, 2) := tb_d tk_X8_copies_1 1 (1, .istore 4, 2) rfl
theorem dX8_copies_3 : decode cX8_copies 3 = .ok (.iload 4, 2) := tb_d tk_X8_copies_1 2 (3, .iload 4, 2) rfl
theorem dX8_copies_5 : decode cX8_copies 5 = .ok (.bipush 65, 2) := tb_d tk_X8_copies_1 3 (5, .bipush 65, 2) rfl
theorem dX8_copies_7 : decode cX8_copies 7 = .ok (.if_icmp .ge 21, 3) := tb_d tk_X8_copies_1 4 (7, .if_icmp .ge 21, 3) rfl
theorem dX8_copies_10 : decode cX8_copies 10 = .ok (.aload_n 2, 1) := tb_d tk_X8_copies_1 5 (10, .aload_n 2, 1) rfl
theorem dX8_copies_11 : decode cX8_copies 11 = .ok (.iload_n 3, 1) := tb_d tk_X8_copies_1 6 (11, .iload_n 3, 1) rfl
theorem dX8_copies_12 : decode cX8_copies 12 = .ok (.iload 4, 2) := tb_d tk_X8_copies_1 7 (12, .iload 4, 2) rfl
theorem dX8_copies_14 : decode cX8_copies 14 = .ok (.iadd, 1) := tb_d tk_X8_copies_1 8 (14, .iadd, 1) rfl
theorem dX8_copies_15 : decode cX8_copies 15 = .ok (.aload_n 0, 1) := tb_d tk_X8_copies_1 9 (15, .aload_n 0, 1) rfl
theorem dX8_copies_16 : decode cX8_copies 16 = .ok (.iload_n 1, 1) := tb_d tk_X8_copies_1 10 (16, .iload_n 1, 1) rfl
theorem dX8_copies_17 : decode cX8_copies 17 = .ok (.iload 4, 2) := tb_d tk_X8_copies_1 11 (17, .iload 4, 2) rfl
theorem dX8_copies_19 : decode cX8_copies 19 = .ok (.iadd, 1) := tb_d tk_X8_copies_1 12 (19, .iadd, 1) rfl
theorem dX8_copies_20 : decode cX8_copies 20 = .ok (.iaload, 1) := tb_d tk_X8_copies_1 13 (20, .iaload, 1) rfl
theorem dX8_copies_21 : decode cX8_copies 21 = .ok (.iastore, 1) := tb_d tk_X8_copies_1 14 (21, .iastore, 1) rfl
theorem dX8_copies_22 : decode cX8_copies 22 = .ok (.iinc 4 1, 3) := tb_d tk_X8_copies_1 15 (22, .iinc 4 1, 3) rfl
theorem dX8_copies_25 : decode cX8_copies 25 = .ok (.goto (-22), 3) := tb_d tk_X8_copies_1 16 (25, .goto (-22), 3) rfl
theorem dX8_copies_28 : decode cX8_copies 28 = .ok (.return_, 1) := tb_d tk_X8_copies_1 17 (28, .return_, 1) rfl
theorem ggX8_isRow_X8_in : GoodIn wsX8_isRow wsX8_in := fun w h => ⟨List.mem_cons_of_mem _ (List.mem_append_right _ (List.mem_append_right _ (List.mem_append_left _ h))), good_of_word (gdX8_in w h)⟩
set_option maxRecDepth 20000 in
theorem gX8_isRow_X8_in : GoodIn wsX8_isRow (va_wsS RX8 56 yX8_in wsX8_in) := goodIn_app (a := bkS RX8 56 yX8_in) (fun w h => ⟨List.mem_cons_of_mem _ (List.mem_append_right _ (List.mem_append_left _ h)), good_of_word (gd_bS _ _ _ w h)⟩) ggX8_isRow_X8_in
def tb_X8_isRow_1 : List (Nat × Instr × Nat) := [(0, .iload_n 0, 1), (1, .iconst 0, 1), (2, .bipush 7, 2), (4, .invokestatic 56, 3), (7, .ireturn, 1)]
set_option maxRecDepth 100000 in
theorem tk_X8_isRow_1 : (tb_X8_isRow_1.all fun q => decide (decode cX8_isRow q.1 = .ok q.2)) = true := by decide +kernel
theorem dX8_isRow_0 : decode cX8_isRow 0 = .ok (.iload_n 0, 1) := tb_d tk_X8_isRow_1 0 (0, .iload_n 0, 1) rfl
theorem dX8_isRow_1 : decode cX8_isRow 1 = .ok (.iconst 0, 1) := tb_d tk_X8_isRow_1 1 (1, .iconst 0, 1) rfl
theorem dX8_isRow_2 : decode cX8_isRow 2 = .ok (.bipush 7, 2) := tb_d tk_X8_isRow_1 2 (2, .bipush 7, 2) rfl
theorem dX8_isRow_4 : decode cX8_isRow 4 = .ok (.invokestatic 56, 3) := tb_d tk_X8_isRow_1 3 (4, .invokestatic 56, 3) rfl
theorem dX8_isRow_7 : decode cX8_isRow 7 = .ok (.ireturn, 1) := tb_d tk_X8_isRow_1 4 (7, .ireturn, 1) rfl
def tb_X8_isMissing_1 : List (Nat × Instr × Nat) := [(0, .aload_n 0, 1), (1, .getfield 7, 3), (4, .iload_n 1, 1), (5, .iaload, 1), (6, .ldc 50, 2), (8, .if_icmp .ne 7, 3), (11, .iconst 1, 1), (12, .goto 4, 3), (15, .iconst 0, 1), (16, .ireturn, 1)]
set_option maxRecDepth 100000 in
theorem tk_X8_isMissing_1 : (tb_X8_isMissing_1.all fun q => decide (decode cX8_isMissing q.1 = .ok q.2)) = true := by decide +kernel
theorem dX8_isMissing_0 : decode cX8_isMissing 0 = .ok (.aload_n 0, 1) := tb_d tk_X8_isMissing_1 0 (0, .aload_n 0, 1) rfl
theorem dX8_isMissing_1 : decode cX8_isMissing 1 = .ok (.getfield 7, 3) := tb_d tk_X8_isMissing_1 1 (1, .getfield 7, 3) rfl
theorem dX8_isMissing_4 : decode cX8_isMissing 4 = .ok (.iload_n 1, 1) := tb_d tk_X8_isMissing_1 2 (4, .iload_n 1, 1) rfl
theorem dX8_isMissing_5 : decode cX8_isMissing 5 = .ok (.iaload, 1) := tb_d tk_X8_isMissing_1 3 (5, .iaload, 1) rfl
theorem dX8_isMissing_6 : decode cX8_isMissing 6 = .ok (.ldc 50, 2) := tb_d tk_X8_isMissing_1 4 (6, .ldc 50, 2) rfl
theorem dX8_isMissing_8 : decode cX8_isMissing 8 = .ok (.if_icmp .ne 7, 3) := tb_d tk_X8_isMissing_1 5 (8, .if_icmp .ne 7, 3) rfl
theorem dX8_isMissing_11 : decode cX8_isMissing 11 = .ok (.iconst 1, 1) := tb_d tk_X8_isMissing_1 6 (11, .iconst 1, 1) rfl
theorem dX8_isMissing_12 : decode cX8_isMissing 12 = .ok (.goto 4, 3) := tb_d tk_X8_isMissing_1 7 (12, .goto 4, 3) rfl
theorem dX8_isMissing_15 : decode cX8_isMissing 15 = .ok (.iconst 0, 1) := tb_d tk_X8_isMissing_1 8 (15, .iconst 0, 1) rfl
theorem dX8_isMissing_16 : decode cX8_isMissing 16 = .ok (.ireturn, 1) := tb_d tk_X8_isMissing_1 9 (16, .ireturn, 1) rfl
def tb_X8_cut_1 : List (Nat × Instr × Nat) := [(0, .iload_n 0, 1), (1, .ifCond .ne 13, 3), (4, .iload_n 1, 1), (5, .bipush 24, 2), (7, .ishl, 1), (8, .bipush 24, 2), (10, .ishr, 1), (11, .goto 19, 3), (14, .iload_n 0, 1), (15, .iconst 1, 1), (16, .if_icmp .ne 13, 3), (19, .iload_n 1, 1), (20, .bipush 16, 2), (22, .ishl, 1), (23, .bipush 16, 2), (25, .ishr, 1), (26, .goto 4, 3), (29, .iload_n 1, 1), (30, .ireturn, 1)]
set_option maxRecDepth 100000 in
theorem tk_X8_cut_1 : (tb_X8_cut_1.all fun q => decide (decode cX8_cut q.1 = .ok q.2)) = true := by decide +kernel
theorem dX8_cut_0 : decode cX8_cut 0 = .ok (.iload_n 0, 1) := tb_d tk_X8_cut_1 0 (0, .iload_n 0, 1) rfl
theorem dX8_cut_1 : decode cX8_cut 1 = .ok (.ifCond .ne 13, 3) := tb_d tk_X8_cut_1 1 (1, .ifCond .ne 13, 3) rfl
theorem dX8_cut_4 : decode cX8_cut 4 = .ok (.iload_n 1, 1) := tb_d tk_X8_cut_1 2 (4, .iload_n 1, 1) rfl
theorem dX8_cut_5 : decode cX8_cut 5 = .ok (.bipush 24, 2) := tb_d tk_X8_cut_1 3 (5, .bipush 24, 2) rfl
theorem dX8_cut_7 : decode cX8_cut 7 = .ok (.ishl, 1) := tb_d tk_X8_cut_1 4 (7, .ishl, 1) rfl
theorem dX8_cut_8 : decode cX8_cut 8 = .ok (.bipush 24, 2) := tb_d tk_X8_cut_1 5 (8, .bipush 24, 2) rfl
theorem dX8_cut_10 : decode cX8_cut 10 = .ok (.ishr, 1) := tb_d tk_X8_cut_1 6 (10, .ishr, 1) rfl
theorem dX8_cut_11 : decode cX8_cut 11 = .ok (.goto 19, 3) := tb_d tk_X8_cut_1 7 (11, .goto 19, 3) rfl
theorem dX8_cut_14 : decode cX8_cut 14 = .ok (.iload_n 0, 1) := tb_d tk_X8_cut_1 8 (14, .iload_n 0, 1) rfl
theorem dX8_cut_15 : decode cX8_cut 15 = .ok (.iconst 1, 1) := tb_d tk_X8_cut_1 9 (15, .iconst 1, 1) rfl
theorem dX8_cut_16 : decode cX8_cut 16 = .ok (.if_icmp .ne 13, 3) := tb_d tk_X8_cut_1 10 (16, .if_icmp .ne 13, 3) rfl
theorem dX8_cut_19 : decode cX8_cut 19 = .ok (.iload_n 1, 1) := tb_d tk_X8_cut_1 11 (19, .iload_n 1, 1) rfl
theorem dX8_cut_20 : decode cX8_cut 20 = .ok (.bipush 16, 2) := tb_d tk_X8_cut_1 12 (20, .bipush 16, 2) rfl
theorem dX8_cut_22 : decode cX8_cut 22 = .ok (.ishl, 1) := tb_d tk_X8_cut_1 13 (22, .ishl, 1) rfl
theorem dX8_cut_23 : decode cX8_cut 23 = .ok (.bipush 16, 2) := tb_d tk_X8_cut_1 14 (23, .bipush 16, 2) rfl
theorem dX8_cut_25 : decode cX8_cut 25 = .ok (.ishr, 1) := tb_d tk_X8_cut_1 15 (25, .ishr, 1) rfl
theorem dX8_cut_26 : decode cX8_cut 26 = .ok (.goto 4, 3) := tb_d tk_X8_cut_1 16 (26, .goto 4, 3) rfl
theorem dX8_cut_29 : decode cX8_cut 29 = .ok (.iload_n 1, 1) := tb_d tk_X8_cut_1 17 (29, .iload_n 1, 1) rfl
theorem dX8_cut_30 : decode cX8_cut 30 = .ok (.ireturn, 1) := tb_d tk_X8_cut_1 18 (30, .ireturn, 1) rfl
theorem ggX8_row_X8_isRow : GoodIn wsX8_row wsX8_isRow := fun w h => ⟨List.mem_cons_of_mem _ (List.mem_append_right _ (List.mem_append_right _ (List.mem_append_right _ (List.mem_append_right _ (List.mem_append_right _ (List.mem_append_right _ (List.mem_append_left _ h))))))), good_of_word (gdX8_isRow w h)⟩
set_option maxRecDepth 20000 in
theorem gX8_row_X8_isRow : GoodIn wsX8_row (va_wsS RX8 60 yX8_isRow wsX8_isRow) := goodIn_app (a := bkS RX8 60 yX8_isRow) (fun w h => ⟨List.mem_cons_of_mem _ (List.mem_append_right _ (List.mem_append_left _ h)), good_of_word (gd_bS _ _ _ w h)⟩) ggX8_row_X8_isRow
theorem ggX8_row_X8_in : GoodIn wsX8_row wsX8_in := fun w h => ⟨List.mem_cons_of_mem _ (List.mem_append_right _ (List.mem_append_right _ (List.mem_append_right _ (List.mem_append_right _ (List.mem_append_right _ (List.mem_append_right _ (List.mem_append_right _ (List.mem_append_left _ h)))))))), good_of_word (gdX8_in w h)⟩
set_option maxRecDepth 20000 in
theorem gX8_row_X8_in : GoodIn wsX8_row (va_wsS RX8 56 yX8_in wsX8_in) := goodIn_app (a := bkS RX8 56 yX8_in) (fun w h => ⟨List.mem_cons_of_mem _ (List.mem_append_right _ (List.mem_append_right _ (List.mem_append_left _ h))), good_of_word (gd_bS _ _ _ w h)⟩) ggX8_row_X8_in
theorem ggX8_row_X8_found : GoodIn wsX8_row wsX8_found := fun w h => ⟨List.mem_cons_of_mem _ (List.mem_append_right _ (List.mem_append_right _ (List.mem_append_right _ (List.mem_append_right _ (List.mem_append_right _ (List.mem_append_right _ (List.mem_append_right _ (List.mem_append_right _ (List.mem_append_left _ h))))))))), good_of_word (gdX8_found w h)⟩
set_option maxRecDepth 20000 in
theorem gX8_row_X8_found : GoodIn wsX8_row (wsV RX8 65 RX8 yX8_found wsX8_found) := goodIn_app (a := bkV RX8 65 RX8 yX8_found) (fun w h => ⟨List.mem_cons_of_mem _ (List.mem_append_right _ (List.mem_append_right _ (List.mem_append_right _ (List.mem_append_left _ h)))), good_of_word (gd_bV _ _ _ _ w h)⟩) ggX8_row_X8_found
theorem ggX8_row_X8_well : GoodIn wsX8_row wsX8_well := fun w h => ⟨List.mem_cons_of_mem _ (List.mem_append_right _ (List.mem_append_right _ (List.mem_append_right _ (List.mem_append_right _ (List.mem_append_right _ (List.mem_append_right _ (List.mem_append_right _ (List.mem_append_right _ (List.mem_append_right _ (List.mem_append_left _ h)))))))))), good_of_word (gdX8_well w h)⟩
set_option maxRecDepth 20000 in
theorem gX8_row_X8_well : GoodIn wsX8_row (wsV RX8 69 RX8 yX8_well wsX8_well) := goodIn_app (a := bkV RX8 69 RX8 yX8_well) (fun w h => ⟨List.mem_cons_of_mem _ (List.mem_append_right _ (List.mem_append_right _ (List.mem_append_right _ (List.mem_append_right _ (List.mem_append_left _ h))))), good_of_word (gd_bV _ _ _ _ w h)⟩) ggX8_row_X8_well
def tb_X8_row_1 : List (Nat × Instr × Nat) := [(0, .iload_n 1, 1), (1, .invokestatic 60, 3), (4, .ifCond .eq 18, 3), (7, .iload_n 2, 1), (8, .iconst 0, 1), (9, .iconst 2, 1), (10, .invokestatic 56, 3), (13, .ifCond .eq 9, 3), (16, .iload_n 3, 1), (17, .bipush 40, 2), (19, .if_icmp .le 6, 3), (22, .ldc 64, 2), (24, .ireturn, 1), (25, .iload_n 3, 1), (26, .ifCond .ge 9, 3), (29, .aload_n 0, 1), (30, .iconst 4, 1), (31, .invokevirtual 65, 3), (34, .ireturn, 1), (35, .aload_n 0, 1), (36, .getfield 7, 3), (39, .iload_n 1, 1), (40, .iload_n 2, 1), (41, .iastore, 1), (42, .aload_n 0, 1), (43, .getfield 13, 3), (46, .iload_n 1, 1), (47, .iload_n 3, 1), (48, .iastore, 1), (49, .iconst 0, 1), (50, .istore 4, 2), (52, .iload 4, 2), (54, .bipush 40, 2), (56, .if_icmp .ge 22, 3), (59, .aload_n 0, 1), (60, .getfield 16, 3), (63, .bipush 40, 2), (65, .iload_n 1, 1), (66, .imul, 1), (67, .iload 4, 2)]
set_option maxRecDepth 100000 in
theorem tk_X8_row_1 : (tb_X8_row_1.all fun q => decide (decode cX8_row q.1 = .ok q.2)) = true := by decide +kernel
theorem dX8_row_0 : decode cX8_row 0 = .ok (.iload_n 1, 1) := tb_d tk_X8_row_1 0 (0, .iload_n 1, 1) rfl
theorem dX8_row_1 : decode cX8_row 1 = .ok (.invokestatic 60, 3) := tb_d tk_X8_row_1 1 (1, .invokestatic 60, 3) rfl
theorem dX8_row_4 : decode cX8_row 4 = .ok (.ifCond .eq 18, 3) := tb_d tk_X8_row_1 2 (4, .ifCond .eq 18, 3) rfl
theorem dX8_row_7 : decode cX8_row 7 = .ok (.iload_n 2, 1) := tb_d tk_X8_row_1 3 (7, .iload_n 2, 1) rfl
theorem dX8_row_8 : decode cX8_row 8 = .ok (.iconst 0, 1) := tb_d tk_X8_row_1 4 (8, .iconst 0, 1) rfl
theorem dX8_row_9 : decode cX8_row 9 = .ok (.iconst 2, 1) := tb_d tk_X8_row_1 5 (9, .iconst 2, 1) rfl
theorem dX8_row_10 : decode cX8_row 10 = .ok (.invokestatic 56, 3) := tb_d tk_X8_row_1 6 (10, .invokestatic 56, 3) rfl
theorem dX8_row_13 : decode cX8_row 13 = .ok (.ifCond .eq 9, 3) := tb_d tk_X8_row_1 7 (13, .ifCond .eq 9, 3) rfl
theorem dX8_row_16 : decode cX8_row 16 = .ok (.iload_n 3, 1) := tb_d tk_X8_row_1 8 (16, .iload_n 3, 1) rfl
theorem dX8_row_17 : decode cX8_row 17 = .ok (.bipush 40, 2) := tb_d tk_X8_row_1 9 (17, .bipush 40, 2) rfl
theorem dX8_row_19 : decode cX8_row 19 = .ok (.if_icmp .le 6, 3) := tb_d tk_X8_row_1 10 (19, .if_icmp .le 6, 3) rfl
theorem dX8_row_22 : decode cX8_row 22 = .ok (.ldc 64, 2) := tb_d tk_X8_row_1 11 (22, .ldc 64, 2) rfl
theorem dX8_row_24 : decode cX8_row 24 = .ok (.ireturn, 1) := tb_d tk_X8_row_1 12 (24, .ireturn, 1) rfl
theorem dX8_row_25 : decode cX8_row 25 = .ok (.iload_n 3, 1) := tb_d tk_X8_row_1 13 (25, .iload_n 3, 1) rfl
theorem dX8_row_26 : decode cX8_row 26 = .ok (.ifCond .ge 9, 3) := tb_d tk_X8_row_1 14 (26, .ifCond .ge 9, 3) rfl
theorem dX8_row_29 : decode cX8_row 29 = .ok (.aload_n 0, 1) := tb_d tk_X8_row_1 15 (29, .aload_n 0, 1) rfl
theorem dX8_row_30 : decode cX8_row 30 = .ok (.iconst 4, 1) := tb_d tk_X8_row_1 16 (30, .iconst 4, 1) rfl
theorem dX8_row_31 : decode cX8_row 31 = .ok (.invokevirtual 65, 3) := tb_d tk_X8_row_1 17 (31, .invokevirtual 65, 3) rfl
theorem dX8_row_34 : decode cX8_row 34 = .ok (.ireturn, 1) := tb_d tk_X8_row_1 18 (34, .ireturn, 1) rfl
theorem dX8_row_35 : decode cX8_row 35 = .ok (.aload_n 0, 1) := tb_d tk_X8_row_1 19 (35, .aload_n 0, 1) rfl
theorem dX8_row_36 : decode cX8_row 36 = .ok (.getfield 7, 3) := tb_d tk_X8_row_1 20 (36, .getfield 7, 3) rfl
theorem dX8_row_39 : decode cX8_row 39 = .ok (.iload_n 1, 1) := tb_d tk_X8_row_1 21 (39, .iload_n 1, 1) rfl
theorem dX8_row_40 : decode cX8_row 40 = .ok (.iload_n 2, 1) := tb_d tk_X8_row_1 22 (40, .iload_n 2, 1) rfl
theorem dX8_row_41 : decode cX8_row 41 = .ok (.iastore, 1) := tb_d tk_X8_row_1 23 (41, .iastore, 1) rfl
theorem dX8_row_42 : decode cX8_row 42 = .ok (.aload_n 0, 1) := tb_d tk_X8_row_1 24 (42, .aload_n 0, 1) rfl
theorem dX8_row_43 : decode cX8_row 43 = .ok (.getfield 13, 3) := tb_d tk_X8_row_1 25 (43, .getfield 13, 3) rfl
theorem dX8_row_46 : decode cX8_row 46 = .ok (.iload_n 1, 1) := tb_d tk_X8_row_1 26 (46, .iload_n 1, 1) rfl
theorem dX8_row_47 : decode cX8_row 47 = .ok (.iload_n 3, 1) := tb_d tk_X8_row_1 27 (47, .iload_n 3, 1) rfl
theorem dX8_row_48 : decode cX8_row 48 = .ok (.iastore, 1) := tb_d tk_X8_row_1 28 (48, .iastore, 1) rfl
theorem dX8_row_49 : decode cX8_row 49 = .ok (.iconst 0, 1) := tb_d tk_X8_row_1 29 (49, .iconst 0, 1) rfl
theorem dX8_row_50 : decode cX8_row 50 = .ok (.istore 4, 2) := tb_d tk_X8_row_1 30 (50, .istore 4, 2) rfl
theorem dX8_row_52 : decode cX8_row 52 = .ok (.iload 4, 2) := tb_d tk_X8_row_1 31 (52, .iload 4, 2) rfl
theorem dX8_row_54 : decode cX8_row 54 = .ok (.bipush 40, 2) := tb_d tk_X8_row_1 32 (54, .bipush 40, 2) rfl
theorem dX8_row_56 : decode cX8_row 56 = .ok (.if_icmp .ge 22, 3) := tb_d tk_X8_row_1 33 (56, .if_icmp .ge 22, 3) rfl
theorem dX8_row_59 : decode cX8_row 59 = .ok (.aload_n 0, 1) := tb_d tk_X8_row_1 34 (59, .aload_n 0, 1) rfl
theorem dX8_row_60 : decode cX8_row 60 = .ok (.getfield 16, 3) := tb_d tk_X8_row_1 35 (60, .getfield 16, 3) rfl
theorem dX8_row_63 : decode cX8_row 63 = .ok (.bipush 40, 2) := tb_d tk_X8_row_1 36 (63, .bipush 40, 2) rfl
theorem dX8_row_65 : decode cX8_row 65 = .ok (.iload_n 1, 1) := tb_d tk_X8_row_1 37 (65, .iload_n 1, 1) rfl
theorem dX8_row_66 : decode cX8_row 66 = .ok (.imul, 1) := tb_d tk_X8_row_1 38 (66, .imul, 1) rfl
theorem dX8_row_67 : decode cX8_row 67 = .ok (.iload 4, 2) := tb_d tk_X8_row_1 39 (67, .iload 4, 2) rfl
def tb_X8_row_2 : List (Nat × Instr × Nat) := [(69, .iadd, 1), (70, .iconst 0, 1), (71, .iastore, 1), (72, .iinc 4 1, 3), (75, .goto (-23), 3), (78, .aload_n 0, 1), (79, .iload_n 3, 1), (80, .invokevirtual 69, 3), (83, .ireturn, 1)]
set_option maxRecDepth 100000 in
theorem tk_X8_row_2 : (tb_X8_row_2.all fun q => decide (decode cX8_row q.1 = .ok q.2)) = true := by decide +kernel
theorem dX8_row_69 : decode cX8_row 69 = .ok (.iadd, 1) := tb_d tk_X8_row_2 0 (69, .iadd, 1) rfl
theorem dX8_row_70 : decode cX8_row 70 = .ok (.iconst 0, 1) := tb_d tk_X8_row_2 1 (70, .iconst 0, 1) rfl
theorem dX8_row_71 : decode cX8_row 71 = .ok (.iastore, 1) := tb_d tk_X8_row_2 2 (71, .iastore, 1) rfl
theorem dX8_row_72 : decode cX8_row 72 = .ok (.iinc 4 1, 3) := tb_d tk_X8_row_2 3 (72, .iinc 4 1, 3) rfl
theorem dX8_row_75 : decode cX8_row 75 = .ok (.goto (-23), 3) := tb_d tk_X8_row_2 4 (75, .goto (-23), 3) rfl
theorem dX8_row_78 : decode cX8_row 78 = .ok (.aload_n 0, 1) := tb_d tk_X8_row_2 5 (78, .aload_n 0, 1) rfl
theorem dX8_row_79 : decode cX8_row 79 = .ok (.iload_n 3, 1) := tb_d tk_X8_row_2 6 (79, .iload_n 3, 1) rfl
theorem dX8_row_80 : decode cX8_row 80 = .ok (.invokevirtual 69, 3) := tb_d tk_X8_row_2 7 (80, .invokevirtual 69, 3) rfl
theorem dX8_row_83 : decode cX8_row 83 = .ok (.ireturn, 1) := tb_d tk_X8_row_2 8 (83, .ireturn, 1) rfl
theorem ggX8_set_X8_isRow : GoodIn wsX8_set wsX8_isRow := fun w h => ⟨List.mem_cons_of_mem _ (List.mem_append_right _ (List.mem_append_right _ (List.mem_append_right _ (List.mem_append_right _ (List.mem_append_right _ (List.mem_append_right _ (List.mem_append_right _ (List.mem_append_right _ (List.mem_append_left _ h))))))))), good_of_word (gdX8_isRow w h)⟩
set_option maxRecDepth 20000 in
theorem gX8_set_X8_isRow : GoodIn wsX8_set (va_wsS RX8 60 yX8_isRow wsX8_isRow) := goodIn_app (a := bkS RX8 60 yX8_isRow) (fun w h => ⟨List.mem_cons_of_mem _ (List.mem_append_right _ (List.mem_append_left _ h)), good_of_word (gd_bS _ _ _ w h)⟩) ggX8_set_X8_isRow
theorem ggX8_set_X8_isMissing : GoodIn wsX8_set wsX8_isMissing := fun w h => ⟨List.mem_cons_of_mem _ (List.mem_append_right _ (List.mem_append_right _ (List.mem_append_right _ (List.mem_append_right _ (List.mem_append_right _ (List.mem_append_right _ (List.mem_append_right _ (List.mem_append_right _ (List.mem_append_right _ (List.mem_append_left _ h)))))))))), good_of_word (gdX8_isMissing w h)⟩
set_option maxRecDepth 20000 in
theorem gX8_set_X8_isMissing : GoodIn wsX8_set (wsV RX8 72 RX8 yX8_isMissing wsX8_isMissing) := goodIn_app (a := bkV RX8 72 RX8 yX8_isMissing) (fun w h => ⟨List.mem_cons_of_mem _ (List.mem_append_right _ (List.mem_append_right _ (List.mem_append_left _ h))), good_of_word (gd_bV _ _ _ _ w h)⟩) ggX8_set_X8_isMissing
theorem ggX8_set_X8_found : GoodIn wsX8_set wsX8_found := fun w h => ⟨List.mem_cons_of_mem _ (List.mem_append_right _ (List.mem_append_right _ (List.mem_append_right _ (List.mem_append_right _ (List.mem_append_right _ (List.mem_append_right _ (List.mem_append_right _ (List.mem_append_right _ (List.mem_append_right _ (List.mem_append_right _ (List.mem_append_left _ h))))))))))), good_of_word (gdX8_found w h)⟩
set_option maxRecDepth 20000 in
theorem gX8_set_X8_found : GoodIn wsX8_set (wsV RX8 65 RX8 yX8_found wsX8_found) := goodIn_app (a := bkV RX8 65 RX8 yX8_found) (fun w h => ⟨List.mem_cons_of_mem _ (List.mem_append_right _ (List.mem_append_right _ (List.mem_append_right _ (List.mem_append_left _ h)))), good_of_word (gd_bV _ _ _ _ w h)⟩) ggX8_set_X8_found
theorem ggX8_set_X8_in : GoodIn wsX8_set wsX8_in := fun w h => ⟨List.mem_cons_of_mem _ (List.mem_append_right _ (List.mem_append_right _ (List.mem_append_right _ (List.mem_append_right _ (List.mem_append_right _ (List.mem_append_right _ (List.mem_append_right _ (List.mem_append_right _ (List.mem_append_right _ (List.mem_append_right _ (List.mem_append_right _ (List.mem_append_left _ h)))))))))))), good_of_word (gdX8_in w h)⟩
set_option maxRecDepth 20000 in
theorem gX8_set_X8_in : GoodIn wsX8_set (va_wsS RX8 56 yX8_in wsX8_in) := goodIn_app (a := bkS RX8 56 yX8_in) (fun w h => ⟨List.mem_cons_of_mem _ (List.mem_append_right _ (List.mem_append_right _ (List.mem_append_right _ (List.mem_append_right _ (List.mem_append_left _ h))))), good_of_word (gd_bS _ _ _ w h)⟩) ggX8_set_X8_in
theorem ggX8_set_X8_cut : GoodIn wsX8_set wsX8_cut := fun w h => ⟨List.mem_cons_of_mem _ (List.mem_append_right _ (List.mem_append_right _ (List.mem_append_right _ (List.mem_append_right _ (List.mem_append_right _ (List.mem_append_right _ (List.mem_append_right _ (List.mem_append_right _ (List.mem_append_right _ (List.mem_append_right _ (List.mem_append_right _ (List.mem_append_right _ (List.mem_append_left _ h))))))))))))), good_of_word (gdX8_cut w h)⟩
set_option maxRecDepth 20000 in
theorem gX8_set_X8_cut : GoodIn wsX8_set (va_wsS RX8 75 yX8_cut wsX8_cut) := goodIn_app (a := bkS RX8 75 yX8_cut) (fun w h => ⟨List.mem_cons_of_mem _ (List.mem_append_right _ (List.mem_append_right _ (List.mem_append_right _ (List.mem_append_right _ (List.mem_append_right _ (List.mem_append_left _ h)))))), good_of_word (gd_bS _ _ _ w h)⟩) ggX8_set_X8_cut
theorem ggX8_set_X8_well : GoodIn wsX8_set wsX8_well := fun w h => ⟨List.mem_cons_of_mem _ (List.mem_append_right _ (List.mem_append_right _ (List.mem_append_right _ (List.mem_append_right _ (List.mem_append_right _ (List.mem_append_right _ (List.mem_append_right _ (List.mem_append_right _ (List.mem_append_right _ (List.mem_append_right _ (List.mem_append_right _ (List.mem_append_right _ (List.mem_append_right _ (List.mem_append_left _ h)))))))))))))), good_of_word (gdX8_well w h)⟩
set_option maxRecDepth 20000 in
theorem gX8_set_X8_well : GoodIn wsX8_set (wsV RX8 69 RX8 yX8_well wsX8_well) := goodIn_app (a := bkV RX8 69 RX8 yX8_well) (fun w h => ⟨List.mem_cons_of_mem _ (List.mem_append_right _ (List.mem_append_right _ (List.mem_append_right _ (List.mem_append_right _ (List.mem_append_right _ (List.mem_append_right _ (List.mem_append_left _ h))))))), good_of_word (gd_bV _ _ _ _ w h)⟩) ggX8_set_X8_well
def tb_X8_set_1 : List (Nat × Instr × Nat) := [(0, .iload_n 1, 1), (1, .invokestatic 60, 3), (4, .ifCond .ne 6, 3), (7, .ldc 64, 2), (9, .ireturn, 1), (10, .aload_n 0, 1), (11, .iload_n 1, 1), (12, .invokevirtual 72, 3), (15, .ifCond .eq 9, 3), (18, .aload_n 0, 1), (19, .iconst 1, 1), (20, .invokevirtual 65, 3), (23, .ireturn, 1), (24, .iload_n 2, 1), (25, .iconst 0, 1), (26, .aload_n 0, 1), (27, .getfield 13, 3), (30, .iload_n 1, 1), (31, .iaload, 1), (32, .iconst 1, 1), (33, .isub, 1), (34, .invokestatic 56, 3), (37, .ifCond .ne 9, 3), (40, .aload_n 0, 1), (41, .iconst 2, 1), (42, .invokevirtual 65, 3), (45, .ireturn, 1), (46, .aload_n 0, 1), (47, .getfield 16, 3), (50, .bipush 40, 2), (52, .iload_n 1, 1), (53, .imul, 1), (54, .iload_n 2, 1), (55, .iadd, 1), (56, .aload_n 0, 1), (57, .getfield 7, 3), (60, .iload_n 1, 1), (61, .iaload, 1), (62, .iload_n 3, 1), (63, .invokestatic 75, 3)]
set_option maxRecDepth 100000 in
theorem tk_X8_set_1 : (tb_X8_set_1.all fun q => decide (decode cX8_set q.1 = .ok q.2)) = true := by decide +kernel
theorem dX8_set_0 : decode cX8_set 0 = .ok (.iload_n 1, 1) := tb_d tk_X8_set_1 0 (0, .iload_n 1, 1) rfl
theorem dX8_set_1 : decode cX8_set 1 = .ok (.invokestatic 60, 3) := tb_d tk_X8_set_1 1 (1, .invokestatic 60, 3) rfl
theorem dX8_set_4 : decode cX8_set 4 = .ok (.ifCond .ne 6, 3) := tb_d tk_X8_set_1 2 (4, .ifCond .ne 6, 3) rfl
theorem dX8_set_7 : decode cX8_set 7 = .ok (.ldc 64, 2) := tb_d tk_X8_set_1 3 (7, .ldc 64, 2) rfl
theorem dX8_set_9 : decode cX8_set 9 = .ok (.ireturn, 1) := tb_d tk_X8_set_1 4 (9, .ireturn, 1) rfl
theorem dX8_set_10 : decode cX8_set 10 = .ok (.aload_n 0, 1) := tb_d tk_X8_set_1 5 (10, .aload_n 0, 1) rfl
theorem dX8_set_11 : decode cX8_set 11 = .ok (.iload_n 1, 1) := tb_d tk_X8_set_1 6 (11, .iload_n 1, 1) rfl
theorem dX8_set_12 : decode cX8_set 12 = .ok (.invokevirtual 72, 3) := tb_d tk_X8_set_1 7 (12, .invokevirtual 72, 3) rfl
theorem dX8_set_15 : decode cX8_set 15 = .ok (.ifCond .eq 9, 3) := tb_d tk_X8_set_1 8 (15, .ifCond .eq 9, 3) rfl
theorem dX8_set_18 : decode cX8_set 18 = .ok (.aload_n 0, 1) := tb_d tk_X8_set_1 9 (18, .aload_n 0, 1) rfl
theorem dX8_set_19 : decode cX8_set 19 = .ok (.iconst 1, 1) := tb_d tk_X8_set_1 10 (19, .iconst 1, 1) rfl
theorem dX8_set_20 : decode cX8_set 20 = .ok (.invokevirtual 65, 3) := tb_d tk_X8_set_1 11 (20, .invokevirtual 65, 3) rfl
theorem dX8_set_23 : decode cX8_set 23 = .ok (.ireturn, 1) := tb_d tk_X8_set_1 12 (23, .ireturn, 1) rfl
theorem dX8_set_24 : decode cX8_set 24 = .ok (.iload_n 2, 1) := tb_d tk_X8_set_1 13 (24, .iload_n 2, 1) rfl
theorem dX8_set_25 : decode cX8_set 25 = .ok (.iconst 0, 1) := tb_d tk_X8_set_1 14 (25, .iconst 0, 1) rfl
theorem dX8_set_26 : decode cX8_set 26 = .ok (.aload_n 0, 1) := tb_d tk_X8_set_1 15 (26, .aload_n 0, 1) rfl
theorem dX8_set_27 : decode cX8_set 27 = .ok (.getfield 13, 3) := tb_d tk_X8_set_1 16 (27, .getfield 13, 3) rfl
theorem dX8_set_30 : decode cX8_set 30 = .ok (.iload_n 1, 1) := tb_d tk_X8_set_1 17 (30, .iload_n 1, 1) rfl
theorem dX8_set_31 : decode cX8_set 31 = .ok (.iaload, 1) := tb_d tk_X8_set_1 18 (31, .iaload, 1) rfl
theorem dX8_set_32 : decode cX8_set 32 = .ok (.iconst 1, 1) := tb_d tk_X8_set_1 19 (32, .iconst 1, 1) rfl
theorem dX8_set_33 : decode cX8_set 33 = .ok (.isub, 1) := tb_d tk_X8_set_1 20 (33, .isub, 1) rfl
theorem dX8_set_34 : decode cX8_set 34 = .ok (.invokestatic 56, 3) := tb_d tk_X8_set_1 21 (34, .invokestatic 56, 3) rfl
theorem dX8_set_37 : decode cX8_set 37 = .ok (.ifCond .ne 9, 3) := tb_d tk_X8_set_1 22 (37, .ifCond .ne 9, 3) rfl
theorem dX8_set_40 : decode cX8_set 40 = .ok (.aload_n 0, 1) := tb_d tk_X8_set_1 23 (40, .aload_n 0, 1) rfl
theorem dX8_set_41 : decode cX8_set 41 = .ok (.iconst 2, 1) := tb_d tk_X8_set_1 24 (41, .iconst 2, 1) rfl
theorem dX8_set_42 : decode cX8_set 42 = .ok (.invokevirtual 65, 3) := tb_d tk_X8_set_1 25 (42, .invokevirtual 65, 3) rfl
theorem dX8_set_45 : decode cX8_set 45 = .ok (.ireturn, 1) := tb_d tk_X8_set_1 26 (45, .ireturn, 1) rfl
theorem dX8_set_46 : decode cX8_set 46 = .ok (.aload_n 0, 1) := tb_d tk_X8_set_1 27 (46, .aload_n 0, 1) rfl
theorem dX8_set_47 : decode cX8_set 47 = .ok (.getfield 16, 3) := tb_d tk_X8_set_1 28 (47, .getfield 16, 3) rfl
theorem dX8_set_50 : decode cX8_set 50 = .ok (.bipush 40, 2) := tb_d tk_X8_set_1 29 (50, .bipush 40, 2) rfl
theorem dX8_set_52 : decode cX8_set 52 = .ok (.iload_n 1, 1) := tb_d tk_X8_set_1 30 (52, .iload_n 1, 1) rfl
theorem dX8_set_53 : decode cX8_set 53 = .ok (.imul, 1) := tb_d tk_X8_set_1 31 (53, .imul, 1) rfl
theorem dX8_set_54 : decode cX8_set 54 = .ok (.iload_n 2, 1) := tb_d tk_X8_set_1 32 (54, .iload_n 2, 1) rfl
theorem dX8_set_55 : decode cX8_set 55 = .ok (.iadd, 1) := tb_d tk_X8_set_1 33 (55, .iadd, 1) rfl
theorem dX8_set_56 : decode cX8_set 56 = .ok (.aload_n 0, 1) := tb_d tk_X8_set_1 34 (56, .aload_n 0, 1) rfl
theorem dX8_set_57 : decode cX8_set 57 = .ok (.getfield 7, 3) := tb_d tk_X8_set_1 35 (57, .getfield 7, 3) rfl
theorem dX8_set_60 : decode cX8_set 60 = .ok (.iload_n 1, 1) := tb_d tk_X8_set_1 36 (60, .iload_n 1, 1) rfl
theorem dX8_set_61 : decode cX8_set 61 = .ok (.iaload, 1) := tb_d tk_X8_set_1 37 (61, .iaload, 1) rfl
theorem dX8_set_62 : decode cX8_set 62 = .ok (.iload_n 3, 1) := tb_d tk_X8_set_1 38 (62, .iload_n 3, 1) rfl
theorem dX8_set_63 : decode cX8_set 63 = .ok (.invokestatic 75, 3) := tb_d tk_X8_set_1 39 (63, .invokestatic 75, 3) rfl
def tb_X8_set_2 : List (Nat × Instr × Nat) := [(66, .iastore, 1), (67, .aload_n 0, 1), (68, .aload_n 0, 1), (69, .getfield 16, 3), (72, .bipush 40, 2), (74, .iload_n 1, 1), (75, .imul, 1), (76, .iload_n 2, 1), (77, .iadd, 1), (78, .iaload, 1), (79, .invokevirtual 69, 3), (82, .ireturn, 1)]
set_option maxRecDepth 100000 in
theorem tk_X8_set_2 : (tb_X8_set_2.all fun q => decide (decode cX8_set q.1 = .ok q.2)) = true := by decide +kernel
theorem dX8_set_66 : decode cX8_set 66 = .ok (.iastore, 1) := tb_d tk_X8_set_2 0 (66, .iastore, 1) rfl
theorem dX8_set_67 : decode cX8_set 67 = .ok (.aload_n 0, 1) := tb_d tk_X8_set_2 1 (67, .aload_n 0, 1) rfl
theorem dX8_set_68 : decode cX8_set 68 = .ok (.aload_n 0, 1) := tb_d tk_X8_set_2 2 (68, .aload_n 0, 1) rfl
theorem dX8_set_69 : decode cX8_set 69 = .ok (.getfield 16, 3) := tb_d tk_X8_set_2 3 (69, .getfield 16, 3) rfl
theorem dX8_set_72 : decode cX8_set 72 = .ok (.bipush 40, 2) := tb_d tk_X8_set_2 4 (72, .bipush 40, 2) rfl
theorem dX8_set_74 : decode cX8_set 74 = .ok (.iload_n 1, 1) := tb_d tk_X8_set_2 5 (74, .iload_n 1, 1) rfl
theorem dX8_set_75 : decode cX8_set 75 = .ok (.imul, 1) := tb_d tk_X8_set_2 6 (75, .imul, 1) rfl
theorem dX8_set_76 : decode cX8_set 76 = .ok (.iload_n 2, 1) := tb_d tk_X8_set_2 7 (76, .iload_n 2, 1) rfl
theorem dX8_set_77 : decode cX8_set 77 = .ok (.iadd, 1) := tb_d tk_X8_set_2 8 (77, .iadd, 1) rfl
theorem dX8_set_78 : decode cX8_set 78 = .ok (.iaload, 1) := tb_d tk_X8_set_2 9 (78, .iaload, 1) rfl
theorem dX8_set_79 : decode cX8_set 79 = .ok (.invokevirtual 69, 3) := tb_d tk_X8_set_2 10 (79, .invokevirtual 69, 3) rfl
theorem dX8_set_82 : decode cX8_set 82 = .ok (.ireturn, 1) := tb_d tk_X8_set_2 11 (82, .ireturn, 1) rfl
def tb_X8_isPart_1 : List (Nat × Instr × Nat) := [(0, .iload_n 2, 1), (1, .ifCond .lt 33, 3), (4, .iload_n 3, 1), (5, .ifCond .lt 29, 3), (8, .iload_n 2, 1), (9, .aload_n 0, 1), (10, .getfield 13, 3), (13, .iload_n 1, 1), (14, .iaload, 1), (15, .if_icmp .gt 19, 3), (18, .iload_n 3, 1), (19, .aload_n 0, 1), (20, .getfield 13, 3), (23, .iload_n 1, 1), (24, .iaload, 1), (25, .iload_n 2, 1), (26, .isub, 1), (27, .if_icmp .gt 7, 3), (30, .iconst 1, 1), (31, .goto 4, 3), (34, .iconst 0, 1), (35, .ireturn, 1)]
set_option maxRecDepth 100000 in
theorem tk_X8_isPart_1 : (tb_X8_isPart_1.all fun q => decide (decode cX8_isPart q.1 = .ok q.2)) = true := by decide +kernel
theorem dX8_isPart_0 : decode cX8_isPart 0 = .ok (.iload_n 2, 1) := tb_d tk_X8_isPart_1 0 (0, .iload_n 2, 1) rfl
theorem dX8_isPart_1 : decode cX8_isPart 1 = .ok (.ifCond .lt 33, 3) := tb_d tk_X8_isPart_1 1 (1, .ifCond .lt 33, 3) rfl
theorem dX8_isPart_4 : decode cX8_isPart 4 = .ok (.iload_n 3, 1) := tb_d tk_X8_isPart_1 2 (4, .iload_n 3, 1) rfl
theorem dX8_isPart_5 : decode cX8_isPart 5 = .ok (.ifCond .lt 29, 3) := tb_d tk_X8_isPart_1 3 (5, .ifCond .lt 29, 3) rfl
theorem dX8_isPart_8 : decode cX8_isPart 8 = .ok (.iload_n 2, 1) := tb_d tk_X8_isPart_1 4 (8, .iload_n 2, 1) rfl
theorem dX8_isPart_9 : decode cX8_isPart 9 = .ok (.aload_n 0, 1) := tb_d tk_X8_isPart_1 5 (9, .aload_n 0, 1) rfl
theorem dX8_isPart_10 : decode cX8_isPart 10 = .ok (.getfield 13, 3) := tb_d tk_X8_isPart_1 6 (10, .getfield 13, 3) rfl
theorem dX8_isPart_13 : decode cX8_isPart 13 = .ok (.iload_n 1, 1) := tb_d tk_X8_isPart_1 7 (13, .iload_n 1, 1) rfl
theorem dX8_isPart_14 : decode cX8_isPart 14 = .ok (.iaload, 1) := tb_d tk_X8_isPart_1 8 (14, .iaload, 1) rfl
theorem dX8_isPart_15 : decode cX8_isPart 15 = .ok (.if_icmp .gt 19, 3) := tb_d tk_X8_isPart_1 9 (15, .if_icmp .gt 19, 3) rfl
theorem dX8_isPart_18 : decode cX8_isPart 18 = .ok (.iload_n 3, 1) := tb_d tk_X8_isPart_1 10 (18, .iload_n 3, 1) rfl
theorem dX8_isPart_19 : decode cX8_isPart 19 = .ok (.aload_n 0, 1) := tb_d tk_X8_isPart_1 11 (19, .aload_n 0, 1) rfl
theorem dX8_isPart_20 : decode cX8_isPart 20 = .ok (.getfield 13, 3) := tb_d tk_X8_isPart_1 12 (20, .getfield 13, 3) rfl
theorem dX8_isPart_23 : decode cX8_isPart 23 = .ok (.iload_n 1, 1) := tb_d tk_X8_isPart_1 13 (23, .iload_n 1, 1) rfl
theorem dX8_isPart_24 : decode cX8_isPart 24 = .ok (.iaload, 1) := tb_d tk_X8_isPart_1 14 (24, .iaload, 1) rfl
theorem dX8_isPart_25 : decode cX8_isPart 25 = .ok (.iload_n 2, 1) := tb_d tk_X8_isPart_1 15 (25, .iload_n 2, 1) rfl
theorem dX8_isPart_26 : decode cX8_isPart 26 = .ok (.isub, 1) := tb_d tk_X8_isPart_1 16 (26, .isub, 1) rfl
theorem dX8_isPart_27 : decode cX8_isPart 27 = .ok (.if_icmp .gt 7, 3) := tb_d tk_X8_isPart_1 17 (27, .if_icmp .gt 7, 3) rfl
theorem dX8_isPart_30 : decode cX8_isPart 30 = .ok (.iconst 1, 1) := tb_d tk_X8_isPart_1 18 (30, .iconst 1, 1) rfl
theorem dX8_isPart_31 : decode cX8_isPart 31 = .ok (.goto 4, 3) := tb_d tk_X8_isPart_1 19 (31, .goto 4, 3) rfl
theorem dX8_isPart_34 : decode cX8_isPart 34 = .ok (.iconst 0, 1) := tb_d tk_X8_isPart_1 20 (34, .iconst 0, 1) rfl
theorem dX8_isPart_35 : decode cX8_isPart 35 = .ok (.ireturn, 1) := tb_d tk_X8_isPart_1 21 (35, .ireturn, 1) rfl
theorem ggX8_copy_X8_isRow : GoodIn wsX8_copy wsX8_isRow := fun w h => ⟨List.mem_cons_of_mem _ (List.mem_append_right _ (List.mem_append_right _ (List.mem_append_right _ (List.mem_append_right _ (List.mem_append_right _ (List.mem_append_right _ (List.mem_append_right _ (List.mem_append_left _ h)))))))), good_of_word (gdX8_isRow w h)⟩
set_option maxRecDepth 20000 in
theorem gX8_copy_X8_isRow : GoodIn wsX8_copy (va_wsS RX8 60 yX8_isRow wsX8_isRow) := goodIn_app (a := bkS RX8 60 yX8_isRow) (fun w h => ⟨List.mem_cons_of_mem _ (List.mem_append_right _ (List.mem_append_left _ h)), good_of_word (gd_bS _ _ _ w h)⟩) ggX8_copy_X8_isRow
theorem ggX8_copy_X8_isMissing : GoodIn wsX8_copy wsX8_isMissing := fun w h => ⟨List.mem_cons_of_mem _ (List.mem_append_right _ (List.mem_append_right _ (List.mem_append_right _ (List.mem_append_right _ (List.mem_append_right _ (List.mem_append_right _ (List.mem_append_right _ (List.mem_append_right _ (List.mem_append_left _ h))))))))), good_of_word (gdX8_isMissing w h)⟩
set_option maxRecDepth 20000 in
theorem gX8_copy_X8_isMissing : GoodIn wsX8_copy (wsV RX8 72 RX8 yX8_isMissing wsX8_isMissing) := goodIn_app (a := bkV RX8 72 RX8 yX8_isMissing) (fun w h => ⟨List.mem_cons_of_mem _ (List.mem_append_right _ (List.mem_append_right _ (List.mem_append_left _ h))), good_of_word (gd_bV _ _ _ _ w h)⟩) ggX8_copy_X8_isMissing
theorem ggX8_copy_X8_found : GoodIn wsX8_copy wsX8_found := fun w h => ⟨List.mem_cons_of_mem _ (List.mem_append_right _ (List.mem_append_right _ (List.mem_append_right _ (List.mem_append_right _ (List.mem_append_right _ (List.mem_append_right _ (List.mem_append_right _ (List.mem_append_right _ (List.mem_append_right _ (List.mem_append_left _ h)))))))))), good_of_word (gdX8_found w h)⟩
set_option maxRecDepth 20000 in
theorem gX8_copy_X8_found : GoodIn wsX8_copy (wsV RX8 65 RX8 yX8_found wsX8_found) := goodIn_app (a := bkV RX8 65 RX8 yX8_found) (fun w h => ⟨List.mem_cons_of_mem _ (List.mem_append_right _ (List.mem_append_right _ (List.mem_append_right _ (List.mem_append_left _ h)))), good_of_word (gd_bV _ _ _ _ w h)⟩) ggX8_copy_X8_found
theorem ggX8_copy_X8_isPart : GoodIn wsX8_copy wsX8_isPart := fun w h => ⟨List.mem_cons_of_mem _ (List.mem_append_right _ (List.mem_append_right _ (List.mem_append_right _ (List.mem_append_right _ (List.mem_append_right _ (List.mem_append_right _ (List.mem_append_right _ (List.mem_append_right _ (List.mem_append_right _ (List.mem_append_right _ (List.mem_append_left _ h))))))))))), good_of_word (gdX8_isPart w h)⟩
set_option maxRecDepth 20000 in
theorem gX8_copy_X8_isPart : GoodIn wsX8_copy (wsV RX8 79 RX8 yX8_isPart wsX8_isPart) := goodIn_app (a := bkV RX8 79 RX8 yX8_isPart) (fun w h => ⟨List.mem_cons_of_mem _ (List.mem_append_right _ (List.mem_append_right _ (List.mem_append_right _ (List.mem_append_right _ (List.mem_append_left _ h))))), good_of_word (gd_bV _ _ _ _ w h)⟩) ggX8_copy_X8_isPart
theorem ggX8_copy_X8_well : GoodIn wsX8_copy wsX8_well := fun w h => ⟨List.mem_cons_of_mem _ (List.mem_append_right _ (List.mem_append_right _ (List.mem_append_right _ (List.mem_append_right _ (List.mem_append_right _ (List.mem_append_right _ (List.mem_append_right _ (List.mem_append_right _ (List.mem_append_right _ (List.mem_append_right _ (List.mem_append_right _ (List.mem_append_left _ h)))))))))))), good_of_word (gdX8_well w h)⟩
set_option maxRecDepth 20000 in
theorem gX8_copy_X8_well : GoodIn wsX8_copy (wsV RX8 69 RX8 yX8_well wsX8_well) := goodIn_app (a := bkV RX8 69 RX8 yX8_well) (fun w h => ⟨List.mem_cons_of_mem _ (List.mem_append_right _ (List.mem_append_right _ (List.mem_append_right _ (List.mem_append_right _ (List.mem_append_right _ (List.mem_append_left _ h)))))), good_of_word (gd_bV _ _ _ _ w h)⟩) ggX8_copy_X8_well
def tb_X8_copy_1 : List (Nat × Instr × Nat) := [(0, .iload_n 1, 1), (1, .invokestatic 60, 3), (4, .ifCond .eq 10, 3), (7, .iload_n 3, 1), (8, .invokestatic 60, 3), (11, .ifCond .ne 6, 3), (14, .ldc 64, 2), (16, .ireturn, 1), (17, .aload_n 0, 1), (18, .iload_n 1, 1), (19, .invokevirtual 72, 3), (22, .ifCond .ne 11, 3), (25, .aload_n 0, 1), (26, .iload_n 3, 1), (27, .invokevirtual 72, 3), (30, .ifCond .eq 9, 3), (33, .aload_n 0, 1), (34, .iconst 1, 1), (35, .invokevirtual 65, 3), (38, .ireturn, 1), (39, .aload_n 0, 1), (40, .getfield 7, 3), (43, .iload_n 1, 1), (44, .iaload, 1), (45, .aload_n 0, 1), (46, .getfield 7, 3), (49, .iload_n 3, 1), (50, .iaload, 1), (51, .if_icmp .eq 9, 3), (54, .aload_n 0, 1), (55, .iconst 5, 1), (56, .invokevirtual 65, 3), (59, .ireturn, 1), (60, .aload_n 0, 1), (61, .iload_n 1, 1), (62, .iload_n 2, 1), (63, .iload 5, 2), (65, .invokevirtual 79, 3), (68, .ifCond .eq 15, 3), (71, .aload_n 0, 1)]
set_option maxRecDepth 100000 in
theorem tk_X8_copy_1 : (tb_X8_copy_1.all fun q => decide (decode cX8_copy q.1 = .ok q.2)) = true := by decide +kernel
theorem dX8_copy_0 : decode cX8_copy 0 = .ok (.iload_n 1, 1) := tb_d tk_X8_copy_1 0 (0, .iload_n 1, 1) rfl
theorem dX8_copy_1 : decode cX8_copy 1 = .ok (.invokestatic 60, 3) := tb_d tk_X8_copy_1 1 (1, .invokestatic 60, 3) rfl
theorem dX8_copy_4 : decode cX8_copy 4 = .ok (.ifCond .eq 10, 3) := tb_d tk_X8_copy_1 2 (4, .ifCond .eq 10, 3) rfl
theorem dX8_copy_7 : decode cX8_copy 7 = .ok (.iload_n 3, 1) := tb_d tk_X8_copy_1 3 (7, .iload_n 3, 1) rfl
theorem dX8_copy_8 : decode cX8_copy 8 = .ok (.invokestatic 60, 3) := tb_d tk_X8_copy_1 4 (8, .invokestatic 60, 3) rfl
theorem dX8_copy_11 : decode cX8_copy 11 = .ok (.ifCond .ne 6, 3) := tb_d tk_X8_copy_1 5 (11, .ifCond .ne 6, 3) rfl
theorem dX8_copy_14 : decode cX8_copy 14 = .ok (.ldc 64, 2) := tb_d tk_X8_copy_1 6 (14, .ldc 64, 2) rfl
theorem dX8_copy_16 : decode cX8_copy 16 = .ok (.ireturn, 1) := tb_d tk_X8_copy_1 7 (16, .ireturn, 1) rfl
theorem dX8_copy_17 : decode cX8_copy 17 = .ok (.aload_n 0, 1) := tb_d tk_X8_copy_1 8 (17, .aload_n 0, 1) rfl
theorem dX8_copy_18 : decode cX8_copy 18 = .ok (.iload_n 1, 1) := tb_d tk_X8_copy_1 9 (18, .iload_n 1, 1) rfl
theorem dX8_copy_19 : decode cX8_copy 19 = .ok (.invokevirtual 72, 3) := tb_d tk_X8_copy_1 10 (19, .invokevirtual 72, 3) rfl
theorem dX8_copy_22 : decode cX8_copy 22 = .ok (.ifCond .ne 11, 3) := tb_d tk_X8_copy_1 11 (22, .ifCond .ne 11, 3) rfl
theorem dX8_copy_25 : decode cX8_copy 25 = .ok (.aload_n 0, 1) := tb_d tk_X8_copy_1 12 (25, .aload_n 0, 1) rfl
theorem dX8_copy_26 : decode cX8_copy 26 = .ok (.iload_n 3, 1) := tb_d tk_X8_copy_1 13 (26, .iload_n 3, 1) rfl
theorem dX8_copy_27 : decode cX8_copy 27 = .ok (.invokevirtual 72, 3) := tb_d tk_X8_copy_1 14 (27, .invokevirtual 72, 3) rfl
theorem dX8_copy_30 : decode cX8_copy 30 = .ok (.ifCond .eq 9, 3) := tb_d tk_X8_copy_1 15 (30, .ifCond .eq 9, 3) rfl
theorem dX8_copy_33 : decode cX8_copy 33 = .ok (.aload_n 0, 1) := tb_d tk_X8_copy_1 16 (33, .aload_n 0, 1) rfl
theorem dX8_copy_34 : decode cX8_copy 34 = .ok (.iconst 1, 1) := tb_d tk_X8_copy_1 17 (34, .iconst 1, 1) rfl
theorem dX8_copy_35 : decode cX8_copy 35 = .ok (.invokevirtual 65, 3) := tb_d tk_X8_copy_1 18 (35, .invokevirtual 65, 3) rfl
theorem dX8_copy_38 : decode cX8_copy 38 = .ok (.ireturn, 1) := tb_d tk_X8_copy_1 19 (38, .ireturn, 1) rfl
theorem dX8_copy_39 : decode cX8_copy 39 = .ok (.aload_n 0, 1) := tb_d tk_X8_copy_1 20 (39, .aload_n 0, 1) rfl
theorem dX8_copy_40 : decode cX8_copy 40 = .ok (.getfield 7, 3) := tb_d tk_X8_copy_1 21 (40, .getfield 7, 3) rfl
theorem dX8_copy_43 : decode cX8_copy 43 = .ok (.iload_n 1, 1) := tb_d tk_X8_copy_1 22 (43, .iload_n 1, 1) rfl
theorem dX8_copy_44 : decode cX8_copy 44 = .ok (.iaload, 1) := tb_d tk_X8_copy_1 23 (44, .iaload, 1) rfl
theorem dX8_copy_45 : decode cX8_copy 45 = .ok (.aload_n 0, 1) := tb_d tk_X8_copy_1 24 (45, .aload_n 0, 1) rfl
theorem dX8_copy_46 : decode cX8_copy 46 = .ok (.getfield 7, 3) := tb_d tk_X8_copy_1 25 (46, .getfield 7, 3) rfl
theorem dX8_copy_49 : decode cX8_copy 49 = .ok (.iload_n 3, 1) := tb_d tk_X8_copy_1 26 (49, .iload_n 3, 1) rfl
theorem dX8_copy_50 : decode cX8_copy 50 = .ok (.iaload, 1) := tb_d tk_X8_copy_1 27 (50, .iaload, 1) rfl
theorem dX8_copy_51 : decode cX8_copy 51 = .ok (.if_icmp .eq 9, 3) := tb_d tk_X8_copy_1 28 (51, .if_icmp .eq 9, 3) rfl
theorem dX8_copy_54 : decode cX8_copy 54 = .ok (.aload_n 0, 1) := tb_d tk_X8_copy_1 29 (54, .aload_n 0, 1) rfl
theorem dX8_copy_55 : decode cX8_copy 55 = .ok (.iconst 5, 1) := tb_d tk_X8_copy_1 30 (55, .iconst 5, 1) rfl
theorem dX8_copy_56 : decode cX8_copy 56 = .ok (.invokevirtual 65, 3) := tb_d tk_X8_copy_1 31 (56, .invokevirtual 65, 3) rfl
theorem dX8_copy_59 : decode cX8_copy 59 = .ok (.ireturn, 1) := tb_d tk_X8_copy_1 32 (59, .ireturn, 1) rfl
theorem dX8_copy_60 : decode cX8_copy 60 = .ok (.aload_n 0, 1) := tb_d tk_X8_copy_1 33 (60, .aload_n 0, 1) rfl
theorem dX8_copy_61 : decode cX8_copy 61 = .ok (.iload_n 1, 1) := tb_d tk_X8_copy_1 34 (61, .iload_n 1, 1) rfl
theorem dX8_copy_62 : decode cX8_copy 62 = .ok (.iload_n 2, 1) := tb_d tk_X8_copy_1 35 (62, .iload_n 2, 1) rfl
theorem dX8_copy_63 : decode cX8_copy 63 = .ok (.iload 5, 2) := tb_d tk_X8_copy_1 36 (63, .iload 5, 2) rfl
theorem dX8_copy_65 : decode cX8_copy 65 = .ok (.invokevirtual 79, 3) := tb_d tk_X8_copy_1 37 (65, .invokevirtual 79, 3) rfl
theorem dX8_copy_68 : decode cX8_copy 68 = .ok (.ifCond .eq 15, 3) := tb_d tk_X8_copy_1 38 (68, .ifCond .eq 15, 3) rfl
theorem dX8_copy_71 : decode cX8_copy 71 = .ok (.aload_n 0, 1) := tb_d tk_X8_copy_1 39 (71, .aload_n 0, 1) rfl
def tb_X8_copy_2 : List (Nat × Instr × Nat) := [(72, .iload_n 3, 1), (73, .iload 4, 2), (75, .iload 5, 2), (77, .invokevirtual 79, 3), (80, .ifCond .ne 9, 3), (83, .aload_n 0, 1), (84, .iconst 2, 1), (85, .invokevirtual 65, 3), (88, .ireturn, 1), (89, .iconst 0, 1), (90, .istore 6, 2), (92, .iload 6, 2), (94, .iload 5, 2), (96, .if_icmp .ge 30, 3), (99, .aload_n 0, 1), (100, .getfield 19, 3), (103, .iload 6, 2), (105, .aload_n 0, 1), (106, .getfield 16, 3), (109, .bipush 40, 2), (111, .iload_n 1, 1), (112, .imul, 1), (113, .iload_n 2, 1), (114, .iadd, 1), (115, .iload 6, 2), (117, .iadd, 1), (118, .iaload, 1), (119, .iastore, 1), (120, .iinc 6 1, 3), (123, .goto (-31), 3), (126, .iconst 0, 1), (127, .istore 6, 2), (129, .iload 6, 2), (131, .iload 5, 2), (133, .if_icmp .ge 31, 3), (136, .aload_n 0, 1), (137, .getfield 16, 3), (140, .bipush 40, 2), (142, .iload_n 3, 1), (143, .imul, 1)]
set_option maxRecDepth 100000 in
theorem tk_X8_copy_2 : (tb_X8_copy_2.all fun q => decide (decode cX8_copy q.1 = .ok q.2)) = true := by decide +kernel
theorem dX8_copy_72 : decode cX8_copy 72 = .ok (.iload_n 3, 1) := tb_d tk_X8_copy_2 0 (72, .iload_n 3, 1) rfl
theorem dX8_copy_73 : decode cX8_copy 73 = .ok (.iload 4, 2) := tb_d tk_X8_copy_2 1 (73, .iload 4, 2) rfl
theorem dX8_copy_75 : decode cX8_copy 75 = .ok (.iload 5, 2) := tb_d tk_X8_copy_2 2 (75, .iload 5, 2) rfl
theorem dX8_copy_77 : decode cX8_copy 77 = .ok (.invokevirtual 79, 3) := tb_d tk_X8_copy_2 3 (77, .invokevirtual 79, 3) rfl
theorem dX8_copy_80 : decode cX8_copy 80 = .ok (.ifCond .ne 9, 3) := tb_d tk_X8_copy_2 4 (80, .ifCond .ne 9, 3) rfl
theorem dX8_copy_83 : decode cX8_copy 83 = .ok (.aload_n 0, 1) := tb_d tk_X8_copy_2 5 (83, .aload_n 0, 1) rfl
theorem dX8_copy_84 : decode cX8_copy 84 = .ok (.iconst 2, 1) := tb_d tk_X8_copy_2 6 (84, .iconst 2, 1) rfl
theorem dX8_copy_85 : decode cX8_copy 85 = .ok (.invokevirtual 65, 3) := tb_d tk_X8_copy_2 7 (85, .invokevirtual 65, 3) rfl
theorem dX8_copy_88 : decode cX8_copy 88 = .ok (.ireturn, 1) := tb_d tk_X8_copy_2 8 (88, .ireturn, 1) rfl
theorem dX8_copy_89 : decode cX8_copy 89 = .ok (.iconst 0, 1) := tb_d tk_X8_copy_2 9 (89, .iconst 0, 1) rfl
theorem dX8_copy_90 : decode cX8_copy 90 = .ok (.istore 6, 2) := tb_d tk_X8_copy_2 10 (90, .istore 6, 2) rfl
theorem dX8_copy_92 : decode cX8_copy 92 = .ok (.iload 6, 2) := tb_d tk_X8_copy_2 11 (92, .iload 6, 2) rfl
theorem dX8_copy_94 : decode cX8_copy 94 = .ok (.iload 5, 2) := tb_d tk_X8_copy_2 12 (94, .iload 5, 2) rfl
theorem dX8_copy_96 : decode cX8_copy 96 = .ok (.if_icmp .ge 30, 3) := tb_d tk_X8_copy_2 13 (96, .if_icmp .ge 30, 3) rfl
theorem dX8_copy_99 : decode cX8_copy 99 = .ok (.aload_n 0, 1) := tb_d tk_X8_copy_2 14 (99, .aload_n 0, 1) rfl
theorem dX8_copy_100 : decode cX8_copy 100 = .ok (.getfield 19, 3) := tb_d tk_X8_copy_2 15 (100, .getfield 19, 3) rfl
theorem dX8_copy_103 : decode cX8_copy 103 = .ok (.iload 6, 2) := tb_d tk_X8_copy_2 16 (103, .iload 6, 2) rfl
theorem dX8_copy_105 : decode cX8_copy 105 = .ok (.aload_n 0, 1) := tb_d tk_X8_copy_2 17 (105, .aload_n 0, 1) rfl
theorem dX8_copy_106 : decode cX8_copy 106 = .ok (.getfield 16, 3) := tb_d tk_X8_copy_2 18 (106, .getfield 16, 3) rfl
theorem dX8_copy_109 : decode cX8_copy 109 = .ok (.bipush 40, 2) := tb_d tk_X8_copy_2 19 (109, .bipush 40, 2) rfl
theorem dX8_copy_111 : decode cX8_copy 111 = .ok (.iload_n 1, 1) := tb_d tk_X8_copy_2 20 (111, .iload_n 1, 1) rfl
theorem dX8_copy_112 : decode cX8_copy 112 = .ok (.imul, 1) := tb_d tk_X8_copy_2 21 (112, .imul, 1) rfl
theorem dX8_copy_113 : decode cX8_copy 113 = .ok (.iload_n 2, 1) := tb_d tk_X8_copy_2 22 (113, .iload_n 2, 1) rfl
theorem dX8_copy_114 : decode cX8_copy 114 = .ok (.iadd, 1) := tb_d tk_X8_copy_2 23 (114, .iadd, 1) rfl
theorem dX8_copy_115 : decode cX8_copy 115 = .ok (.iload 6, 2) := tb_d tk_X8_copy_2 24 (115, .iload 6, 2) rfl
theorem dX8_copy_117 : decode cX8_copy 117 = .ok (.iadd, 1) := tb_d tk_X8_copy_2 25 (117, .iadd, 1) rfl
theorem dX8_copy_118 : decode cX8_copy 118 = .ok (.iaload, 1) := tb_d tk_X8_copy_2 26 (118, .iaload, 1) rfl
theorem dX8_copy_119 : decode cX8_copy 119 = .ok (.iastore, 1) := tb_d tk_X8_copy_2 27 (119, .iastore, 1) rfl
theorem dX8_copy_120 : decode cX8_copy 120 = .ok (.iinc 6 1, 3) := tb_d tk_X8_copy_2 28 (120, .iinc 6 1, 3) rfl
theorem dX8_copy_123 : decode cX8_copy 123 = .ok (.goto (-31), 3) := tb_d tk_X8_copy_2 29 (123, .goto (-31), 3) rfl
theorem dX8_copy_126 : decode cX8_copy 126 = .ok (.iconst 0, 1) := tb_d tk_X8_copy_2 30 (126, .iconst 0, 1) rfl
theorem dX8_copy_127 : decode cX8_copy 127 = .ok (.istore 6, 2) := tb_d tk_X8_copy_2 31 (127, .istore 6, 2) rfl
theorem dX8_copy_129 : decode cX8_copy 129 = .ok (.iload 6, 2) := tb_d tk_X8_copy_2 32 (129, .iload 6, 2) rfl
theorem dX8_copy_131 : decode cX8_copy 131 = .ok (.iload 5, 2) := tb_d tk_X8_copy_2 33 (131, .iload 5, 2) rfl
theorem dX8_copy_133 : decode cX8_copy 133 = .ok (.if_icmp .ge 31, 3) := tb_d tk_X8_copy_2 34 (133, .if_icmp .ge 31, 3) rfl
theorem dX8_copy_136 : decode cX8_copy 136 = .ok (.aload_n 0, 1) := tb_d tk_X8_copy_2 35 (136, .aload_n 0, 1) rfl
theorem dX8_copy_137 : decode cX8_copy 137 = .ok (.getfield 16, 3) := tb_d tk_X8_copy_2 36 (137, .getfield 16, 3) rfl
theorem dX8_copy_140 : decode cX8_copy 140 = .ok (.bipush 40, 2) := tb_d tk_X8_copy_2 37 (140, .bipush 40, 2) rfl
theorem dX8_copy_142 : decode cX8_copy 142 = .ok (.iload_n 3, 1) := tb_d tk_X8_copy_2 38 (142, .iload_n 3, 1) rfl
theorem dX8_copy_143 : decode cX8_copy 143 = .ok (.imul, 1) := tb_d tk_X8_copy_2 39 (143, .imul, 1) rfl
def tb_X8_copy_3 : List (Nat × Instr × Nat) := [(144, .iload 4, 2), (146, .iadd, 1), (147, .iload 6, 2), (149, .iadd, 1), (150, .aload_n 0, 1), (151, .getfield 19, 3), (154, .iload 6, 2), (156, .iaload, 1), (157, .iastore, 1), (158, .iinc 6 1, 3), (161, .goto (-32), 3), (164, .aload_n 0, 1), (165, .iload 5, 2), (167, .invokevirtual 69, 3), (170, .ireturn, 1)]
set_option maxRecDepth 100000 in
theorem tk_X8_copy_3 : (tb_X8_copy_3.all fun q => decide (decode cX8_copy q.1 = .ok q.2)) = true := by decide +kernel
theorem dX8_copy_144 : decode cX8_copy 144 = .ok (.iload 4, 2) := tb_d tk_X8_copy_3 0 (144, .iload 4, 2) rfl
theorem dX8_copy_146 : decode cX8_copy 146 = .ok (.iadd, 1) := tb_d tk_X8_copy_3 1 (146, .iadd, 1) rfl
theorem dX8_copy_147 : decode cX8_copy 147 = .ok (.iload 6, 2) := tb_d tk_X8_copy_3 2 (147, .iload 6, 2) rfl
theorem dX8_copy_149 : decode cX8_copy 149 = .ok (.iadd, 1) := tb_d tk_X8_copy_3 3 (149, .iadd, 1) rfl
theorem dX8_copy_150 : decode cX8_copy 150 = .ok (.aload_n 0, 1) := tb_d tk_X8_copy_3 4 (150, .aload_n 0, 1) rfl
theorem dX8_copy_151 : decode cX8_copy 151 = .ok (.getfield 19, 3) := tb_d tk_X8_copy_3 5 (151, .getfield 19, 3) rfl
theorem dX8_copy_154 : decode cX8_copy 154 = .ok (.iload 6, 2) := tb_d tk_X8_copy_3 6 (154, .iload 6, 2) rfl
theorem dX8_copy_156 : decode cX8_copy 156 = .ok (.iaload, 1) := tb_d tk_X8_copy_3 7 (156, .iaload, 1) rfl
theorem dX8_copy_157 : decode cX8_copy 157 = .ok (.iastore, 1) := tb_d tk_X8_copy_3 8 (157, .iastore, 1) rfl
theorem dX8_copy_158 : decode cX8_copy 158 = .ok (.iinc 6 1, 3) := tb_d tk_X8_copy_3 9 (158, .iinc 6 1, 3) rfl
theorem dX8_copy_161 : decode cX8_copy 161 = .ok (.goto (-32), 3) := tb_d tk_X8_copy_3 10 (161, .goto (-32), 3) rfl
theorem dX8_copy_164 : decode cX8_copy 164 = .ok (.aload_n 0, 1) := tb_d tk_X8_copy_3 11 (164, .aload_n 0, 1) rfl
theorem dX8_copy_165 : decode cX8_copy 165 = .ok (.iload 5, 2) := tb_d tk_X8_copy_3 12 (165, .iload 5, 2) rfl
theorem dX8_copy_167 : decode cX8_copy 167 = .ok (.invokevirtual 69, 3) := tb_d tk_X8_copy_3 13 (167, .invokevirtual 69, 3) rfl
theorem dX8_copy_170 : decode cX8_copy 170 = .ok (.ireturn, 1) := tb_d tk_X8_copy_3 14 (170, .ireturn, 1) rfl
theorem ggX8_drop_X8_isRow : GoodIn wsX8_drop wsX8_isRow := fun w h => ⟨List.mem_cons_of_mem _ (List.mem_append_right _ (List.mem_append_right _ (List.mem_append_right _ (List.mem_append_right _ (List.mem_append_right _ (List.mem_append_right _ (List.mem_append_left _ h))))))), good_of_word (gdX8_isRow w h)⟩
set_option maxRecDepth 20000 in
theorem gX8_drop_X8_isRow : GoodIn wsX8_drop (va_wsS RX8 60 yX8_isRow wsX8_isRow) := goodIn_app (a := bkS RX8 60 yX8_isRow) (fun w h => ⟨List.mem_cons_of_mem _ (List.mem_append_right _ (List.mem_append_left _ h)), good_of_word (gd_bS _ _ _ w h)⟩) ggX8_drop_X8_isRow
theorem ggX8_drop_X8_isMissing : GoodIn wsX8_drop wsX8_isMissing := fun w h => ⟨List.mem_cons_of_mem _ (List.mem_append_right _ (List.mem_append_right _ (List.mem_append_right _ (List.mem_append_right _ (List.mem_append_right _ (List.mem_append_right _ (List.mem_append_right _ (List.mem_append_left _ h)))))))), good_of_word (gdX8_isMissing w h)⟩
set_option maxRecDepth 20000 in
theorem gX8_drop_X8_isMissing : GoodIn wsX8_drop (wsV RX8 72 RX8 yX8_isMissing wsX8_isMissing) := goodIn_app (a := bkV RX8 72 RX8 yX8_isMissing) (fun w h => ⟨List.mem_cons_of_mem _ (List.mem_append_right _ (List.mem_append_right _ (List.mem_append_left _ h))), good_of_word (gd_bV _ _ _ _ w h)⟩) ggX8_drop_X8_isMissing
theorem ggX8_drop_X8_found : GoodIn wsX8_drop wsX8_found := fun w h => ⟨List.mem_cons_of_mem _ (List.mem_append_right _ (List.mem_append_right _ (List.mem_append_right _ (List.mem_append_right _ (List.mem_append_right _ (List.mem_append_right _ (List.mem_append_right _ (List.mem_append_right _ (List.mem_append_left _ h))))))))), good_of_word (gdX8_found w h)⟩
set_option maxRecDepth 20000 in
theorem gX8_drop_X8_found : GoodIn wsX8_drop (wsV RX8 65 RX8 yX8_found wsX8_found) := goodIn_app (a := bkV RX8 65 RX8 yX8_found) (fun w h => ⟨List.mem_cons_of_mem _ (List.mem_append_right _ (List.mem_append_right _ (List.mem_append_right _ (List.mem_append_left _ h)))), good_of_word (gd_bV _ _ _ _ w h)⟩) ggX8_drop_X8_found
theorem ggX8_drop_X8_well : GoodIn wsX8_drop wsX8_well := fun w h => ⟨List.mem_cons_of_mem _ (List.mem_append_right _ (List.mem_append_right _ (List.mem_append_right _ (List.mem_append_right _ (List.mem_append_right _ (List.mem_append_right _ (List.mem_append_right _ (List.mem_append_right _ (List.mem_append_right _ (List.mem_append_left _ h)))))))))), good_of_word (gdX8_well w h)⟩
set_option maxRecDepth 20000 in
theorem gX8_drop_X8_well : GoodIn wsX8_drop (wsV RX8 69 RX8 yX8_well wsX8_well) := goodIn_app (a := bkV RX8 69 RX8 yX8_well) (fun w h => ⟨List.mem_cons_of_mem _ (List.mem_append_right _ (List.mem_append_right _ (List.mem_append_right _ (List.mem_append_right _ (List.mem_append_left _ h))))), good_of_word (gd_bV _ _ _ _ w h)⟩) ggX8_drop_X8_well
def tb_X8_drop_1 : List (Nat × Instr × Nat) := [(0, .iload_n 1, 1), (1, .invokestatic 60, 3), (4, .ifCond .ne 6, 3), (7, .ldc 64, 2), (9, .ireturn, 1), (10, .aload_n 0, 1), (11, .iload_n 1, 1), (12, .invokevirtual 72, 3), (15, .ifCond .eq 9, 3), (18, .aload_n 0, 1), (19, .iconst 1, 1), (20, .invokevirtual 65, 3), (23, .ireturn, 1), (24, .aload_n 0, 1), (25, .getfield 7, 3), (28, .iload_n 1, 1), (29, .ldc 50, 2), (31, .iastore, 1), (32, .aload_n 0, 1), (33, .aload_n 0, 1), (34, .getfield 13, 3), (37, .iload_n 1, 1), (38, .iaload, 1), (39, .invokevirtual 69, 3), (42, .ireturn, 1)]
set_option maxRecDepth 100000 in
theorem tk_X8_drop_1 : (tb_X8_drop_1.all fun q => decide (decode cX8_drop q.1 = .ok q.2)) = true := by decide +kernel
theorem dX8_drop_0 : decode cX8_drop 0 = .ok (.iload_n 1, 1) := tb_d tk_X8_drop_1 0 (0, .iload_n 1, 1) rfl
theorem dX8_drop_1 : decode cX8_drop 1 = .ok (.invokestatic 60, 3) := tb_d tk_X8_drop_1 1 (1, .invokestatic 60, 3) rfl
theorem dX8_drop_4 : decode cX8_drop 4 = .ok (.ifCond .ne 6, 3) := tb_d tk_X8_drop_1 2 (4, .ifCond .ne 6, 3) rfl
theorem dX8_drop_7 : decode cX8_drop 7 = .ok (.ldc 64, 2) := tb_d tk_X8_drop_1 3 (7, .ldc 64, 2) rfl
theorem dX8_drop_9 : decode cX8_drop 9 = .ok (.ireturn, 1) := tb_d tk_X8_drop_1 4 (9, .ireturn, 1) rfl
theorem dX8_drop_10 : decode cX8_drop 10 = .ok (.aload_n 0, 1) := tb_d tk_X8_drop_1 5 (10, .aload_n 0, 1) rfl
theorem dX8_drop_11 : decode cX8_drop 11 = .ok (.iload_n 1, 1) := tb_d tk_X8_drop_1 6 (11, .iload_n 1, 1) rfl
theorem dX8_drop_12 : decode cX8_drop 12 = .ok (.invokevirtual 72, 3) := tb_d tk_X8_drop_1 7 (12, .invokevirtual 72, 3) rfl
theorem dX8_drop_15 : decode cX8_drop 15 = .ok (.ifCond .eq 9, 3) := tb_d tk_X8_drop_1 8 (15, .ifCond .eq 9, 3) rfl
theorem dX8_drop_18 : decode cX8_drop 18 = .ok (.aload_n 0, 1) := tb_d tk_X8_drop_1 9 (18, .aload_n 0, 1) rfl
theorem dX8_drop_19 : decode cX8_drop 19 = .ok (.iconst 1, 1) := tb_d tk_X8_drop_1 10 (19, .iconst 1, 1) rfl
theorem dX8_drop_20 : decode cX8_drop 20 = .ok (.invokevirtual 65, 3) := tb_d tk_X8_drop_1 11 (20, .invokevirtual 65, 3) rfl
theorem dX8_drop_23 : decode cX8_drop 23 = .ok (.ireturn, 1) := tb_d tk_X8_drop_1 12 (23, .ireturn, 1) rfl
theorem dX8_drop_24 : decode cX8_drop 24 = .ok (.aload_n 0, 1) := tb_d tk_X8_drop_1 13 (24, .aload_n 0, 1) rfl
theorem dX8_drop_25 : decode cX8_drop 25 = .ok (.getfield 7, 3) := tb_d tk_X8_drop_1 14 (25, .getfield 7, 3) rfl
theorem dX8_drop_28 : decode cX8_drop 28 = .ok (.iload_n 1, 1) := tb_d tk_X8_drop_1 15 (28, .iload_n 1, 1) rfl
theorem dX8_drop_29 : decode cX8_drop 29 = .ok (.ldc 50, 2) := tb_d tk_X8_drop_1 16 (29, .ldc 50, 2) rfl
theorem dX8_drop_31 : decode cX8_drop 31 = .ok (.iastore, 1) := tb_d tk_X8_drop_1 17 (31, .iastore, 1) rfl
theorem dX8_drop_32 : decode cX8_drop 32 = .ok (.aload_n 0, 1) := tb_d tk_X8_drop_1 18 (32, .aload_n 0, 1) rfl
theorem dX8_drop_33 : decode cX8_drop 33 = .ok (.aload_n 0, 1) := tb_d tk_X8_drop_1 19 (33, .aload_n 0, 1) rfl
theorem dX8_drop_34 : decode cX8_drop 34 = .ok (.getfield 13, 3) := tb_d tk_X8_drop_1 20 (34, .getfield 13, 3) rfl
theorem dX8_drop_37 : decode cX8_drop 37 = .ok (.iload_n 1, 1) := tb_d tk_X8_drop_1 21 (37, .iload_n 1, 1) rfl
theorem dX8_drop_38 : decode cX8_drop 38 = .ok (.iaload, 1) := tb_d tk_X8_drop_1 22 (38, .iaload, 1) rfl
theorem dX8_drop_39 : decode cX8_drop 39 = .ok (.invokevirtual 69, 3) := tb_d tk_X8_drop_1 23 (39, .invokevirtual 69, 3) rfl
theorem dX8_drop_42 : decode cX8_drop 42 = .ok (.ireturn, 1) := tb_d tk_X8_drop_1 24 (42, .ireturn, 1) rfl
theorem ggX8_feed_X8_in : GoodIn wsX8_feed wsX8_in := fun w h => ⟨List.mem_cons_of_mem _ (List.mem_append_right _ (List.mem_append_right _ (List.mem_append_right _ (List.mem_append_left _ h)))), good_of_word (gdX8_in w h)⟩
set_option maxRecDepth 20000 in
theorem gX8_feed_X8_in : GoodIn wsX8_feed (va_wsS RX8 56 yX8_in wsX8_in) := goodIn_app (a := bkS RX8 56 yX8_in) (fun w h => ⟨List.mem_cons_of_mem _ (List.mem_append_right _ (List.mem_append_left _ h)), good_of_word (gd_bS _ _ _ w h)⟩) ggX8_feed_X8_in
def tb_X8_feed_1 : List (Nat × Instr × Nat) := [(0, .iload_n 1, 1), (1, .iconst 0, 1), (2, .sipush 255, 3), (5, .invokestatic 56, 3), (8, .ifCond .ne 6, 3), (11, .ldc 64, 2), (13, .ireturn, 1), (14, .aload_n 0, 1), (15, .getfield 82, 3), (18, .bipush 100, 2), (20, .if_icmp .ne 6, 3), (23, .ldc 85, 2), (25, .ireturn, 1), (26, .aload_n 0, 1), (27, .getfield 22, 3), (30, .aload_n 0, 1), (31, .getfield 82, 3), (34, .iload_n 1, 1), (35, .iastore, 1), (36, .aload_n 0, 1), (37, .dup, 1), (38, .getfield 82, 3), (41, .iconst 1, 1), (42, .iadd, 1), (43, .putfield 82, 3), (46, .aload_n 0, 1), (47, .getfield 82, 3), (50, .ireturn, 1)]
set_option maxRecDepth 100000 in
theorem tk_X8_feed_1 : (tb_X8_feed_1.all fun q => decide (decode cX8_feed q.1 = .ok q.2)) = true := by decide +kernel
theorem dX8_feed_0 : decode cX8_feed 0 = .ok (.iload_n 1, 1) := tb_d tk_X8_feed_1 0 (0, .iload_n 1, 1) rfl
theorem dX8_feed_1 : decode cX8_feed 1 = .ok (.iconst 0, 1) := tb_d tk_X8_feed_1 1 (1, .iconst 0, 1) rfl
theorem dX8_feed_2 : decode cX8_feed 2 = .ok (.sipush 255, 3) := tb_d tk_X8_feed_1 2 (2, .sipush 255, 3) rfl
theorem dX8_feed_5 : decode cX8_feed 5 = .ok (.invokestatic 56, 3) := tb_d tk_X8_feed_1 3 (5, .invokestatic 56, 3) rfl
theorem dX8_feed_8 : decode cX8_feed 8 = .ok (.ifCond .ne 6, 3) := tb_d tk_X8_feed_1 4 (8, .ifCond .ne 6, 3) rfl
theorem dX8_feed_11 : decode cX8_feed 11 = .ok (.ldc 64, 2) := tb_d tk_X8_feed_1 5 (11, .ldc 64, 2) rfl
theorem dX8_feed_13 : decode cX8_feed 13 = .ok (.ireturn, 1) := tb_d tk_X8_feed_1 6 (13, .ireturn, 1) rfl
theorem dX8_feed_14 : decode cX8_feed 14 = .ok (.aload_n 0, 1) := tb_d tk_X8_feed_1 7 (14, .aload_n 0, 1) rfl
theorem dX8_feed_15 : decode cX8_feed 15 = .ok (.getfield 82, 3) := tb_d tk_X8_feed_1 8 (15, .getfield 82, 3) rfl
theorem dX8_feed_18 : decode cX8_feed 18 = .ok (.bipush 100, 2) := tb_d tk_X8_feed_1 9 (18, .bipush 100, 2) rfl
theorem dX8_feed_20 : decode cX8_feed 20 = .ok (.if_icmp .ne 6, 3) := tb_d tk_X8_feed_1 10 (20, .if_icmp .ne 6, 3) rfl
theorem dX8_feed_23 : decode cX8_feed 23 = .ok (.ldc 85, 2) := tb_d tk_X8_feed_1 11 (23, .ldc 85, 2) rfl
theorem dX8_feed_25 : decode cX8_feed 25 = .ok (.ireturn, 1) := tb_d tk_X8_feed_1 12 (25, .ireturn, 1) rfl
theorem dX8_feed_26 : decode cX8_feed 26 = .ok (.aload_n 0, 1) := tb_d tk_X8_feed_1 13 (26, .aload_n 0, 1) rfl
theorem dX8_feed_27 : decode cX8_feed 27 = .ok (.getfield 22, 3) := tb_d tk_X8_feed_1 14 (27, .getfield 22, 3) rfl
theorem dX8_feed_30 : decode cX8_feed 30 = .ok (.aload_n 0, 1) := tb_d tk_X8_feed_1 15 (30, .aload_n 0, 1) rfl
theorem dX8_feed_31 : decode cX8_feed 31 = .ok (.getfield 82, 3) := tb_d tk_X8_feed_1 16 (31, .getfield 82, 3) rfl
theorem dX8_feed_34 : decode cX8_feed 34 = .ok (.iload_n 1, 1) := tb_d tk_X8_feed_1 17 (34, .iload_n 1, 1) rfl
theorem dX8_feed_35 : decode cX8_feed 35 = .ok (.iastore, 1) := tb_d tk_X8_feed_1 18 (35, .iastore, 1) rfl
theorem dX8_feed_36 : decode cX8_feed 36 = .ok (.aload_n 0, 1) := tb_d tk_X8_feed_1 19 (36, .aload_n 0, 1) rfl
theorem dX8_feed_37 : decode cX8_feed 37 = .ok (.dup, 1) := tb_d tk_X8_feed_1 20 (37, .dup, 1) rfl
theorem dX8_feed_38 : decode cX8_feed 38 = .ok (.getfield 82, 3) := tb_d tk_X8_feed_1 21 (38, .getfield 82, 3) rfl
theorem dX8_feed_41 : decode cX8_feed 41 = .ok (.iconst 1, 1) := tb_d tk_X8_feed_1 22 (41, .iconst 1, 1) rfl
theorem dX8_feed_42 : decode cX8_feed 42 = .ok (.iadd, 1) := tb_d tk_X8_feed_1 23 (42, .iadd, 1) rfl
theorem dX8_feed_43 : decode cX8_feed 43 = .ok (.putfield 82, 3) := tb_d tk_X8_feed_1 24 (43, .putfield 82, 3) rfl
theorem dX8_feed_46 : decode cX8_feed 46 = .ok (.aload_n 0, 1) := tb_d tk_X8_feed_1 25 (46, .aload_n 0, 1) rfl
theorem dX8_feed_47 : decode cX8_feed 47 = .ok (.getfield 82, 3) := tb_d tk_X8_feed_1 26 (47, .getfield 82, 3) rfl
theorem dX8_feed_50 : decode cX8_feed 50 = .ok (.ireturn, 1) := tb_d tk_X8_feed_1 27 (50, .ireturn, 1) rfl
def tb_X8_byteAt_1 : List (Nat × Instr × Nat) := [(0, .iload_n 1, 1), (1, .aload_n 0, 1), (2, .getfield 82, 3), (5, .if_icmp .ge 12, 3), (8, .aload_n 0, 1), (9, .getfield 22, 3), (12, .iload_n 1, 1), (13, .iaload, 1), (14, .goto 4, 3), (17, .iconst (-1), 1), (18, .ireturn, 1)]
set_option maxRecDepth 100000 in
theorem tk_X8_byteAt_1 : (tb_X8_byteAt_1.all fun q => decide (decode cX8_byteAt q.1 = .ok q.2)) = true := by decide +kernel
theorem dX8_byteAt_0 : decode cX8_byteAt 0 = .ok (.iload_n 1, 1) := tb_d tk_X8_byteAt_1 0 (0, .iload_n 1, 1) rfl
theorem dX8_byteAt_1 : decode cX8_byteAt 1 = .ok (.aload_n 0, 1) := tb_d tk_X8_byteAt_1 1 (1, .aload_n 0, 1) rfl
theorem dX8_byteAt_2 : decode cX8_byteAt 2 = .ok (.getfield 82, 3) := tb_d tk_X8_byteAt_1 2 (2, .getfield 82, 3) rfl
theorem dX8_byteAt_5 : decode cX8_byteAt 5 = .ok (.if_icmp .ge 12, 3) := tb_d tk_X8_byteAt_1 3 (5, .if_icmp .ge 12, 3) rfl
theorem dX8_byteAt_8 : decode cX8_byteAt 8 = .ok (.aload_n 0, 1) := tb_d tk_X8_byteAt_1 4 (8, .aload_n 0, 1) rfl
theorem dX8_byteAt_9 : decode cX8_byteAt 9 = .ok (.getfield 22, 3) := tb_d tk_X8_byteAt_1 5 (9, .getfield 22, 3) rfl
theorem dX8_byteAt_12 : decode cX8_byteAt 12 = .ok (.iload_n 1, 1) := tb_d tk_X8_byteAt_1 6 (12, .iload_n 1, 1) rfl
theorem dX8_byteAt_13 : decode cX8_byteAt 13 = .ok (.iaload, 1) := tb_d tk_X8_byteAt_1 7 (13, .iaload, 1) rfl
theorem dX8_byteAt_14 : decode cX8_byteAt 14 = .ok (.goto 4, 3) := tb_d tk_X8_byteAt_1 8 (14, .goto 4, 3) rfl
theorem dX8_byteAt_17 : decode cX8_byteAt 17 = .ok (.iconst (-1), 1) := tb_d tk_X8_byteAt_1 9 (17, .iconst (-1), 1) rfl
theorem dX8_byteAt_18 : decode cX8_byteAt 18 = .ok (.ireturn, 1) := tb_d tk_X8_byteAt_1 10 (18, .ireturn, 1) rfl
theorem ggX8_advances_X8_byteAt : GoodIn wsX8_advances wsX8_byteAt := fun w h => ⟨List.mem_cons_of_mem _ (List.mem_append_right _ (List.mem_append_right _ (List.mem_append_right _ (List.mem_append_right _ (List.mem_append_left _ h))))), good_of_word (gdX8_byteAt w h)⟩
set_option maxRecDepth 20000 in
theorem gX8_advances_X8_byteAt : GoodIn wsX8_advances (wsV RX8 92 RX8 yX8_byteAt wsX8_byteAt) := goodIn_app (a := bkV RX8 92 RX8 yX8_byteAt) (fun w h => ⟨List.mem_cons_of_mem _ (List.mem_append_right _ (List.mem_append_left _ h)), good_of_word (gd_bV _ _ _ _ w h)⟩) ggX8_advances_X8_byteAt
theorem ggX8_advances_X8_in : GoodIn wsX8_advances wsX8_in := fun w h => ⟨List.mem_cons_of_mem _ (List.mem_append_right _ (List.mem_append_right _ (List.mem_append_right _ (List.mem_append_right _ (List.mem_append_right _ (List.mem_append_left _ h)))))), good_of_word (gdX8_in w h)⟩
set_option maxRecDepth 20000 in
theorem gX8_advances_X8_in : GoodIn wsX8_advances (va_wsS RX8 56 yX8_in wsX8_in) := goodIn_app (a := bkS RX8 56 yX8_in) (fun w h => ⟨List.mem_cons_of_mem _ (List.mem_append_right _ (List.mem_append_right _ (List.mem_append_left _ h))), good_of_word (gd_bS _ _ _ w h)⟩) ggX8_advances_X8_in
def tb_X8_advances_1 : List (Nat × Instr × Nat) := [(0, .aload_n 0, 1), (1, .aload_n 0, 1), (2, .getfield 86, 3), (5, .putfield 89, 3), (8, .aload_n 0, 1), (9, .aload_n 0, 1), (10, .getfield 86, 3), (13, .invokevirtual 92, 3), (16, .istore_n 1, 1), (17, .aload_n 0, 1), (18, .iload_n 1, 1), (19, .putfield 95, 3), (22, .iload_n 1, 1), (23, .bipush 48, 2), (25, .bipush 57, 2), (27, .invokestatic 56, 3), (30, .ifCond .eq 105, 3), (33, .aload_n 0, 1), (34, .iconst 0, 1), (35, .putfield 95, 3), (38, .aload_n 0, 1), (39, .aload_n 0, 1), (40, .getfield 86, 3), (43, .invokevirtual 92, 3), (46, .bipush 48, 2), (48, .bipush 57, 2), (50, .invokestatic 56, 3), (53, .ifCond .eq 59, 3), (56, .aload_n 0, 1), (57, .aload_n 0, 1), (58, .getfield 86, 3), (61, .aload_n 0, 1), (62, .getfield 89, 3), (65, .isub, 1), (66, .iconst 2, 1), (67, .if_icmp .ge 25, 3), (70, .bipush 10, 2), (72, .aload_n 0, 1), (73, .getfield 95, 3), (76, .imul, 1)]
set_option maxRecDepth 100000 in
theorem tk_X8_advances_1 : (tb_X8_advances_1.all fun q => decide (decode cX8_advances q.1 = .ok q.2)) = true := by decide +kernel
theorem dX8_advances_0 : decode cX8_advances 0 = .ok (.aload_n 0, 1) := tb_d tk_X8_advances_1 0 (0, .aload_n 0, 1) rfl
theorem dX8_advances_1 : decode cX8_advances 1 = .ok (.aload_n 0, 1) := tb_d tk_X8_advances_1 1 (1, .aload_n 0, 1) rfl
theorem dX8_advances_2 : decode cX8_advances 2 = .ok (.getfield 86, 3) := tb_d tk_X8_advances_1 2 (2, .getfield 86, 3) rfl
theorem dX8_advances_5 : decode cX8_advances 5 = .ok (.putfield 89, 3) := tb_d tk_X8_advances_1 3 (5, .putfield 89, 3) rfl
theorem dX8_advances_8 : decode cX8_advances 8 = .ok (.aload_n 0, 1) := tb_d tk_X8_advances_1 4 (8, .aload_n 0, 1) rfl
theorem dX8_advances_9 : decode cX8_advances 9 = .ok (.aload_n 0, 1) := tb_d tk_X8_advances_1 5 (9, .aload_n 0, 1) rfl
theorem dX8_advances_10 : decode cX8_advances 10 = .ok (.getfield 86, 3) := tb_d tk_X8_advances_1 6 (10, .getfield 86, 3) rfl
theorem dX8_advances_13 : decode cX8_advances 13 = .ok (.invokevirtual 92, 3) := tb_d tk_X8_advances_1 7 (13, .invokevirtual 92, 3) rfl
theorem dX8_advances_16 : decode cX8_advances 16 = .ok (.istore_n 1, 1) := tb_d tk_X8_advances_1 8 (16, .istore_n 1, 1) rfl
theorem dX8_advances_17 : decode cX8_advances 17 = .ok (.aload_n 0, 1) := tb_d tk_X8_advances_1 9 (17, .aload_n 0, 1) rfl
theorem dX8_advances_18 : decode cX8_advances 18 = .ok (.iload_n 1, 1) := tb_d tk_X8_advances_1 10 (18, .iload_n 1, 1) rfl
theorem dX8_advances_19 : decode cX8_advances 19 = .ok (.putfield 95, 3) := tb_d tk_X8_advances_1 11 (19, .putfield 95, 3) rfl
theorem dX8_advances_22 : decode cX8_advances 22 = .ok (.iload_n 1, 1) := tb_d tk_X8_advances_1 12 (22, .iload_n 1, 1) rfl
theorem dX8_advances_23 : decode cX8_advances 23 = .ok (.bipush 48, 2) := tb_d tk_X8_advances_1 13 (23, .bipush 48, 2) rfl
theorem dX8_advances_25 : decode cX8_advances 25 = .ok (.bipush 57, 2) := tb_d tk_X8_advances_1 14 (25, .bipush 57, 2) rfl
theorem dX8_advances_27 : decode cX8_advances 27 = .ok (.invokestatic 56, 3) := tb_d tk_X8_advances_1 15 (27, .invokestatic 56, 3) rfl
theorem dX8_advances_30 : decode cX8_advances 30 = .ok (.ifCond .eq 105, 3) := tb_d tk_X8_advances_1 16 (30, .ifCond .eq 105, 3) rfl
theorem dX8_advances_33 : decode cX8_advances 33 = .ok (.aload_n 0, 1) := tb_d tk_X8_advances_1 17 (33, .aload_n 0, 1) rfl
theorem dX8_advances_34 : decode cX8_advances 34 = .ok (.iconst 0, 1) := tb_d tk_X8_advances_1 18 (34, .iconst 0, 1) rfl
theorem dX8_advances_35 : decode cX8_advances 35 = .ok (.putfield 95, 3) := tb_d tk_X8_advances_1 19 (35, .putfield 95, 3) rfl
theorem dX8_advances_38 : decode cX8_advances 38 = .ok (.aload_n 0, 1) := tb_d tk_X8_advances_1 20 (38, .aload_n 0, 1) rfl
theorem dX8_advances_39 : decode cX8_advances 39 = .ok (.aload_n 0, 1) := tb_d tk_X8_advances_1 21 (39, .aload_n 0, 1) rfl
theorem dX8_advances_40 : decode cX8_advances 40 = .ok (.getfield 86, 3) := tb_d tk_X8_advances_1 22 (40, .getfield 86, 3) rfl
theorem dX8_advances_43 : decode cX8_advances 43 = .ok (.invokevirtual 92, 3) := tb_d tk_X8_advances_1 23 (43, .invokevirtual 92, 3) rfl
theorem dX8_advances_46 : decode cX8_advances 46 = .ok (.bipush 48, 2) := tb_d tk_X8_advances_1 24 (46, .bipush 48, 2) rfl
theorem dX8_advances_48 : decode cX8_advances 48 = .ok (.bipush 57, 2) := tb_d tk_X8_advances_1 25 (48, .bipush 57, 2) rfl
theorem dX8_advances_50 : decode cX8_advances 50 = .ok (.invokestatic 56, 3) := tb_d tk_X8_advances_1 26 (50, .invokestatic 56, 3) rfl
theorem dX8_advances_53 : decode cX8_advances 53 = .ok (.ifCond .eq 59, 3) := tb_d tk_X8_advances_1 27 (53, .ifCond .eq 59, 3) rfl
theorem dX8_advances_56 : decode cX8_advances 56 = .ok (.aload_n 0, 1) := tb_d tk_X8_advances_1 28 (56, .aload_n 0, 1) rfl
theorem dX8_advances_57 : decode cX8_advances 57 = .ok (.aload_n 0, 1) := tb_d tk_X8_advances_1 29 (57, .aload_n 0, 1) rfl
theorem dX8_advances_58 : decode cX8_advances 58 = .ok (.getfield 86, 3) := tb_d tk_X8_advances_1 30 (58, .getfield 86, 3) rfl
theorem dX8_advances_61 : decode cX8_advances 61 = .ok (.aload_n 0, 1) := tb_d tk_X8_advances_1 31 (61, .aload_n 0, 1) rfl
theorem dX8_advances_62 : decode cX8_advances 62 = .ok (.getfield 89, 3) := tb_d tk_X8_advances_1 32 (62, .getfield 89, 3) rfl
theorem dX8_advances_65 : decode cX8_advances 65 = .ok (.isub, 1) := tb_d tk_X8_advances_1 33 (65, .isub, 1) rfl
theorem dX8_advances_66 : decode cX8_advances 66 = .ok (.iconst 2, 1) := tb_d tk_X8_advances_1 34 (66, .iconst 2, 1) rfl
theorem dX8_advances_67 : decode cX8_advances 67 = .ok (.if_icmp .ge 25, 3) := tb_d tk_X8_advances_1 35 (67, .if_icmp .ge 25, 3) rfl
theorem dX8_advances_70 : decode cX8_advances 70 = .ok (.bipush 10, 2) := tb_d tk_X8_advances_1 36 (70, .bipush 10, 2) rfl
theorem dX8_advances_72 : decode cX8_advances 72 = .ok (.aload_n 0, 1) := tb_d tk_X8_advances_1 37 (72, .aload_n 0, 1) rfl
theorem dX8_advances_73 : decode cX8_advances 73 = .ok (.getfield 95, 3) := tb_d tk_X8_advances_1 38 (73, .getfield 95, 3) rfl
theorem dX8_advances_76 : decode cX8_advances 76 = .ok (.imul, 1) := tb_d tk_X8_advances_1 39 (76, .imul, 1) rfl
def tb_X8_advances_2 : List (Nat × Instr × Nat) := [(77, .aload_n 0, 1), (78, .aload_n 0, 1), (79, .getfield 86, 3), (82, .invokevirtual 92, 3), (85, .iadd, 1), (86, .bipush 48, 2), (88, .isub, 1), (89, .goto 7, 3), (92, .aload_n 0, 1), (93, .getfield 95, 3), (96, .putfield 95, 3), (99, .aload_n 0, 1), (100, .dup, 1), (101, .getfield 86, 3), (104, .iconst 1, 1), (105, .iadd, 1), (106, .putfield 86, 3), (109, .goto (-71), 3), (112, .aload_n 0, 1), (113, .aload_n 0, 1), (114, .getfield 86, 3), (117, .aload_n 0, 1), (118, .getfield 89, 3), (121, .isub, 1), (122, .iconst 3, 1), (123, .if_icmp .ge 7, 3), (126, .iconst 2, 1), (127, .goto 4, 3), (130, .iconst 5, 1), (131, .putfield 98, 3), (134, .return_, 1), (135, .aload_n 0, 1), (136, .iload_n 1, 1), (137, .ifCond .ge 7, 3), (140, .iconst 0, 1), (141, .goto 39, 3), (144, .iload_n 1, 1), (145, .bipush 97, 2), (147, .bipush 122, 2), (149, .invokestatic 56, 3)]
set_option maxRecDepth 100000 in
theorem tk_X8_advances_2 : (tb_X8_advances_2.all fun q => decide (decode cX8_advances q.1 = .ok q.2)) = true := by decide +kernel
theorem dX8_advances_77 : decode cX8_advances 77 = .ok (.aload_n 0, 1) := tb_d tk_X8_advances_2 0 (77, .aload_n 0, 1) rfl
theorem dX8_advances_78 : decode cX8_advances 78 = .ok (.aload_n 0, 1) := tb_d tk_X8_advances_2 1 (78, .aload_n 0, 1) rfl
theorem dX8_advances_79 : decode cX8_advances 79 = .ok (.getfield 86, 3) := tb_d tk_X8_advances_2 2 (79, .getfield 86, 3) rfl
theorem dX8_advances_82 : decode cX8_advances 82 = .ok (.invokevirtual 92, 3) := tb_d tk_X8_advances_2 3 (82, .invokevirtual 92, 3) rfl
theorem dX8_advances_85 : decode cX8_advances 85 = .ok (.iadd, 1) := tb_d tk_X8_advances_2 4 (85, .iadd, 1) rfl
theorem dX8_advances_86 : decode cX8_advances 86 = .ok (.bipush 48, 2) := tb_d tk_X8_advances_2 5 (86, .bipush 48, 2) rfl
theorem dX8_advances_88 : decode cX8_advances 88 = .ok (.isub, 1) := tb_d tk_X8_advances_2 6 (88, .isub, 1) rfl
theorem dX8_advances_89 : decode cX8_advances 89 = .ok (.goto 7, 3) := tb_d tk_X8_advances_2 7 (89, .goto 7, 3) rfl
theorem dX8_advances_92 : decode cX8_advances 92 = .ok (.aload_n 0, 1) := tb_d tk_X8_advances_2 8 (92, .aload_n 0, 1) rfl
theorem dX8_advances_93 : decode cX8_advances 93 = .ok (.getfield 95, 3) := tb_d tk_X8_advances_2 9 (93, .getfield 95, 3) rfl
theorem dX8_advances_96 : decode cX8_advances 96 = .ok (.putfield 95, 3) := tb_d tk_X8_advances_2 10 (96, .putfield 95, 3) rfl
theorem dX8_advances_99 : decode cX8_advances 99 = .ok (.aload_n 0, 1) := tb_d tk_X8_advances_2 11 (99, .aload_n 0, 1) rfl
theorem dX8_advances_100 : decode cX8_advances 100 = .ok (.dup, 1) := tb_d tk_X8_advances_2 12 (100, .dup, 1) rfl
theorem dX8_advances_101 : decode cX8_advances 101 = .ok (.getfield 86, 3) := tb_d tk_X8_advances_2 13 (101, .getfield 86, 3) rfl
theorem dX8_advances_104 : decode cX8_advances 104 = .ok (.iconst 1, 1) := tb_d tk_X8_advances_2 14 (104, .iconst 1, 1) rfl
theorem dX8_advances_105 : decode cX8_advances 105 = .ok (.iadd, 1) := tb_d tk_X8_advances_2 15 (105, .iadd, 1) rfl
theorem dX8_advances_106 : decode cX8_advances 106 = .ok (.putfield 86, 3) := tb_d tk_X8_advances_2 16 (106, .putfield 86, 3) rfl
theorem dX8_advances_109 : decode cX8_advances 109 = .ok (.goto (-71), 3) := tb_d tk_X8_advances_2 17 (109, .goto (-71), 3) rfl
theorem dX8_advances_112 : decode cX8_advances 112 = .ok (.aload_n 0, 1) := tb_d tk_X8_advances_2 18 (112, .aload_n 0, 1) rfl
theorem dX8_advances_113 : decode cX8_advances 113 = .ok (.aload_n 0, 1) := tb_d tk_X8_advances_2 19 (113, .aload_n 0, 1) rfl
theorem dX8_advances_114 : decode cX8_advances 114 = .ok (.getfield 86, 3) := tb_d tk_X8_advances_2 20 (114, .getfield 86, 3) rfl
theorem dX8_advances_117 : decode cX8_advances 117 = .ok (.aload_n 0, 1) := tb_d tk_X8_advances_2 21 (117, .aload_n 0, 1) rfl
theorem dX8_advances_118 : decode cX8_advances 118 = .ok (.getfield 89, 3) := tb_d tk_X8_advances_2 22 (118, .getfield 89, 3) rfl
theorem dX8_advances_121 : decode cX8_advances 121 = .ok (.isub, 1) := tb_d tk_X8_advances_2 23 (121, .isub, 1) rfl
theorem dX8_advances_122 : decode cX8_advances 122 = .ok (.iconst 3, 1) := tb_d tk_X8_advances_2 24 (122, .iconst 3, 1) rfl
theorem dX8_advances_123 : decode cX8_advances 123 = .ok (.if_icmp .ge 7, 3) := tb_d tk_X8_advances_2 25 (123, .if_icmp .ge 7, 3) rfl
theorem dX8_advances_126 : decode cX8_advances 126 = .ok (.iconst 2, 1) := tb_d tk_X8_advances_2 26 (126, .iconst 2, 1) rfl
theorem dX8_advances_127 : decode cX8_advances 127 = .ok (.goto 4, 3) := tb_d tk_X8_advances_2 27 (127, .goto 4, 3) rfl
theorem dX8_advances_130 : decode cX8_advances 130 = .ok (.iconst 5, 1) := tb_d tk_X8_advances_2 28 (130, .iconst 5, 1) rfl
theorem dX8_advances_131 : decode cX8_advances 131 = .ok (.putfield 98, 3) := tb_d tk_X8_advances_2 29 (131, .putfield 98, 3) rfl
theorem dX8_advances_134 : decode cX8_advances 134 = .ok (.return_, 1) := tb_d tk_X8_advances_2 30 (134, .return_, 1) rfl
theorem dX8_advances_135 : decode cX8_advances 135 = .ok (.aload_n 0, 1) := tb_d tk_X8_advances_2 31 (135, .aload_n 0, 1) rfl
theorem dX8_advances_136 : decode cX8_advances 136 = .ok (.iload_n 1, 1) := tb_d tk_X8_advances_2 32 (136, .iload_n 1, 1) rfl
theorem dX8_advances_137 : decode cX8_advances 137 = .ok (.ifCond .ge 7, 3) := tb_d tk_X8_advances_2 33 (137, .ifCond .ge 7, 3) rfl
theorem dX8_advances_140 : decode cX8_advances 140 = .ok (.iconst 0, 1) := tb_d tk_X8_advances_2 34 (140, .iconst 0, 1) rfl
theorem dX8_advances_141 : decode cX8_advances 141 = .ok (.goto 39, 3) := tb_d tk_X8_advances_2 35 (141, .goto 39, 3) rfl
theorem dX8_advances_144 : decode cX8_advances 144 = .ok (.iload_n 1, 1) := tb_d tk_X8_advances_2 36 (144, .iload_n 1, 1) rfl
theorem dX8_advances_145 : decode cX8_advances 145 = .ok (.bipush 97, 2) := tb_d tk_X8_advances_2 37 (145, .bipush 97, 2) rfl
theorem dX8_advances_147 : decode cX8_advances 147 = .ok (.bipush 122, 2) := tb_d tk_X8_advances_2 38 (147, .bipush 122, 2) rfl
theorem dX8_advances_149 : decode cX8_advances 149 = .ok (.invokestatic 56, 3) := tb_d tk_X8_advances_2 39 (149, .invokestatic 56, 3) rfl
def tb_X8_advances_3 : List (Nat × Instr × Nat) := [(152, .ifCond .eq 7, 3), (155, .iconst 1, 1), (156, .goto 24, 3), (159, .iload_n 1, 1), (160, .bipush 44, 2), (162, .if_icmp .ne 7, 3), (165, .iconst 3, 1), (166, .goto 14, 3), (169, .iload_n 1, 1), (170, .bipush 59, 2), (172, .if_icmp .ne 7, 3), (175, .iconst 4, 1), (176, .goto 4, 3), (179, .iconst 5, 1), (180, .putfield 98, 3), (183, .aload_n 0, 1), (184, .dup, 1), (185, .getfield 86, 3), (188, .aload_n 0, 1), (189, .getfield 98, 3), (192, .ifCond .ne 7, 3), (195, .iconst 0, 1), (196, .goto 4, 3), (199, .iconst 1, 1), (200, .iadd, 1), (201, .putfield 86, 3), (204, .return_, 1)]
set_option maxRecDepth 100000 in
theorem tk_X8_advances_3 : (tb_X8_advances_3.all fun q => decide (decode cX8_advances q.1 = .ok q.2)) = true := by decide +kernel
theorem dX8_advances_152 : decode cX8_advances 152 = .ok (.ifCond .eq 7, 3) := tb_d tk_X8_advances_3 0 (152, .ifCond .eq 7, 3) rfl
theorem dX8_advances_155 : decode cX8_advances 155 = .ok (.iconst 1, 1) := tb_d tk_X8_advances_3 1 (155, .iconst 1, 1) rfl
theorem dX8_advances_156 : decode cX8_advances 156 = .ok (.goto 24, 3) := tb_d tk_X8_advances_3 2 (156, .goto 24, 3) rfl
theorem dX8_advances_159 : decode cX8_advances 159 = .ok (.iload_n 1, 1) := tb_d tk_X8_advances_3 3 (159, .iload_n 1, 1) rfl
theorem dX8_advances_160 : decode cX8_advances 160 = .ok (.bipush 44, 2) := tb_d tk_X8_advances_3 4 (160, .bipush 44, 2) rfl
theorem dX8_advances_162 : decode cX8_advances 162 = .ok (.if_icmp .ne 7, 3) := tb_d tk_X8_advances_3 5 (162, .if_icmp .ne 7, 3) rfl
theorem dX8_advances_165 : decode cX8_advances 165 = .ok (.iconst 3, 1) := tb_d tk_X8_advances_3 6 (165, .iconst 3, 1) rfl
theorem dX8_advances_166 : decode cX8_advances 166 = .ok (.goto 14, 3) := tb_d tk_X8_advances_3 7 (166, .goto 14, 3) rfl
theorem dX8_advances_169 : decode cX8_advances 169 = .ok (.iload_n 1, 1) := tb_d tk_X8_advances_3 8 (169, .iload_n 1, 1) rfl
theorem dX8_advances_170 : decode cX8_advances 170 = .ok (.bipush 59, 2) := tb_d tk_X8_advances_3 9 (170, .bipush 59, 2) rfl
theorem dX8_advances_172 : decode cX8_advances 172 = .ok (.if_icmp .ne 7, 3) := tb_d tk_X8_advances_3 10 (172, .if_icmp .ne 7, 3) rfl
theorem dX8_advances_175 : decode cX8_advances 175 = .ok (.iconst 4, 1) := tb_d tk_X8_advances_3 11 (175, .iconst 4, 1) rfl
theorem dX8_advances_176 : decode cX8_advances 176 = .ok (.goto 4, 3) := tb_d tk_X8_advances_3 12 (176, .goto 4, 3) rfl
theorem dX8_advances_179 : decode cX8_advances 179 = .ok (.iconst 5, 1) := tb_d tk_X8_advances_3 13 (179, .iconst 5, 1) rfl
theorem dX8_advances_180 : decode cX8_advances 180 = .ok (.putfield 98, 3) := tb_d tk_X8_advances_3 14 (180, .putfield 98, 3) rfl
theorem dX8_advances_183 : decode cX8_advances 183 = .ok (.aload_n 0, 1) := tb_d tk_X8_advances_3 15 (183, .aload_n 0, 1) rfl
theorem dX8_advances_184 : decode cX8_advances 184 = .ok (.dup, 1) := tb_d tk_X8_advances_3 16 (184, .dup, 1) rfl
theorem dX8_advances_185 : decode cX8_advances 185 = .ok (.getfield 86, 3) := tb_d tk_X8_advances_3 17 (185, .getfield 86, 3) rfl
theorem dX8_advances_188 : decode cX8_advances 188 = .ok (.aload_n 0, 1) := tb_d tk_X8_advances_3 18 (188, .aload_n 0, 1) rfl
theorem dX8_advances_189 : decode cX8_advances 189 = .ok (.getfield 98, 3) := tb_d tk_X8_advances_3 19 (189, .getfield 98, 3) rfl
theorem dX8_advances_192 : decode cX8_advances 192 = .ok (.ifCond .ne 7, 3) := tb_d tk_X8_advances_3 20 (192, .ifCond .ne 7, 3) rfl
theorem dX8_advances_195 : decode cX8_advances 195 = .ok (.iconst 0, 1) := tb_d tk_X8_advances_3 21 (195, .iconst 0, 1) rfl
theorem dX8_advances_196 : decode cX8_advances 196 = .ok (.goto 4, 3) := tb_d tk_X8_advances_3 22 (196, .goto 4, 3) rfl
theorem dX8_advances_199 : decode cX8_advances 199 = .ok (.iconst 1, 1) := tb_d tk_X8_advances_3 23 (199, .iconst 1, 1) rfl
theorem dX8_advances_200 : decode cX8_advances 200 = .ok (.iadd, 1) := tb_d tk_X8_advances_3 24 (200, .iadd, 1) rfl
theorem dX8_advances_201 : decode cX8_advances 201 = .ok (.putfield 86, 3) := tb_d tk_X8_advances_3 25 (201, .putfield 86, 3) rfl
theorem dX8_advances_204 : decode cX8_advances 204 = .ok (.return_, 1) := tb_d tk_X8_advances_3 26 (204, .return_, 1) rfl
def tb_X8_isWell_1 : List (Nat × Instr × Nat) := [(0, .aload_n 0, 1), (1, .getfield 101, 3), (4, .ifCond .ge 7, 3), (7, .iconst 1, 1), (8, .goto 4, 3), (11, .iconst 0, 1), (12, .ireturn, 1)]
set_option maxRecDepth 100000 in
theorem tk_X8_isWell_1 : (tb_X8_isWell_1.all fun q => decide (decode cX8_isWell q.1 = .ok q.2)) = true := by decide +kernel
theorem dX8_isWell_0 : decode cX8_isWell 0 = .ok (.aload_n 0, 1) := tb_d tk_X8_isWell_1 0 (0, .aload_n 0, 1) rfl
theorem dX8_isWell_1 : decode cX8_isWell 1 = .ok (.getfield 101, 3) := tb_d tk_X8_isWell_1 1 (1, .getfield 101, 3) rfl
theorem dX8_isWell_4 : decode cX8_isWell 4 = .ok (.ifCond .ge 7, 3) := tb_d tk_X8_isWell_1 2 (4, .ifCond .ge 7, 3) rfl
theorem dX8_isWell_7 : decode cX8_isWell 7 = .ok (.iconst 1, 1) := tb_d tk_X8_isWell_1 3 (7, .iconst 1, 1) rfl
theorem dX8_isWell_8 : decode cX8_isWell 8 = .ok (.goto 4, 3) := tb_d tk_X8_isWell_1 4 (8, .goto 4, 3) rfl
theorem dX8_isWell_11 : decode cX8_isWell 11 = .ok (.iconst 0, 1) := tb_d tk_X8_isWell_1 5 (11, .iconst 0, 1) rfl
theorem dX8_isWell_12 : decode cX8_isWell 12 = .ok (.ireturn, 1) := tb_d tk_X8_isWell_1 6 (12, .ireturn, 1) rfl
theorem ggX8_takes_X8_isWell : GoodIn wsX8_takes wsX8_isWell := fun w h => ⟨List.mem_cons_of_mem _ (List.mem_append_right _ (List.mem_append_right _ (List.mem_append_right _ (List.mem_append_right _ (List.mem_append_left _ h))))), good_of_word (gdX8_isWell w h)⟩
set_option maxRecDepth 20000 in
theorem gX8_takes_X8_isWell : GoodIn wsX8_takes (wsV RX8 104 RX8 yX8_isWell wsX8_isWell) := goodIn_app (a := bkV RX8 104 RX8 yX8_isWell) (fun w h => ⟨List.mem_cons_of_mem _ (List.mem_append_right _ (List.mem_append_left _ h)), good_of_word (gd_bV _ _ _ _ w h)⟩) ggX8_takes_X8_isWell
theorem ggX8_takes_X8_advances : GoodIn wsX8_takes wsX8_advances := fun w h => ⟨List.mem_cons_of_mem _ (List.mem_append_right _ (List.mem_append_right _ (List.mem_append_right _ (List.mem_append_right _ (List.mem_append_right _ (List.mem_append_left _ h)))))), good_of_word (gdX8_advances w h)⟩
set_option maxRecDepth 20000 in
theorem gX8_takes_X8_advances : GoodIn wsX8_takes (wsV RX8 111 RX8 yX8_advances wsX8_advances) := goodIn_app (a := bkV RX8 111 RX8 yX8_advances) (fun w h => ⟨List.mem_cons_of_mem _ (List.mem_append_right _ (List.mem_append_right _ (List.mem_append_left _ h))), good_of_word (gd_bV _ _ _ _ w h)⟩) ggX8_takes_X8_advances
def tb_X8_takes_1 : List (Nat × Instr × Nat) := [(0, .aload_n 0, 1), (1, .invokevirtual 104, 3), (4, .ifCond .ne 5, 3), (7, .iconst 0, 1), (8, .ireturn, 1), (9, .iload_n 1, 1), (10, .ifCond .ne 18, 3), (13, .aload_n 0, 1), (14, .aload_n 0, 1), (15, .getfield 89, 3), (18, .putfield 101, 3), (21, .aload_n 0, 1), (22, .iload_n 2, 1), (23, .putfield 108, 3), (26, .iconst 0, 1), (27, .ireturn, 1), (28, .aload_n 0, 1), (29, .getfield 95, 3), (32, .istore_n 3, 1), (33, .aload_n 0, 1), (34, .invokevirtual 111, 3), (37, .iload_n 3, 1), (38, .ireturn, 1)]
set_option maxRecDepth 100000 in
theorem tk_X8_takes_1 : (tb_X8_takes_1.all fun q => decide (decode cX8_takes q.1 = .ok q.2)) = true := by decide +kernel
theorem dX8_takes_0 : decode cX8_takes 0 = .ok (.aload_n 0, 1) := tb_d tk_X8_takes_1 0 (0, .aload_n 0, 1) rfl
theorem dX8_takes_1 : decode cX8_takes 1 = .ok (.invokevirtual 104, 3) := tb_d tk_X8_takes_1 1 (1, .invokevirtual 104, 3) rfl
theorem dX8_takes_4 : decode cX8_takes 4 = .ok (.ifCond .ne 5, 3) := tb_d tk_X8_takes_1 2 (4, .ifCond .ne 5, 3) rfl
theorem dX8_takes_7 : decode cX8_takes 7 = .ok (.iconst 0, 1) := tb_d tk_X8_takes_1 3 (7, .iconst 0, 1) rfl
theorem dX8_takes_8 : decode cX8_takes 8 = .ok (.ireturn, 1) := tb_d tk_X8_takes_1 4 (8, .ireturn, 1) rfl
theorem dX8_takes_9 : decode cX8_takes 9 = .ok (.iload_n 1, 1) := tb_d tk_X8_takes_1 5 (9, .iload_n 1, 1) rfl
theorem dX8_takes_10 : decode cX8_takes 10 = .ok (.ifCond .ne 18, 3) := tb_d tk_X8_takes_1 6 (10, .ifCond .ne 18, 3) rfl
theorem dX8_takes_13 : decode cX8_takes 13 = .ok (.aload_n 0, 1) := tb_d tk_X8_takes_1 7 (13, .aload_n 0, 1) rfl
theorem dX8_takes_14 : decode cX8_takes 14 = .ok (.aload_n 0, 1) := tb_d tk_X8_takes_1 8 (14, .aload_n 0, 1) rfl
theorem dX8_takes_15 : decode cX8_takes 15 = .ok (.getfield 89, 3) := tb_d tk_X8_takes_1 9 (15, .getfield 89, 3) rfl
theorem dX8_takes_18 : decode cX8_takes 18 = .ok (.putfield 101, 3) := tb_d tk_X8_takes_1 10 (18, .putfield 101, 3) rfl
theorem dX8_takes_21 : decode cX8_takes 21 = .ok (.aload_n 0, 1) := tb_d tk_X8_takes_1 11 (21, .aload_n 0, 1) rfl
theorem dX8_takes_22 : decode cX8_takes 22 = .ok (.iload_n 2, 1) := tb_d tk_X8_takes_1 12 (22, .iload_n 2, 1) rfl
theorem dX8_takes_23 : decode cX8_takes 23 = .ok (.putfield 108, 3) := tb_d tk_X8_takes_1 13 (23, .putfield 108, 3) rfl
theorem dX8_takes_26 : decode cX8_takes 26 = .ok (.iconst 0, 1) := tb_d tk_X8_takes_1 14 (26, .iconst 0, 1) rfl
theorem dX8_takes_27 : decode cX8_takes 27 = .ok (.ireturn, 1) := tb_d tk_X8_takes_1 15 (27, .ireturn, 1) rfl
theorem dX8_takes_28 : decode cX8_takes 28 = .ok (.aload_n 0, 1) := tb_d tk_X8_takes_1 16 (28, .aload_n 0, 1) rfl
theorem dX8_takes_29 : decode cX8_takes 29 = .ok (.getfield 95, 3) := tb_d tk_X8_takes_1 17 (29, .getfield 95, 3) rfl
theorem dX8_takes_32 : decode cX8_takes 32 = .ok (.istore_n 3, 1) := tb_d tk_X8_takes_1 18 (32, .istore_n 3, 1) rfl
theorem dX8_takes_33 : decode cX8_takes 33 = .ok (.aload_n 0, 1) := tb_d tk_X8_takes_1 19 (33, .aload_n 0, 1) rfl
theorem dX8_takes_34 : decode cX8_takes 34 = .ok (.invokevirtual 111, 3) := tb_d tk_X8_takes_1 20 (34, .invokevirtual 111, 3) rfl
theorem dX8_takes_37 : decode cX8_takes 37 = .ok (.iload_n 3, 1) := tb_d tk_X8_takes_1 21 (37, .iload_n 3, 1) rfl
theorem dX8_takes_38 : decode cX8_takes 38 = .ok (.ireturn, 1) := tb_d tk_X8_takes_1 22 (38, .ireturn, 1) rfl
theorem ggX8_figure_X8_isWell : GoodIn wsX8_figure wsX8_isWell := fun w h => ⟨List.mem_cons_of_mem _ (List.mem_append_right _ (List.mem_append_right _ (List.mem_append_right _ (List.mem_append_right _ (List.mem_append_right _ (List.mem_append_left _ h)))))), good_of_word (gdX8_isWell w h)⟩
set_option maxRecDepth 20000 in
theorem gX8_figure_X8_isWell : GoodIn wsX8_figure (wsV RX8 104 RX8 yX8_isWell wsX8_isWell) := goodIn_app (a := bkV RX8 104 RX8 yX8_isWell) (fun w h => ⟨List.mem_cons_of_mem _ (List.mem_append_right _ (List.mem_append_left _ h)), good_of_word (gd_bV _ _ _ _ w h)⟩) ggX8_figure_X8_isWell
theorem ggX8_figure_X8_takes : GoodIn wsX8_figure wsX8_takes := fun w h => ⟨List.mem_cons_of_mem _ (List.mem_append_right _ (List.mem_append_right _ (List.mem_append_right _ (List.mem_append_right _ (List.mem_append_right _ (List.mem_append_right _ (List.mem_append_left _ h))))))), good_of_word (gdX8_takes w h)⟩
set_option maxRecDepth 20000 in
theorem gX8_figure_X8_takes : GoodIn wsX8_figure (wsV RX8 114 RX8 yX8_takes wsX8_takes) := goodIn_app (a := bkV RX8 114 RX8 yX8_takes) (fun w h => ⟨List.mem_cons_of_mem _ (List.mem_append_right _ (List.mem_append_right _ (List.mem_append_left _ h))), good_of_word (gd_bV _ _ _ _ w h)⟩) ggX8_figure_X8_takes
theorem ggX8_figure_X8_in : GoodIn wsX8_figure wsX8_in := fun w h => ⟨List.mem_cons_of_mem _ (List.mem_append_right _ (List.mem_append_right _ (List.mem_append_right _ (List.mem_append_right _ (List.mem_append_right _ (List.mem_append_right _ (List.mem_append_right _ (List.mem_append_left _ h)))))))), good_of_word (gdX8_in w h)⟩
set_option maxRecDepth 20000 in
theorem gX8_figure_X8_in : GoodIn wsX8_figure (va_wsS RX8 56 yX8_in wsX8_in) := goodIn_app (a := bkS RX8 56 yX8_in) (fun w h => ⟨List.mem_cons_of_mem _ (List.mem_append_right _ (List.mem_append_right _ (List.mem_append_right _ (List.mem_append_left _ h)))), good_of_word (gd_bS _ _ _ w h)⟩) ggX8_figure_X8_in
def tb_X8_figure_1 : List (Nat × Instr × Nat) := [(0, .aload_n 0, 1), (1, .invokevirtual 104, 3), (4, .ifCond .eq 18, 3), (7, .aload_n 0, 1), (8, .getfield 98, 3), (11, .iconst 2, 1), (12, .if_icmp .eq 10, 3), (15, .aload_n 0, 1), (16, .iconst 0, 1), (17, .iconst 1, 1), (18, .invokevirtual 114, 3), (21, .ireturn, 1), (22, .aload_n 0, 1), (23, .aload_n 0, 1), (24, .getfield 95, 3), (27, .iload_n 1, 1), (28, .iload_n 2, 1), (29, .invokestatic 56, 3), (32, .iconst 2, 1), (33, .invokevirtual 114, 3), (36, .ireturn, 1)]
set_option maxRecDepth 100000 in
theorem tk_X8_figure_1 : (tb_X8_figure_1.all fun q => decide (decode cX8_figure q.1 = .ok q.2)) = true := by decide +kernel
theorem dX8_figure_0 : decode cX8_figure 0 = .ok (.aload_n 0, 1) := tb_d tk_X8_figure_1 0 (0, .aload_n 0, 1) rfl
theorem dX8_figure_1 : decode cX8_figure 1 = .ok (.invokevirtual 104, 3) := tb_d tk_X8_figure_1 1 (1, .invokevirtual 104, 3) rfl
theorem dX8_figure_4 : decode cX8_figure 4 = .ok (.ifCond .eq 18, 3) := tb_d tk_X8_figure_1 2 (4, .ifCond .eq 18, 3) rfl
theorem dX8_figure_7 : decode cX8_figure 7 = .ok (.aload_n 0, 1) := tb_d tk_X8_figure_1 3 (7, .aload_n 0, 1) rfl
theorem dX8_figure_8 : decode cX8_figure 8 = .ok (.getfield 98, 3) := tb_d tk_X8_figure_1 4 (8, .getfield 98, 3) rfl
theorem dX8_figure_11 : decode cX8_figure 11 = .ok (.iconst 2, 1) := tb_d tk_X8_figure_1 5 (11, .iconst 2, 1) rfl
theorem dX8_figure_12 : decode cX8_figure 12 = .ok (.if_icmp .eq 10, 3) := tb_d tk_X8_figure_1 6 (12, .if_icmp .eq 10, 3) rfl
theorem dX8_figure_15 : decode cX8_figure 15 = .ok (.aload_n 0, 1) := tb_d tk_X8_figure_1 7 (15, .aload_n 0, 1) rfl
theorem dX8_figure_16 : decode cX8_figure 16 = .ok (.iconst 0, 1) := tb_d tk_X8_figure_1 8 (16, .iconst 0, 1) rfl
theorem dX8_figure_17 : decode cX8_figure 17 = .ok (.iconst 1, 1) := tb_d tk_X8_figure_1 9 (17, .iconst 1, 1) rfl
theorem dX8_figure_18 : decode cX8_figure 18 = .ok (.invokevirtual 114, 3) := tb_d tk_X8_figure_1 10 (18, .invokevirtual 114, 3) rfl
theorem dX8_figure_21 : decode cX8_figure 21 = .ok (.ireturn, 1) := tb_d tk_X8_figure_1 11 (21, .ireturn, 1) rfl
theorem dX8_figure_22 : decode cX8_figure 22 = .ok (.aload_n 0, 1) := tb_d tk_X8_figure_1 12 (22, .aload_n 0, 1) rfl
theorem dX8_figure_23 : decode cX8_figure 23 = .ok (.aload_n 0, 1) := tb_d tk_X8_figure_1 13 (23, .aload_n 0, 1) rfl
theorem dX8_figure_24 : decode cX8_figure 24 = .ok (.getfield 95, 3) := tb_d tk_X8_figure_1 14 (24, .getfield 95, 3) rfl
theorem dX8_figure_27 : decode cX8_figure 27 = .ok (.iload_n 1, 1) := tb_d tk_X8_figure_1 15 (27, .iload_n 1, 1) rfl
theorem dX8_figure_28 : decode cX8_figure 28 = .ok (.iload_n 2, 1) := tb_d tk_X8_figure_1 16 (28, .iload_n 2, 1) rfl
theorem dX8_figure_29 : decode cX8_figure 29 = .ok (.invokestatic 56, 3) := tb_d tk_X8_figure_1 17 (29, .invokestatic 56, 3) rfl
theorem dX8_figure_32 : decode cX8_figure 32 = .ok (.iconst 2, 1) := tb_d tk_X8_figure_1 18 (32, .iconst 2, 1) rfl
theorem dX8_figure_33 : decode cX8_figure 33 = .ok (.invokevirtual 114, 3) := tb_d tk_X8_figure_1 19 (33, .invokevirtual 114, 3) rfl
theorem dX8_figure_36 : decode cX8_figure 36 = .ok (.ireturn, 1) := tb_d tk_X8_figure_1 20 (36, .ireturn, 1) rfl
def tb_X8_kindOf_1 : List (Nat × Instr × Nat) := [(0, .iload_n 0, 1), (1, .bipush 107, 2), (3, .if_icmp .ne 7, 3), (6, .iconst 1, 1), (7, .goto 44, 3), (10, .iload_n 0, 1), (11, .bipush 115, 2), (13, .if_icmp .ne 7, 3), (16, .iconst 2, 1), (17, .goto 34, 3), (20, .iload_n 0, 1), (21, .bipush 101, 2), (23, .if_icmp .ne 7, 3), (26, .iconst 3, 1), (27, .goto 24, 3), (30, .iload_n 0, 1), (31, .bipush 100, 2), (33, .if_icmp .ne 7, 3), (36, .iconst 4, 1), (37, .goto 14, 3), (40, .iload_n 0, 1), (41, .bipush 103, 2), (43, .if_icmp .ne 7, 3), (46, .iconst 5, 1), (47, .goto 4, 3), (50, .iconst 0, 1), (51, .ireturn, 1)]
set_option maxRecDepth 100000 in
theorem tk_X8_kindOf_1 : (tb_X8_kindOf_1.all fun q => decide (decode cX8_kindOf q.1 = .ok q.2)) = true := by decide +kernel
theorem dX8_kindOf_0 : decode cX8_kindOf 0 = .ok (.iload_n 0, 1) := tb_d tk_X8_kindOf_1 0 (0, .iload_n 0, 1) rfl
theorem dX8_kindOf_1 : decode cX8_kindOf 1 = .ok (.bipush 107, 2) := tb_d tk_X8_kindOf_1 1 (1, .bipush 107, 2) rfl
theorem dX8_kindOf_3 : decode cX8_kindOf 3 = .ok (.if_icmp .ne 7, 3) := tb_d tk_X8_kindOf_1 2 (3, .if_icmp .ne 7, 3) rfl
theorem dX8_kindOf_6 : decode cX8_kindOf 6 = .ok (.iconst 1, 1) := tb_d tk_X8_kindOf_1 3 (6, .iconst 1, 1) rfl
theorem dX8_kindOf_7 : decode cX8_kindOf 7 = .ok (.goto 44, 3) := tb_d tk_X8_kindOf_1 4 (7, .goto 44, 3) rfl
theorem dX8_kindOf_10 : decode cX8_kindOf 10 = .ok (.iload_n 0, 1) := tb_d tk_X8_kindOf_1 5 (10, .iload_n 0, 1) rfl
theorem dX8_kindOf_11 : decode cX8_kindOf 11 = .ok (.bipush 115, 2) := tb_d tk_X8_kindOf_1 6 (11, .bipush 115, 2) rfl
theorem dX8_kindOf_13 : decode cX8_kindOf 13 = .ok (.if_icmp .ne 7, 3) := tb_d tk_X8_kindOf_1 7 (13, .if_icmp .ne 7, 3) rfl
theorem dX8_kindOf_16 : decode cX8_kindOf 16 = .ok (.iconst 2, 1) := tb_d tk_X8_kindOf_1 8 (16, .iconst 2, 1) rfl
theorem dX8_kindOf_17 : decode cX8_kindOf 17 = .ok (.goto 34, 3) := tb_d tk_X8_kindOf_1 9 (17, .goto 34, 3) rfl
theorem dX8_kindOf_20 : decode cX8_kindOf 20 = .ok (.iload_n 0, 1) := tb_d tk_X8_kindOf_1 10 (20, .iload_n 0, 1) rfl
theorem dX8_kindOf_21 : decode cX8_kindOf 21 = .ok (.bipush 101, 2) := tb_d tk_X8_kindOf_1 11 (21, .bipush 101, 2) rfl
theorem dX8_kindOf_23 : decode cX8_kindOf 23 = .ok (.if_icmp .ne 7, 3) := tb_d tk_X8_kindOf_1 12 (23, .if_icmp .ne 7, 3) rfl
theorem dX8_kindOf_26 : decode cX8_kindOf 26 = .ok (.iconst 3, 1) := tb_d tk_X8_kindOf_1 13 (26, .iconst 3, 1) rfl
theorem dX8_kindOf_27 : decode cX8_kindOf 27 = .ok (.goto 24, 3) := tb_d tk_X8_kindOf_1 14 (27, .goto 24, 3) rfl
theorem dX8_kindOf_30 : decode cX8_kindOf 30 = .ok (.iload_n 0, 1) := tb_d tk_X8_kindOf_1 15 (30, .iload_n 0, 1) rfl
theorem dX8_kindOf_31 : decode cX8_kindOf 31 = .ok (.bipush 100, 2) := tb_d tk_X8_kindOf_1 16 (31, .bipush 100, 2) rfl
theorem dX8_kindOf_33 : decode cX8_kindOf 33 = .ok (.if_icmp .ne 7, 3) := tb_d tk_X8_kindOf_1 17 (33, .if_icmp .ne 7, 3) rfl
theorem dX8_kindOf_36 : decode cX8_kindOf 36 = .ok (.iconst 4, 1) := tb_d tk_X8_kindOf_1 18 (36, .iconst 4, 1) rfl
theorem dX8_kindOf_37 : decode cX8_kindOf 37 = .ok (.goto 14, 3) := tb_d tk_X8_kindOf_1 19 (37, .goto 14, 3) rfl
theorem dX8_kindOf_40 : decode cX8_kindOf 40 = .ok (.iload_n 0, 1) := tb_d tk_X8_kindOf_1 20 (40, .iload_n 0, 1) rfl
theorem dX8_kindOf_41 : decode cX8_kindOf 41 = .ok (.bipush 103, 2) := tb_d tk_X8_kindOf_1 21 (41, .bipush 103, 2) rfl
theorem dX8_kindOf_43 : decode cX8_kindOf 43 = .ok (.if_icmp .ne 7, 3) := tb_d tk_X8_kindOf_1 22 (43, .if_icmp .ne 7, 3) rfl
theorem dX8_kindOf_46 : decode cX8_kindOf 46 = .ok (.iconst 5, 1) := tb_d tk_X8_kindOf_1 23 (46, .iconst 5, 1) rfl
theorem dX8_kindOf_47 : decode cX8_kindOf 47 = .ok (.goto 4, 3) := tb_d tk_X8_kindOf_1 24 (47, .goto 4, 3) rfl
theorem dX8_kindOf_50 : decode cX8_kindOf 50 = .ok (.iconst 0, 1) := tb_d tk_X8_kindOf_1 25 (50, .iconst 0, 1) rfl
theorem dX8_kindOf_51 : decode cX8_kindOf 51 = .ok (.ireturn, 1) := tb_d tk_X8_kindOf_1 26 (51, .ireturn, 1) rfl
theorem ggX8_follows_X8_takes : GoodIn wsX8_follows wsX8_takes := fun w h => ⟨List.mem_cons_of_mem _ (List.mem_append_right _ (List.mem_append_right _ (List.mem_append_right _ (List.mem_append_right _ (List.mem_append_left _ h))))), good_of_word (gdX8_takes w h)⟩
set_option maxRecDepth 20000 in
theorem gX8_follows_X8_takes : GoodIn wsX8_follows (wsV RX8 114 RX8 yX8_takes wsX8_takes) := goodIn_app (a := bkV RX8 114 RX8 yX8_takes) (fun w h => ⟨List.mem_cons_of_mem _ (List.mem_append_right _ (List.mem_append_left _ h)), good_of_word (gd_bV _ _ _ _ w h)⟩) ggX8_follows_X8_takes
theorem ggX8_follows_X8_figure : GoodIn wsX8_follows wsX8_figure := fun w h => ⟨List.mem_cons_of_mem _ (List.mem_append_right _ (List.mem_append_right _ (List.mem_append_right _ (List.mem_append_right _ (List.mem_append_right _ (List.mem_append_left _ h)))))), good_of_word (gdX8_figure w h)⟩
set_option maxRecDepth 20000 in
theorem gX8_follows_X8_figure : GoodIn wsX8_follows (wsV RX8 118 RX8 yX8_figure wsX8_figure) := goodIn_app (a := bkV RX8 118 RX8 yX8_figure) (fun w h => ⟨List.mem_cons_of_mem _ (List.mem_append_right _ (List.mem_append_right _ (List.mem_append_left _ h))), good_of_word (gd_bV _ _ _ _ w h)⟩) ggX8_follows_X8_figure
def tb_X8_follows_1 : List (Nat × Instr × Nat) := [(0, .aload_n 0, 1), (1, .aload_n 0, 1), (2, .getfield 98, 3), (5, .iconst 3, 1), (6, .if_icmp .ne 7, 3), (9, .iconst 1, 1), (10, .goto 4, 3), (13, .iconst 0, 1), (14, .iconst 1, 1), (15, .invokevirtual 114, 3), (18, .pop, 1), (19, .aload_n 0, 1), (20, .iload_n 1, 1), (21, .iload_n 2, 1), (22, .invokevirtual 118, 3), (25, .ireturn, 1)]
set_option maxRecDepth 100000 in
theorem tk_X8_follows_1 : (tb_X8_follows_1.all fun q => decide (decode cX8_follows q.1 = .ok q.2)) = true := by decide +kernel
theorem dX8_follows_0 : decode cX8_follows 0 = .ok (.aload_n 0, 1) := tb_d tk_X8_follows_1 0 (0, .aload_n 0, 1) rfl
theorem dX8_follows_1 : decode cX8_follows 1 = .ok (.aload_n 0, 1) := tb_d tk_X8_follows_1 1 (1, .aload_n 0, 1) rfl
theorem dX8_follows_2 : decode cX8_follows 2 = .ok (.getfield 98, 3) := tb_d tk_X8_follows_1 2 (2, .getfield 98, 3) rfl
theorem dX8_follows_5 : decode cX8_follows 5 = .ok (.iconst 3, 1) := tb_d tk_X8_follows_1 3 (5, .iconst 3, 1) rfl
theorem dX8_follows_6 : decode cX8_follows 6 = .ok (.if_icmp .ne 7, 3) := tb_d tk_X8_follows_1 4 (6, .if_icmp .ne 7, 3) rfl
theorem dX8_follows_9 : decode cX8_follows 9 = .ok (.iconst 1, 1) := tb_d tk_X8_follows_1 5 (9, .iconst 1, 1) rfl
theorem dX8_follows_10 : decode cX8_follows 10 = .ok (.goto 4, 3) := tb_d tk_X8_follows_1 6 (10, .goto 4, 3) rfl
theorem dX8_follows_13 : decode cX8_follows 13 = .ok (.iconst 0, 1) := tb_d tk_X8_follows_1 7 (13, .iconst 0, 1) rfl
theorem dX8_follows_14 : decode cX8_follows 14 = .ok (.iconst 1, 1) := tb_d tk_X8_follows_1 8 (14, .iconst 1, 1) rfl
theorem dX8_follows_15 : decode cX8_follows 15 = .ok (.invokevirtual 114, 3) := tb_d tk_X8_follows_1 9 (15, .invokevirtual 114, 3) rfl
theorem dX8_follows_18 : decode cX8_follows 18 = .ok (.pop, 1) := tb_d tk_X8_follows_1 10 (18, .pop, 1) rfl
theorem dX8_follows_19 : decode cX8_follows 19 = .ok (.aload_n 0, 1) := tb_d tk_X8_follows_1 11 (19, .aload_n 0, 1) rfl
theorem dX8_follows_20 : decode cX8_follows 20 = .ok (.iload_n 1, 1) := tb_d tk_X8_follows_1 12 (20, .iload_n 1, 1) rfl
theorem dX8_follows_21 : decode cX8_follows 21 = .ok (.iload_n 2, 1) := tb_d tk_X8_follows_1 13 (21, .iload_n 2, 1) rfl
theorem dX8_follows_22 : decode cX8_follows 22 = .ok (.invokevirtual 118, 3) := tb_d tk_X8_follows_1 14 (22, .invokevirtual 118, 3) rfl
theorem dX8_follows_25 : decode cX8_follows 25 = .ok (.ireturn, 1) := tb_d tk_X8_follows_1 15 (25, .ireturn, 1) rfl
def tb_X8_isTold_1 : List (Nat × Instr × Nat) := [(0, .iconst 0, 1), (1, .istore 4, 2), (3, .iconst 0, 1), (4, .istore 5, 2), (6, .iload 5, 2), (8, .aload_n 0, 1), (9, .getfield 28, 3), (12, .iconst 3, 1), (13, .iaload, 1), (14, .if_icmp .ge 67, 3), (17, .bipush 8, 2), (19, .iconst 3, 1), (20, .iload 5, 2), (22, .imul, 1), (23, .iadd, 1), (24, .istore 6, 2), (26, .iload 4, 2), (28, .ifCond .ne 40, 3), (31, .aload_n 0, 1), (32, .getfield 28, 3), (35, .iload 6, 2), (37, .iaload, 1), (38, .iload_n 1, 1), (39, .if_icmp .ne 33, 3), (42, .aload_n 0, 1), (43, .getfield 28, 3), (46, .iload 6, 2), (48, .iconst 1, 1), (49, .iadd, 1), (50, .iaload, 1), (51, .iload_n 2, 1), (52, .if_icmp .ne 20, 3), (55, .aload_n 0, 1), (56, .getfield 28, 3), (59, .iload 6, 2), (61, .iconst 2, 1), (62, .iadd, 1), (63, .iaload, 1), (64, .iload_n 3, 1), (65, .if_icmp .ne 7, 3)]
set_option maxRecDepth 100000 in
theorem tk_X8_isTold_1 : (tb_X8_isTold_1.all fun q => decide (decode cX8_isTold q.1 = .ok q.2)) = true := by decide +kernel
theorem dX8_isTold_0 : decode cX8_isTold 0 = .ok (.iconst 0, 1) := tb_d tk_X8_isTold_1 0 (0, .iconst 0, 1) rfl
theorem dX8_isTold_1 : decode cX8_isTold 1 = .ok (.istore 4, 2) := tb_d tk_X8_isTold_1 1 (1, .istore 4, 2) rfl
theorem dX8_isTold_3 : decode cX8_isTold 3 = .ok (.iconst 0, 1) := tb_d tk_X8_isTold_1 2 (3, .iconst 0, 1) rfl
theorem dX8_isTold_4 : decode cX8_isTold 4 = .ok (.istore 5, 2) := tb_d tk_X8_isTold_1 3 (4, .istore 5, 2) rfl
theorem dX8_isTold_6 : decode cX8_isTold 6 = .ok (.iload 5, 2) := tb_d tk_X8_isTold_1 4 (6, .iload 5, 2) rfl
theorem dX8_isTold_8 : decode cX8_isTold 8 = .ok (.aload_n 0, 1) := tb_d tk_X8_isTold_1 5 (8, .aload_n 0, 1) rfl
theorem dX8_isTold_9 : decode cX8_isTold 9 = .ok (.getfield 28, 3) := tb_d tk_X8_isTold_1 6 (9, .getfield 28, 3) rfl
theorem dX8_isTold_12 : decode cX8_isTold 12 = .ok (.iconst 3, 1) := tb_d tk_X8_isTold_1 7 (12, .iconst 3, 1) rfl
theorem dX8_isTold_13 : decode cX8_isTold 13 = .ok (.iaload, 1) := tb_d tk_X8_isTold_1 8 (13, .iaload, 1) rfl
theorem dX8_isTold_14 : decode cX8_isTold 14 = .ok (.if_icmp .ge 67, 3) := tb_d tk_X8_isTold_1 9 (14, .if_icmp .ge 67, 3) rfl
theorem dX8_isTold_17 : decode cX8_isTold 17 = .ok (.bipush 8, 2) := tb_d tk_X8_isTold_1 10 (17, .bipush 8, 2) rfl
theorem dX8_isTold_19 : decode cX8_isTold 19 = .ok (.iconst 3, 1) := tb_d tk_X8_isTold_1 11 (19, .iconst 3, 1) rfl
theorem dX8_isTold_20 : decode cX8_isTold 20 = .ok (.iload 5, 2) := tb_d tk_X8_isTold_1 12 (20, .iload 5, 2) rfl
theorem dX8_isTold_22 : decode cX8_isTold 22 = .ok (.imul, 1) := tb_d tk_X8_isTold_1 13 (22, .imul, 1) rfl
theorem dX8_isTold_23 : decode cX8_isTold 23 = .ok (.iadd, 1) := tb_d tk_X8_isTold_1 14 (23, .iadd, 1) rfl
theorem dX8_isTold_24 : decode cX8_isTold 24 = .ok (.istore 6, 2) := tb_d tk_X8_isTold_1 15 (24, .istore 6, 2) rfl
theorem dX8_isTold_26 : decode cX8_isTold 26 = .ok (.iload 4, 2) := tb_d tk_X8_isTold_1 16 (26, .iload 4, 2) rfl
theorem dX8_isTold_28 : decode cX8_isTold 28 = .ok (.ifCond .ne 40, 3) := tb_d tk_X8_isTold_1 17 (28, .ifCond .ne 40, 3) rfl
theorem dX8_isTold_31 : decode cX8_isTold 31 = .ok (.aload_n 0, 1) := tb_d tk_X8_isTold_1 18 (31, .aload_n 0, 1) rfl
theorem dX8_isTold_32 : decode cX8_isTold 32 = .ok (.getfield 28, 3) := tb_d tk_X8_isTold_1 19 (32, .getfield 28, 3) rfl
theorem dX8_isTold_35 : decode cX8_isTold 35 = .ok (.iload 6, 2) := tb_d tk_X8_isTold_1 20 (35, .iload 6, 2) rfl
theorem dX8_isTold_37 : decode cX8_isTold 37 = .ok (.iaload, 1) := tb_d tk_X8_isTold_1 21 (37, .iaload, 1) rfl
theorem dX8_isTold_38 : decode cX8_isTold 38 = .ok (.iload_n 1, 1) := tb_d tk_X8_isTold_1 22 (38, .iload_n 1, 1) rfl
theorem dX8_isTold_39 : decode cX8_isTold 39 = .ok (.if_icmp .ne 33, 3) := tb_d tk_X8_isTold_1 23 (39, .if_icmp .ne 33, 3) rfl
theorem dX8_isTold_42 : decode cX8_isTold 42 = .ok (.aload_n 0, 1) := tb_d tk_X8_isTold_1 24 (42, .aload_n 0, 1) rfl
theorem dX8_isTold_43 : decode cX8_isTold 43 = .ok (.getfield 28, 3) := tb_d tk_X8_isTold_1 25 (43, .getfield 28, 3) rfl
theorem dX8_isTold_46 : decode cX8_isTold 46 = .ok (.iload 6, 2) := tb_d tk_X8_isTold_1 26 (46, .iload 6, 2) rfl
theorem dX8_isTold_48 : decode cX8_isTold 48 = .ok (.iconst 1, 1) := tb_d tk_X8_isTold_1 27 (48, .iconst 1, 1) rfl
theorem dX8_isTold_49 : decode cX8_isTold 49 = .ok (.iadd, 1) := tb_d tk_X8_isTold_1 28 (49, .iadd, 1) rfl
theorem dX8_isTold_50 : decode cX8_isTold 50 = .ok (.iaload, 1) := tb_d tk_X8_isTold_1 29 (50, .iaload, 1) rfl
theorem dX8_isTold_51 : decode cX8_isTold 51 = .ok (.iload_n 2, 1) := tb_d tk_X8_isTold_1 30 (51, .iload_n 2, 1) rfl
theorem dX8_isTold_52 : decode cX8_isTold 52 = .ok (.if_icmp .ne 20, 3) := tb_d tk_X8_isTold_1 31 (52, .if_icmp .ne 20, 3) rfl
theorem dX8_isTold_55 : decode cX8_isTold 55 = .ok (.aload_n 0, 1) := tb_d tk_X8_isTold_1 32 (55, .aload_n 0, 1) rfl
theorem dX8_isTold_56 : decode cX8_isTold 56 = .ok (.getfield 28, 3) := tb_d tk_X8_isTold_1 33 (56, .getfield 28, 3) rfl
theorem dX8_isTold_59 : decode cX8_isTold 59 = .ok (.iload 6, 2) := tb_d tk_X8_isTold_1 34 (59, .iload 6, 2) rfl
theorem dX8_isTold_61 : decode cX8_isTold 61 = .ok (.iconst 2, 1) := tb_d tk_X8_isTold_1 35 (61, .iconst 2, 1) rfl
theorem dX8_isTold_62 : decode cX8_isTold 62 = .ok (.iadd, 1) := tb_d tk_X8_isTold_1 36 (62, .iadd, 1) rfl
theorem dX8_isTold_63 : decode cX8_isTold 63 = .ok (.iaload, 1) := tb_d tk_X8_isTold_1 37 (63, .iaload, 1) rfl
theorem dX8_isTold_64 : decode cX8_isTold 64 = .ok (.iload_n 3, 1) := tb_d tk_X8_isTold_1 38 (64, .iload_n 3, 1) rfl
theorem dX8_isTold_65 : decode cX8_isTold 65 = .ok (.if_icmp .ne 7, 3) := tb_d tk_X8_isTold_1 39 (65, .if_icmp .ne 7, 3) rfl
def tb_X8_isTold_2 : List (Nat × Instr × Nat) := [(68, .iconst 1, 1), (69, .goto 4, 3), (72, .iconst 0, 1), (73, .istore 4, 2), (75, .iinc 5 1, 3), (78, .goto (-72), 3), (81, .iload 4, 2), (83, .ireturn, 1)]
set_option maxRecDepth 100000 in
theorem tk_X8_isTold_2 : (tb_X8_isTold_2.all fun q => decide (decode cX8_isTold q.1 = .ok q.2)) = true := by decide +kernel
theorem dX8_isTold_68 : decode cX8_isTold 68 = .ok (.iconst 1, 1) := tb_d tk_X8_isTold_2 0 (68, .iconst 1, 1) rfl
theorem dX8_isTold_69 : decode cX8_isTold 69 = .ok (.goto 4, 3) := tb_d tk_X8_isTold_2 1 (69, .goto 4, 3) rfl
theorem dX8_isTold_72 : decode cX8_isTold 72 = .ok (.iconst 0, 1) := tb_d tk_X8_isTold_2 2 (72, .iconst 0, 1) rfl
theorem dX8_isTold_73 : decode cX8_isTold 73 = .ok (.istore 4, 2) := tb_d tk_X8_isTold_2 3 (73, .istore 4, 2) rfl
theorem dX8_isTold_75 : decode cX8_isTold 75 = .ok (.iinc 5 1, 3) := tb_d tk_X8_isTold_2 4 (75, .iinc 5 1, 3) rfl
theorem dX8_isTold_78 : decode cX8_isTold 78 = .ok (.goto (-72), 3) := tb_d tk_X8_isTold_2 5 (78, .goto (-72), 3) rfl
theorem dX8_isTold_81 : decode cX8_isTold 81 = .ok (.iload 4, 2) := tb_d tk_X8_isTold_2 6 (81, .iload 4, 2) rfl
theorem dX8_isTold_83 : decode cX8_isTold 83 = .ok (.ireturn, 1) := tb_d tk_X8_isTold_2 7 (83, .ireturn, 1) rfl
theorem ggX8_letterOf_X8_takes : GoodIn wsX8_letterOf wsX8_takes := fun w h => ⟨List.mem_cons_of_mem _ (List.mem_append_right _ (List.mem_append_right _ (List.mem_append_right _ (List.mem_append_left _ h)))), good_of_word (gdX8_takes w h)⟩
set_option maxRecDepth 20000 in
theorem gX8_letterOf_X8_takes : GoodIn wsX8_letterOf (wsV RX8 114 RX8 yX8_takes wsX8_takes) := goodIn_app (a := bkV RX8 114 RX8 yX8_takes) (fun w h => ⟨List.mem_cons_of_mem _ (List.mem_append_right _ (List.mem_append_left _ h)), good_of_word (gd_bV _ _ _ _ w h)⟩) ggX8_letterOf_X8_takes
def tb_X8_letterOf_1 : List (Nat × Instr × Nat) := [(0, .aload_n 0, 1), (1, .aload_n 0, 1), (2, .getfield 98, 3), (5, .iconst 1, 1), (6, .if_icmp .ne 7, 3), (9, .iconst 1, 1), (10, .goto 4, 3), (13, .iconst 0, 1), (14, .iconst 1, 1), (15, .invokevirtual 114, 3), (18, .bipush 97, 2), (20, .isub, 1), (21, .ireturn, 1)]
set_option maxRecDepth 100000 in
theorem tk_X8_letterOf_1 : (tb_X8_letterOf_1.all fun q => decide (decode cX8_letterOf q.1 = .ok q.2)) = true := by decide +kernel
theorem dX8_letterOf_0 : decode cX8_letterOf 0 = .ok (.aload_n 0, 1) := tb_d tk_X8_letterOf_1 0 (0, .aload_n 0, 1) rfl
theorem dX8_letterOf_1 : decode cX8_letterOf 1 = .ok (.aload_n 0, 1) := tb_d tk_X8_letterOf_1 1 (1, .aload_n 0, 1) rfl
theorem dX8_letterOf_2 : decode cX8_letterOf 2 = .ok (.getfield 98, 3) := tb_d tk_X8_letterOf_1 2 (2, .getfield 98, 3) rfl
theorem dX8_letterOf_5 : decode cX8_letterOf 5 = .ok (.iconst 1, 1) := tb_d tk_X8_letterOf_1 3 (5, .iconst 1, 1) rfl
theorem dX8_letterOf_6 : decode cX8_letterOf 6 = .ok (.if_icmp .ne 7, 3) := tb_d tk_X8_letterOf_1 4 (6, .if_icmp .ne 7, 3) rfl
theorem dX8_letterOf_9 : decode cX8_letterOf 9 = .ok (.iconst 1, 1) := tb_d tk_X8_letterOf_1 5 (9, .iconst 1, 1) rfl
theorem dX8_letterOf_10 : decode cX8_letterOf 10 = .ok (.goto 4, 3) := tb_d tk_X8_letterOf_1 6 (10, .goto 4, 3) rfl
theorem dX8_letterOf_13 : decode cX8_letterOf 13 = .ok (.iconst 0, 1) := tb_d tk_X8_letterOf_1 7 (13, .iconst 0, 1) rfl
theorem dX8_letterOf_14 : decode cX8_letterOf 14 = .ok (.iconst 1, 1) := tb_d tk_X8_letterOf_1 8 (14, .iconst 1, 1) rfl
theorem dX8_letterOf_15 : decode cX8_letterOf 15 = .ok (.invokevirtual 114, 3) := tb_d tk_X8_letterOf_1 9 (15, .invokevirtual 114, 3) rfl
theorem dX8_letterOf_18 : decode cX8_letterOf 18 = .ok (.bipush 97, 2) := tb_d tk_X8_letterOf_1 10 (18, .bipush 97, 2) rfl
theorem dX8_letterOf_20 : decode cX8_letterOf 20 = .ok (.isub, 1) := tb_d tk_X8_letterOf_1 11 (20, .isub, 1) rfl
theorem dX8_letterOf_21 : decode cX8_letterOf 21 = .ok (.ireturn, 1) := tb_d tk_X8_letterOf_1 12 (21, .ireturn, 1) rfl
theorem ggX8_readsWord_X8_takes : GoodIn wsX8_readsWord wsX8_takes := fun w h => ⟨List.mem_cons_of_mem _ (List.mem_append_right _ (List.mem_append_right _ (List.mem_append_right _ (List.mem_append_right _ (List.mem_append_right _ (List.mem_append_right _ (List.mem_append_left _ h))))))), good_of_word (gdX8_takes w h)⟩
set_option maxRecDepth 20000 in
theorem gX8_readsWord_X8_takes : GoodIn wsX8_readsWord (wsV RX8 114 RX8 yX8_takes wsX8_takes) := goodIn_app (a := bkV RX8 114 RX8 yX8_takes) (fun w h => ⟨List.mem_cons_of_mem _ (List.mem_append_right _ (List.mem_append_left _ h)), good_of_word (gd_bV _ _ _ _ w h)⟩) ggX8_readsWord_X8_takes
theorem ggX8_readsWord_X8_letterOf : GoodIn wsX8_readsWord wsX8_letterOf := fun w h => ⟨List.mem_cons_of_mem _ (List.mem_append_right _ (List.mem_append_right _ (List.mem_append_right _ (List.mem_append_right _ (List.mem_append_right _ (List.mem_append_right _ (List.mem_append_right _ (List.mem_append_left _ h)))))))), good_of_word (gdX8_letterOf w h)⟩
set_option maxRecDepth 20000 in
theorem gX8_readsWord_X8_letterOf : GoodIn wsX8_readsWord (wsV RX8 121 RX8 yX8_letterOf wsX8_letterOf) := goodIn_app (a := bkV RX8 121 RX8 yX8_letterOf) (fun w h => ⟨List.mem_cons_of_mem _ (List.mem_append_right _ (List.mem_append_right _ (List.mem_append_left _ h))), good_of_word (gd_bV _ _ _ _ w h)⟩) ggX8_readsWord_X8_letterOf
theorem ggX8_readsWord_X8_isWell : GoodIn wsX8_readsWord wsX8_isWell := fun w h => ⟨List.mem_cons_of_mem _ (List.mem_append_right _ (List.mem_append_right _ (List.mem_append_right _ (List.mem_append_right _ (List.mem_append_right _ (List.mem_append_right _ (List.mem_append_right _ (List.mem_append_right _ (List.mem_append_left _ h))))))))), good_of_word (gdX8_isWell w h)⟩
set_option maxRecDepth 20000 in
theorem gX8_readsWord_X8_isWell : GoodIn wsX8_readsWord (wsV RX8 104 RX8 yX8_isWell wsX8_isWell) := goodIn_app (a := bkV RX8 104 RX8 yX8_isWell) (fun w h => ⟨List.mem_cons_of_mem _ (List.mem_append_right _ (List.mem_append_right _ (List.mem_append_right _ (List.mem_append_left _ h)))), good_of_word (gd_bV _ _ _ _ w h)⟩) ggX8_readsWord_X8_isWell
theorem ggX8_readsWord_X8_isTold : GoodIn wsX8_readsWord wsX8_isTold := fun w h => ⟨List.mem_cons_of_mem _ (List.mem_append_right _ (List.mem_append_right _ (List.mem_append_right _ (List.mem_append_right _ (List.mem_append_right _ (List.mem_append_right _ (List.mem_append_right _ (List.mem_append_right _ (List.mem_append_right _ (List.mem_append_left _ h)))))))))), good_of_word (gdX8_isTold w h)⟩
set_option maxRecDepth 20000 in
theorem gX8_readsWord_X8_isTold : GoodIn wsX8_readsWord (wsV RX8 125 RX8 yX8_isTold wsX8_isTold) := goodIn_app (a := bkV RX8 125 RX8 yX8_isTold) (fun w h => ⟨List.mem_cons_of_mem _ (List.mem_append_right _ (List.mem_append_right _ (List.mem_append_right _ (List.mem_append_right _ (List.mem_append_left _ h))))), good_of_word (gd_bV _ _ _ _ w h)⟩) ggX8_readsWord_X8_isTold
def tb_X8_readsWord_1 : List (Nat × Instr × Nat) := [(0, .aload_n 0, 1), (1, .aload_n 0, 1), (2, .getfield 28, 3), (5, .iconst 3, 1), (6, .iaload, 1), (7, .bipush 6, 2), (9, .if_icmp .ge 7, 3), (12, .iconst 1, 1), (13, .goto 4, 3), (16, .iconst 0, 1), (17, .iconst 3, 1), (18, .invokevirtual 114, 3), (21, .pop, 1), (22, .bipush 8, 2), (24, .iconst 3, 1), (25, .aload_n 0, 1), (26, .getfield 28, 3), (29, .iconst 3, 1), (30, .iaload, 1), (31, .bipush 6, 2), (33, .if_icmp .ge 12, 3), (36, .aload_n 0, 1), (37, .getfield 28, 3), (40, .iconst 3, 1), (41, .iaload, 1), (42, .goto 4, 3), (45, .iconst 0, 1), (46, .imul, 1), (47, .iadd, 1), (48, .istore_n 1, 1), (49, .aload_n 0, 1), (50, .invokevirtual 121, 3), (53, .istore_n 2, 1), (54, .aload_n 0, 1), (55, .invokevirtual 121, 3), (58, .istore_n 3, 1), (59, .aload_n 0, 1), (60, .invokevirtual 104, 3), (63, .ifCond .eq 18, 3), (66, .aload_n 0, 1)]
set_option maxRecDepth 100000 in
theorem tk_X8_readsWord_1 : (tb_X8_readsWord_1.all fun q => decide (decode cX8_readsWord q.1 = .ok q.2)) = true := by decide +kernel
theorem dX8_readsWord_0 : decode cX8_readsWord 0 = .ok (.aload_n 0, 1) := tb_d tk_X8_readsWord_1 0 (0, .aload_n 0, 1) rfl
theorem dX8_readsWord_1 : decode cX8_readsWord 1 = .ok (.aload_n 0, 1) := tb_d tk_X8_readsWord_1 1 (1, .aload_n 0, 1) rfl
theorem dX8_readsWord_2 : decode cX8_readsWord 2 = .ok (.getfield 28, 3) := tb_d tk_X8_readsWord_1 2 (2, .getfield 28, 3) rfl
theorem dX8_readsWord_5 : decode cX8_readsWord 5 = .ok (.iconst 3, 1) := tb_d tk_X8_readsWord_1 3 (5, .iconst 3, 1) rfl
theorem dX8_readsWord_6 : decode cX8_readsWord 6 = .ok (.iaload, 1) := tb_d tk_X8_readsWord_1 4 (6, .iaload, 1) rfl
theorem dX8_readsWord_7 : decode cX8_readsWord 7 = .ok (.bipush 6, 2) := tb_d tk_X8_readsWord_1 5 (7, .bipush 6, 2) rfl
theorem dX8_readsWord_9 : decode cX8_readsWord 9 = .ok (.if_icmp .ge 7, 3) := tb_d tk_X8_readsWord_1 6 (9, .if_icmp .ge 7, 3) rfl
theorem dX8_readsWord_12 : decode cX8_readsWord 12 = .ok (.iconst 1, 1) := tb_d tk_X8_readsWord_1 7 (12, .iconst 1, 1) rfl
theorem dX8_readsWord_13 : decode cX8_readsWord 13 = .ok (.goto 4, 3) := tb_d tk_X8_readsWord_1 8 (13, .goto 4, 3) rfl
theorem dX8_readsWord_16 : decode cX8_readsWord 16 = .ok (.iconst 0, 1) := tb_d tk_X8_readsWord_1 9 (16, .iconst 0, 1) rfl
theorem dX8_readsWord_17 : decode cX8_readsWord 17 = .ok (.iconst 3, 1) := tb_d tk_X8_readsWord_1 10 (17, .iconst 3, 1) rfl
theorem dX8_readsWord_18 : decode cX8_readsWord 18 = .ok (.invokevirtual 114, 3) := tb_d tk_X8_readsWord_1 11 (18, .invokevirtual 114, 3) rfl
theorem dX8_readsWord_21 : decode cX8_readsWord 21 = .ok (.pop, 1) := tb_d tk_X8_readsWord_1 12 (21, .pop, 1) rfl
theorem dX8_readsWord_22 : decode cX8_readsWord 22 = .ok (.bipush 8, 2) := tb_d tk_X8_readsWord_1 13 (22, .bipush 8, 2) rfl
theorem dX8_readsWord_24 : decode cX8_readsWord 24 = .ok (.iconst 3, 1) := tb_d tk_X8_readsWord_1 14 (24, .iconst 3, 1) rfl
theorem dX8_readsWord_25 : decode cX8_readsWord 25 = .ok (.aload_n 0, 1) := tb_d tk_X8_readsWord_1 15 (25, .aload_n 0, 1) rfl
theorem dX8_readsWord_26 : decode cX8_readsWord 26 = .ok (.getfield 28, 3) := tb_d tk_X8_readsWord_1 16 (26, .getfield 28, 3) rfl
theorem dX8_readsWord_29 : decode cX8_readsWord 29 = .ok (.iconst 3, 1) := tb_d tk_X8_readsWord_1 17 (29, .iconst 3, 1) rfl
theorem dX8_readsWord_30 : decode cX8_readsWord 30 = .ok (.iaload, 1) := tb_d tk_X8_readsWord_1 18 (30, .iaload, 1) rfl
theorem dX8_readsWord_31 : decode cX8_readsWord 31 = .ok (.bipush 6, 2) := tb_d tk_X8_readsWord_1 19 (31, .bipush 6, 2) rfl
theorem dX8_readsWord_33 : decode cX8_readsWord 33 = .ok (.if_icmp .ge 12, 3) := tb_d tk_X8_readsWord_1 20 (33, .if_icmp .ge 12, 3) rfl
theorem dX8_readsWord_36 : decode cX8_readsWord 36 = .ok (.aload_n 0, 1) := tb_d tk_X8_readsWord_1 21 (36, .aload_n 0, 1) rfl
theorem dX8_readsWord_37 : decode cX8_readsWord 37 = .ok (.getfield 28, 3) := tb_d tk_X8_readsWord_1 22 (37, .getfield 28, 3) rfl
theorem dX8_readsWord_40 : decode cX8_readsWord 40 = .ok (.iconst 3, 1) := tb_d tk_X8_readsWord_1 23 (40, .iconst 3, 1) rfl
theorem dX8_readsWord_41 : decode cX8_readsWord 41 = .ok (.iaload, 1) := tb_d tk_X8_readsWord_1 24 (41, .iaload, 1) rfl
theorem dX8_readsWord_42 : decode cX8_readsWord 42 = .ok (.goto 4, 3) := tb_d tk_X8_readsWord_1 25 (42, .goto 4, 3) rfl
theorem dX8_readsWord_45 : decode cX8_readsWord 45 = .ok (.iconst 0, 1) := tb_d tk_X8_readsWord_1 26 (45, .iconst 0, 1) rfl
theorem dX8_readsWord_46 : decode cX8_readsWord 46 = .ok (.imul, 1) := tb_d tk_X8_readsWord_1 27 (46, .imul, 1) rfl
theorem dX8_readsWord_47 : decode cX8_readsWord 47 = .ok (.iadd, 1) := tb_d tk_X8_readsWord_1 28 (47, .iadd, 1) rfl
theorem dX8_readsWord_48 : decode cX8_readsWord 48 = .ok (.istore_n 1, 1) := tb_d tk_X8_readsWord_1 29 (48, .istore_n 1, 1) rfl
theorem dX8_readsWord_49 : decode cX8_readsWord 49 = .ok (.aload_n 0, 1) := tb_d tk_X8_readsWord_1 30 (49, .aload_n 0, 1) rfl
theorem dX8_readsWord_50 : decode cX8_readsWord 50 = .ok (.invokevirtual 121, 3) := tb_d tk_X8_readsWord_1 31 (50, .invokevirtual 121, 3) rfl
theorem dX8_readsWord_53 : decode cX8_readsWord 53 = .ok (.istore_n 2, 1) := tb_d tk_X8_readsWord_1 32 (53, .istore_n 2, 1) rfl
theorem dX8_readsWord_54 : decode cX8_readsWord 54 = .ok (.aload_n 0, 1) := tb_d tk_X8_readsWord_1 33 (54, .aload_n 0, 1) rfl
theorem dX8_readsWord_55 : decode cX8_readsWord 55 = .ok (.invokevirtual 121, 3) := tb_d tk_X8_readsWord_1 34 (55, .invokevirtual 121, 3) rfl
theorem dX8_readsWord_58 : decode cX8_readsWord 58 = .ok (.istore_n 3, 1) := tb_d tk_X8_readsWord_1 35 (58, .istore_n 3, 1) rfl
theorem dX8_readsWord_59 : decode cX8_readsWord 59 = .ok (.aload_n 0, 1) := tb_d tk_X8_readsWord_1 36 (59, .aload_n 0, 1) rfl
theorem dX8_readsWord_60 : decode cX8_readsWord 60 = .ok (.invokevirtual 104, 3) := tb_d tk_X8_readsWord_1 37 (60, .invokevirtual 104, 3) rfl
theorem dX8_readsWord_63 : decode cX8_readsWord 63 = .ok (.ifCond .eq 18, 3) := tb_d tk_X8_readsWord_1 38 (63, .ifCond .eq 18, 3) rfl
theorem dX8_readsWord_66 : decode cX8_readsWord 66 = .ok (.aload_n 0, 1) := tb_d tk_X8_readsWord_1 39 (66, .aload_n 0, 1) rfl
def tb_X8_readsWord_2 : List (Nat × Instr × Nat) := [(67, .getfield 98, 3), (70, .iconst 1, 1), (71, .if_icmp .eq 10, 3), (74, .aload_n 0, 1), (75, .iconst 0, 1), (76, .iconst 1, 1), (77, .invokevirtual 114, 3), (80, .pop, 1), (81, .aload_n 0, 1), (82, .aload_n 0, 1), (83, .iload_n 2, 1), (84, .iload_n 3, 1), (85, .aload_n 0, 1), (86, .getfield 95, 3), (89, .bipush 97, 2), (91, .isub, 1), (92, .invokevirtual 125, 3), (95, .ifCond .ne 7, 3), (98, .iconst 1, 1), (99, .goto 4, 3), (102, .iconst 0, 1), (103, .iconst 2, 1), (104, .invokevirtual 114, 3), (107, .bipush 97, 2), (109, .isub, 1), (110, .istore 4, 2), (112, .aload_n 0, 1), (113, .aload_n 0, 1), (114, .getfield 98, 3), (117, .iconst 4, 1), (118, .if_icmp .ne 7, 3), (121, .iconst 1, 1), (122, .goto 4, 3), (125, .iconst 0, 1), (126, .iconst 1, 1), (127, .invokevirtual 114, 3), (130, .pop, 1), (131, .aload_n 0, 1), (132, .invokevirtual 104, 3), (135, .ifCond .eq 39, 3)]
set_option maxRecDepth 100000 in
theorem tk_X8_readsWord_2 : (tb_X8_readsWord_2.all fun q => decide (decode cX8_readsWord q.1 = .ok q.2)) = true := by decide +kernel
theorem dX8_readsWord_67 : decode cX8_readsWord 67 = .ok (.getfield 98, 3) := tb_d tk_X8_readsWord_2 0 (67, .getfield 98, 3) rfl
theorem dX8_readsWord_70 : decode cX8_readsWord 70 = .ok (.iconst 1, 1) := tb_d tk_X8_readsWord_2 1 (70, .iconst 1, 1) rfl
theorem dX8_readsWord_71 : decode cX8_readsWord 71 = .ok (.if_icmp .eq 10, 3) := tb_d tk_X8_readsWord_2 2 (71, .if_icmp .eq 10, 3) rfl
theorem dX8_readsWord_74 : decode cX8_readsWord 74 = .ok (.aload_n 0, 1) := tb_d tk_X8_readsWord_2 3 (74, .aload_n 0, 1) rfl
theorem dX8_readsWord_75 : decode cX8_readsWord 75 = .ok (.iconst 0, 1) := tb_d tk_X8_readsWord_2 4 (75, .iconst 0, 1) rfl
theorem dX8_readsWord_76 : decode cX8_readsWord 76 = .ok (.iconst 1, 1) := tb_d tk_X8_readsWord_2 5 (76, .iconst 1, 1) rfl
theorem dX8_readsWord_77 : decode cX8_readsWord 77 = .ok (.invokevirtual 114, 3) := tb_d tk_X8_readsWord_2 6 (77, .invokevirtual 114, 3) rfl
theorem dX8_readsWord_80 : decode cX8_readsWord 80 = .ok (.pop, 1) := tb_d tk_X8_readsWord_2 7 (80, .pop, 1) rfl
theorem dX8_readsWord_81 : decode cX8_readsWord 81 = .ok (.aload_n 0, 1) := tb_d tk_X8_readsWord_2 8 (81, .aload_n 0, 1) rfl
theorem dX8_readsWord_82 : decode cX8_readsWord 82 = .ok (.aload_n 0, 1) := tb_d tk_X8_readsWord_2 9 (82, .aload_n 0, 1) rfl
theorem dX8_readsWord_83 : decode cX8_readsWord 83 = .ok (.iload_n 2, 1) := tb_d tk_X8_readsWord_2 10 (83, .iload_n 2, 1) rfl
theorem dX8_readsWord_84 : decode cX8_readsWord 84 = .ok (.iload_n 3, 1) := tb_d tk_X8_readsWord_2 11 (84, .iload_n 3, 1) rfl
theorem dX8_readsWord_85 : decode cX8_readsWord 85 = .ok (.aload_n 0, 1) := tb_d tk_X8_readsWord_2 12 (85, .aload_n 0, 1) rfl
theorem dX8_readsWord_86 : decode cX8_readsWord 86 = .ok (.getfield 95, 3) := tb_d tk_X8_readsWord_2 13 (86, .getfield 95, 3) rfl
theorem dX8_readsWord_89 : decode cX8_readsWord 89 = .ok (.bipush 97, 2) := tb_d tk_X8_readsWord_2 14 (89, .bipush 97, 2) rfl
theorem dX8_readsWord_91 : decode cX8_readsWord 91 = .ok (.isub, 1) := tb_d tk_X8_readsWord_2 15 (91, .isub, 1) rfl
theorem dX8_readsWord_92 : decode cX8_readsWord 92 = .ok (.invokevirtual 125, 3) := tb_d tk_X8_readsWord_2 16 (92, .invokevirtual 125, 3) rfl
theorem dX8_readsWord_95 : decode cX8_readsWord 95 = .ok (.ifCond .ne 7, 3) := tb_d tk_X8_readsWord_2 17 (95, .ifCond .ne 7, 3) rfl
theorem dX8_readsWord_98 : decode cX8_readsWord 98 = .ok (.iconst 1, 1) := tb_d tk_X8_readsWord_2 18 (98, .iconst 1, 1) rfl
theorem dX8_readsWord_99 : decode cX8_readsWord 99 = .ok (.goto 4, 3) := tb_d tk_X8_readsWord_2 19 (99, .goto 4, 3) rfl
theorem dX8_readsWord_102 : decode cX8_readsWord 102 = .ok (.iconst 0, 1) := tb_d tk_X8_readsWord_2 20 (102, .iconst 0, 1) rfl
theorem dX8_readsWord_103 : decode cX8_readsWord 103 = .ok (.iconst 2, 1) := tb_d tk_X8_readsWord_2 21 (103, .iconst 2, 1) rfl
theorem dX8_readsWord_104 : decode cX8_readsWord 104 = .ok (.invokevirtual 114, 3) := tb_d tk_X8_readsWord_2 22 (104, .invokevirtual 114, 3) rfl
theorem dX8_readsWord_107 : decode cX8_readsWord 107 = .ok (.bipush 97, 2) := tb_d tk_X8_readsWord_2 23 (107, .bipush 97, 2) rfl
theorem dX8_readsWord_109 : decode cX8_readsWord 109 = .ok (.isub, 1) := tb_d tk_X8_readsWord_2 24 (109, .isub, 1) rfl
theorem dX8_readsWord_110 : decode cX8_readsWord 110 = .ok (.istore 4, 2) := tb_d tk_X8_readsWord_2 25 (110, .istore 4, 2) rfl
theorem dX8_readsWord_112 : decode cX8_readsWord 112 = .ok (.aload_n 0, 1) := tb_d tk_X8_readsWord_2 26 (112, .aload_n 0, 1) rfl
theorem dX8_readsWord_113 : decode cX8_readsWord 113 = .ok (.aload_n 0, 1) := tb_d tk_X8_readsWord_2 27 (113, .aload_n 0, 1) rfl
theorem dX8_readsWord_114 : decode cX8_readsWord 114 = .ok (.getfield 98, 3) := tb_d tk_X8_readsWord_2 28 (114, .getfield 98, 3) rfl
theorem dX8_readsWord_117 : decode cX8_readsWord 117 = .ok (.iconst 4, 1) := tb_d tk_X8_readsWord_2 29 (117, .iconst 4, 1) rfl
theorem dX8_readsWord_118 : decode cX8_readsWord 118 = .ok (.if_icmp .ne 7, 3) := tb_d tk_X8_readsWord_2 30 (118, .if_icmp .ne 7, 3) rfl
theorem dX8_readsWord_121 : decode cX8_readsWord 121 = .ok (.iconst 1, 1) := tb_d tk_X8_readsWord_2 31 (121, .iconst 1, 1) rfl
theorem dX8_readsWord_122 : decode cX8_readsWord 122 = .ok (.goto 4, 3) := tb_d tk_X8_readsWord_2 32 (122, .goto 4, 3) rfl
theorem dX8_readsWord_125 : decode cX8_readsWord 125 = .ok (.iconst 0, 1) := tb_d tk_X8_readsWord_2 33 (125, .iconst 0, 1) rfl
theorem dX8_readsWord_126 : decode cX8_readsWord 126 = .ok (.iconst 1, 1) := tb_d tk_X8_readsWord_2 34 (126, .iconst 1, 1) rfl
theorem dX8_readsWord_127 : decode cX8_readsWord 127 = .ok (.invokevirtual 114, 3) := tb_d tk_X8_readsWord_2 35 (127, .invokevirtual 114, 3) rfl
theorem dX8_readsWord_130 : decode cX8_readsWord 130 = .ok (.pop, 1) := tb_d tk_X8_readsWord_2 36 (130, .pop, 1) rfl
theorem dX8_readsWord_131 : decode cX8_readsWord 131 = .ok (.aload_n 0, 1) := tb_d tk_X8_readsWord_2 37 (131, .aload_n 0, 1) rfl
theorem dX8_readsWord_132 : decode cX8_readsWord 132 = .ok (.invokevirtual 104, 3) := tb_d tk_X8_readsWord_2 38 (132, .invokevirtual 104, 3) rfl
theorem dX8_readsWord_135 : decode cX8_readsWord 135 = .ok (.ifCond .eq 39, 3) := tb_d tk_X8_readsWord_2 39 (135, .ifCond .eq 39, 3) rfl
def tb_X8_readsWord_3 : List (Nat × Instr × Nat) := [(138, .aload_n 0, 1), (139, .getfield 28, 3), (142, .iload_n 1, 1), (143, .iload_n 2, 1), (144, .iastore, 1), (145, .aload_n 0, 1), (146, .getfield 28, 3), (149, .iload_n 1, 1), (150, .iconst 1, 1), (151, .iadd, 1), (152, .iload_n 3, 1), (153, .iastore, 1), (154, .aload_n 0, 1), (155, .getfield 28, 3), (158, .iload_n 1, 1), (159, .iconst 2, 1), (160, .iadd, 1), (161, .iload 4, 2), (163, .iastore, 1), (164, .aload_n 0, 1), (165, .getfield 28, 3), (168, .iconst 3, 1), (169, .dup2, 1), (170, .iaload, 1), (171, .iconst 1, 1), (172, .iadd, 1), (173, .iastore, 1), (174, .return_, 1)]
set_option maxRecDepth 100000 in
theorem tk_X8_readsWord_3 : (tb_X8_readsWord_3.all fun q => decide (decode cX8_readsWord q.1 = .ok q.2)) = true := by decide +kernel
theorem dX8_readsWord_138 : decode cX8_readsWord 138 = .ok (.aload_n 0, 1) := tb_d tk_X8_readsWord_3 0 (138, .aload_n 0, 1) rfl
theorem dX8_readsWord_139 : decode cX8_readsWord 139 = .ok (.getfield 28, 3) := tb_d tk_X8_readsWord_3 1 (139, .getfield 28, 3) rfl
theorem dX8_readsWord_142 : decode cX8_readsWord 142 = .ok (.iload_n 1, 1) := tb_d tk_X8_readsWord_3 2 (142, .iload_n 1, 1) rfl
theorem dX8_readsWord_143 : decode cX8_readsWord 143 = .ok (.iload_n 2, 1) := tb_d tk_X8_readsWord_3 3 (143, .iload_n 2, 1) rfl
theorem dX8_readsWord_144 : decode cX8_readsWord 144 = .ok (.iastore, 1) := tb_d tk_X8_readsWord_3 4 (144, .iastore, 1) rfl
theorem dX8_readsWord_145 : decode cX8_readsWord 145 = .ok (.aload_n 0, 1) := tb_d tk_X8_readsWord_3 5 (145, .aload_n 0, 1) rfl
theorem dX8_readsWord_146 : decode cX8_readsWord 146 = .ok (.getfield 28, 3) := tb_d tk_X8_readsWord_3 6 (146, .getfield 28, 3) rfl
theorem dX8_readsWord_149 : decode cX8_readsWord 149 = .ok (.iload_n 1, 1) := tb_d tk_X8_readsWord_3 7 (149, .iload_n 1, 1) rfl
theorem dX8_readsWord_150 : decode cX8_readsWord 150 = .ok (.iconst 1, 1) := tb_d tk_X8_readsWord_3 8 (150, .iconst 1, 1) rfl
theorem dX8_readsWord_151 : decode cX8_readsWord 151 = .ok (.iadd, 1) := tb_d tk_X8_readsWord_3 9 (151, .iadd, 1) rfl
theorem dX8_readsWord_152 : decode cX8_readsWord 152 = .ok (.iload_n 3, 1) := tb_d tk_X8_readsWord_3 10 (152, .iload_n 3, 1) rfl
theorem dX8_readsWord_153 : decode cX8_readsWord 153 = .ok (.iastore, 1) := tb_d tk_X8_readsWord_3 11 (153, .iastore, 1) rfl
theorem dX8_readsWord_154 : decode cX8_readsWord 154 = .ok (.aload_n 0, 1) := tb_d tk_X8_readsWord_3 12 (154, .aload_n 0, 1) rfl
theorem dX8_readsWord_155 : decode cX8_readsWord 155 = .ok (.getfield 28, 3) := tb_d tk_X8_readsWord_3 13 (155, .getfield 28, 3) rfl
theorem dX8_readsWord_158 : decode cX8_readsWord 158 = .ok (.iload_n 1, 1) := tb_d tk_X8_readsWord_3 14 (158, .iload_n 1, 1) rfl
theorem dX8_readsWord_159 : decode cX8_readsWord 159 = .ok (.iconst 2, 1) := tb_d tk_X8_readsWord_3 15 (159, .iconst 2, 1) rfl
theorem dX8_readsWord_160 : decode cX8_readsWord 160 = .ok (.iadd, 1) := tb_d tk_X8_readsWord_3 16 (160, .iadd, 1) rfl
theorem dX8_readsWord_161 : decode cX8_readsWord 161 = .ok (.iload 4, 2) := tb_d tk_X8_readsWord_3 17 (161, .iload 4, 2) rfl
theorem dX8_readsWord_163 : decode cX8_readsWord 163 = .ok (.iastore, 1) := tb_d tk_X8_readsWord_3 18 (163, .iastore, 1) rfl
theorem dX8_readsWord_164 : decode cX8_readsWord 164 = .ok (.aload_n 0, 1) := tb_d tk_X8_readsWord_3 19 (164, .aload_n 0, 1) rfl
theorem dX8_readsWord_165 : decode cX8_readsWord 165 = .ok (.getfield 28, 3) := tb_d tk_X8_readsWord_3 20 (165, .getfield 28, 3) rfl
theorem dX8_readsWord_168 : decode cX8_readsWord 168 = .ok (.iconst 3, 1) := tb_d tk_X8_readsWord_3 21 (168, .iconst 3, 1) rfl
theorem dX8_readsWord_169 : decode cX8_readsWord 169 = .ok (.dup2, 1) := tb_d tk_X8_readsWord_3 22 (169, .dup2, 1) rfl
theorem dX8_readsWord_170 : decode cX8_readsWord 170 = .ok (.iaload, 1) := tb_d tk_X8_readsWord_3 23 (170, .iaload, 1) rfl
theorem dX8_readsWord_171 : decode cX8_readsWord 171 = .ok (.iconst 1, 1) := tb_d tk_X8_readsWord_3 24 (171, .iconst 1, 1) rfl
theorem dX8_readsWord_172 : decode cX8_readsWord 172 = .ok (.iadd, 1) := tb_d tk_X8_readsWord_3 25 (172, .iadd, 1) rfl
theorem dX8_readsWord_173 : decode cX8_readsWord 173 = .ok (.iastore, 1) := tb_d tk_X8_readsWord_3 26 (173, .iastore, 1) rfl
theorem dX8_readsWord_174 : decode cX8_readsWord 174 = .ok (.return_, 1) := tb_d tk_X8_readsWord_3 27 (174, .return_, 1) rfl
theorem ggX8_readsGuard_X8_kindOf : GoodIn wsX8_readsGuard wsX8_kindOf := fun w h => ⟨List.mem_cons_of_mem _ (List.mem_append_right _ (List.mem_append_right _ (List.mem_append_right _ (List.mem_append_right _ (List.mem_append_right _ (List.mem_append_right _ (List.mem_append_left _ h))))))), good_of_word (gdX8_kindOf w h)⟩
set_option maxRecDepth 20000 in
theorem gX8_readsGuard_X8_kindOf : GoodIn wsX8_readsGuard (va_wsS RX8 128 yX8_kindOf wsX8_kindOf) := goodIn_app (a := bkS RX8 128 yX8_kindOf) (fun w h => ⟨List.mem_cons_of_mem _ (List.mem_append_right _ (List.mem_append_left _ h)), good_of_word (gd_bS _ _ _ w h)⟩) ggX8_readsGuard_X8_kindOf
theorem ggX8_readsGuard_X8_takes : GoodIn wsX8_readsGuard wsX8_takes := fun w h => ⟨List.mem_cons_of_mem _ (List.mem_append_right _ (List.mem_append_right _ (List.mem_append_right _ (List.mem_append_right _ (List.mem_append_right _ (List.mem_append_right _ (List.mem_append_right _ (List.mem_append_left _ h)))))))), good_of_word (gdX8_takes w h)⟩
set_option maxRecDepth 20000 in
theorem gX8_readsGuard_X8_takes : GoodIn wsX8_readsGuard (wsV RX8 114 RX8 yX8_takes wsX8_takes) := goodIn_app (a := bkV RX8 114 RX8 yX8_takes) (fun w h => ⟨List.mem_cons_of_mem _ (List.mem_append_right _ (List.mem_append_right _ (List.mem_append_left _ h))), good_of_word (gd_bV _ _ _ _ w h)⟩) ggX8_readsGuard_X8_takes
theorem ggX8_readsGuard_X8_figure : GoodIn wsX8_readsGuard wsX8_figure := fun w h => ⟨List.mem_cons_of_mem _ (List.mem_append_right _ (List.mem_append_right _ (List.mem_append_right _ (List.mem_append_right _ (List.mem_append_right _ (List.mem_append_right _ (List.mem_append_right _ (List.mem_append_right _ (List.mem_append_left _ h))))))))), good_of_word (gdX8_figure w h)⟩
set_option maxRecDepth 20000 in
theorem gX8_readsGuard_X8_figure : GoodIn wsX8_readsGuard (wsV RX8 118 RX8 yX8_figure wsX8_figure) := goodIn_app (a := bkV RX8 118 RX8 yX8_figure) (fun w h => ⟨List.mem_cons_of_mem _ (List.mem_append_right _ (List.mem_append_right _ (List.mem_append_right _ (List.mem_append_left _ h)))), good_of_word (gd_bV _ _ _ _ w h)⟩) ggX8_readsGuard_X8_figure
theorem ggX8_readsGuard_X8_isWell : GoodIn wsX8_readsGuard wsX8_isWell := fun w h => ⟨List.mem_cons_of_mem _ (List.mem_append_right _ (List.mem_append_right _ (List.mem_append_right _ (List.mem_append_right _ (List.mem_append_right _ (List.mem_append_right _ (List.mem_append_right _ (List.mem_append_right _ (List.mem_append_right _ (List.mem_append_left _ h)))))))))), good_of_word (gdX8_isWell w h)⟩
set_option maxRecDepth 20000 in
theorem gX8_readsGuard_X8_isWell : GoodIn wsX8_readsGuard (wsV RX8 104 RX8 yX8_isWell wsX8_isWell) := goodIn_app (a := bkV RX8 104 RX8 yX8_isWell) (fun w h => ⟨List.mem_cons_of_mem _ (List.mem_append_right _ (List.mem_append_right _ (List.mem_append_right _ (List.mem_append_right _ (List.mem_append_left _ h))))), good_of_word (gd_bV _ _ _ _ w h)⟩) ggX8_readsGuard_X8_isWell
def tb_X8_readsGuard_1 : List (Nat × Instr × Nat) := [(0, .aload_n 0, 1), (1, .getfield 95, 3), (4, .invokestatic 128, 3), (7, .istore_n 1, 1), (8, .aload_n 0, 1), (9, .aload_n 0, 1), (10, .getfield 28, 3), (13, .iconst 4, 1), (14, .iaload, 1), (15, .iconst 4, 1), (16, .if_icmp .ge 7, 3), (19, .iconst 1, 1), (20, .goto 4, 3), (23, .iconst 0, 1), (24, .iconst 3, 1), (25, .invokevirtual 114, 3), (28, .pop, 1), (29, .bipush 26, 2), (31, .iconst 3, 1), (32, .aload_n 0, 1), (33, .getfield 28, 3), (36, .iconst 4, 1), (37, .iaload, 1), (38, .iconst 4, 1), (39, .if_icmp .ge 12, 3), (42, .aload_n 0, 1), (43, .getfield 28, 3), (46, .iconst 4, 1), (47, .iaload, 1), (48, .goto 4, 3), (51, .iconst 0, 1), (52, .imul, 1), (53, .iadd, 1), (54, .istore_n 2, 1), (55, .aload_n 0, 1), (56, .iconst 0, 1), (57, .bipush 9, 2), (59, .invokevirtual 118, 3), (62, .istore_n 3, 1), (63, .aload_n 0, 1)]
set_option maxRecDepth 100000 in
theorem tk_X8_readsGuard_1 : (tb_X8_readsGuard_1.all fun q => decide (decode cX8_readsGuard q.1 = .ok q.2)) = true := by decide +kernel
theorem dX8_readsGuard_0 : decode cX8_readsGuard 0 = .ok (.aload_n 0, 1) := tb_d tk_X8_readsGuard_1 0 (0, .aload_n 0, 1) rfl
theorem dX8_readsGuard_1 : decode cX8_readsGuard 1 = .ok (.getfield 95, 3) := tb_d tk_X8_readsGuard_1 1 (1, .getfield 95, 3) rfl
theorem dX8_readsGuard_4 : decode cX8_readsGuard 4 = .ok (.invokestatic 128, 3) := tb_d tk_X8_readsGuard_1 2 (4, .invokestatic 128, 3) rfl
theorem dX8_readsGuard_7 : decode cX8_readsGuard 7 = .ok (.istore_n 1, 1) := tb_d tk_X8_readsGuard_1 3 (7, .istore_n 1, 1) rfl
theorem dX8_readsGuard_8 : decode cX8_readsGuard 8 = .ok (.aload_n 0, 1) := tb_d tk_X8_readsGuard_1 4 (8, .aload_n 0, 1) rfl
theorem dX8_readsGuard_9 : decode cX8_readsGuard 9 = .ok (.aload_n 0, 1) := tb_d tk_X8_readsGuard_1 5 (9, .aload_n 0, 1) rfl
theorem dX8_readsGuard_10 : decode cX8_readsGuard 10 = .ok (.getfield 28, 3) := tb_d tk_X8_readsGuard_1 6 (10, .getfield 28, 3) rfl
theorem dX8_readsGuard_13 : decode cX8_readsGuard 13 = .ok (.iconst 4, 1) := tb_d tk_X8_readsGuard_1 7 (13, .iconst 4, 1) rfl
theorem dX8_readsGuard_14 : decode cX8_readsGuard 14 = .ok (.iaload, 1) := tb_d tk_X8_readsGuard_1 8 (14, .iaload, 1) rfl
theorem dX8_readsGuard_15 : decode cX8_readsGuard 15 = .ok (.iconst 4, 1) := tb_d tk_X8_readsGuard_1 9 (15, .iconst 4, 1) rfl
theorem dX8_readsGuard_16 : decode cX8_readsGuard 16 = .ok (.if_icmp .ge 7, 3) := tb_d tk_X8_readsGuard_1 10 (16, .if_icmp .ge 7, 3) rfl
theorem dX8_readsGuard_19 : decode cX8_readsGuard 19 = .ok (.iconst 1, 1) := tb_d tk_X8_readsGuard_1 11 (19, .iconst 1, 1) rfl
theorem dX8_readsGuard_20 : decode cX8_readsGuard 20 = .ok (.goto 4, 3) := tb_d tk_X8_readsGuard_1 12 (20, .goto 4, 3) rfl
theorem dX8_readsGuard_23 : decode cX8_readsGuard 23 = .ok (.iconst 0, 1) := tb_d tk_X8_readsGuard_1 13 (23, .iconst 0, 1) rfl
theorem dX8_readsGuard_24 : decode cX8_readsGuard 24 = .ok (.iconst 3, 1) := tb_d tk_X8_readsGuard_1 14 (24, .iconst 3, 1) rfl
theorem dX8_readsGuard_25 : decode cX8_readsGuard 25 = .ok (.invokevirtual 114, 3) := tb_d tk_X8_readsGuard_1 15 (25, .invokevirtual 114, 3) rfl
theorem dX8_readsGuard_28 : decode cX8_readsGuard 28 = .ok (.pop, 1) := tb_d tk_X8_readsGuard_1 16 (28, .pop, 1) rfl
theorem dX8_readsGuard_29 : decode cX8_readsGuard 29 = .ok (.bipush 26, 2) := tb_d tk_X8_readsGuard_1 17 (29, .bipush 26, 2) rfl
theorem dX8_readsGuard_31 : decode cX8_readsGuard 31 = .ok (.iconst 3, 1) := tb_d tk_X8_readsGuard_1 18 (31, .iconst 3, 1) rfl
theorem dX8_readsGuard_32 : decode cX8_readsGuard 32 = .ok (.aload_n 0, 1) := tb_d tk_X8_readsGuard_1 19 (32, .aload_n 0, 1) rfl
theorem dX8_readsGuard_33 : decode cX8_readsGuard 33 = .ok (.getfield 28, 3) := tb_d tk_X8_readsGuard_1 20 (33, .getfield 28, 3) rfl
theorem dX8_readsGuard_36 : decode cX8_readsGuard 36 = .ok (.iconst 4, 1) := tb_d tk_X8_readsGuard_1 21 (36, .iconst 4, 1) rfl
theorem dX8_readsGuard_37 : decode cX8_readsGuard 37 = .ok (.iaload, 1) := tb_d tk_X8_readsGuard_1 22 (37, .iaload, 1) rfl
theorem dX8_readsGuard_38 : decode cX8_readsGuard 38 = .ok (.iconst 4, 1) := tb_d tk_X8_readsGuard_1 23 (38, .iconst 4, 1) rfl
theorem dX8_readsGuard_39 : decode cX8_readsGuard 39 = .ok (.if_icmp .ge 12, 3) := tb_d tk_X8_readsGuard_1 24 (39, .if_icmp .ge 12, 3) rfl
theorem dX8_readsGuard_42 : decode cX8_readsGuard 42 = .ok (.aload_n 0, 1) := tb_d tk_X8_readsGuard_1 25 (42, .aload_n 0, 1) rfl
theorem dX8_readsGuard_43 : decode cX8_readsGuard 43 = .ok (.getfield 28, 3) := tb_d tk_X8_readsGuard_1 26 (43, .getfield 28, 3) rfl
theorem dX8_readsGuard_46 : decode cX8_readsGuard 46 = .ok (.iconst 4, 1) := tb_d tk_X8_readsGuard_1 27 (46, .iconst 4, 1) rfl
theorem dX8_readsGuard_47 : decode cX8_readsGuard 47 = .ok (.iaload, 1) := tb_d tk_X8_readsGuard_1 28 (47, .iaload, 1) rfl
theorem dX8_readsGuard_48 : decode cX8_readsGuard 48 = .ok (.goto 4, 3) := tb_d tk_X8_readsGuard_1 29 (48, .goto 4, 3) rfl
theorem dX8_readsGuard_51 : decode cX8_readsGuard 51 = .ok (.iconst 0, 1) := tb_d tk_X8_readsGuard_1 30 (51, .iconst 0, 1) rfl
theorem dX8_readsGuard_52 : decode cX8_readsGuard 52 = .ok (.imul, 1) := tb_d tk_X8_readsGuard_1 31 (52, .imul, 1) rfl
theorem dX8_readsGuard_53 : decode cX8_readsGuard 53 = .ok (.iadd, 1) := tb_d tk_X8_readsGuard_1 32 (53, .iadd, 1) rfl
theorem dX8_readsGuard_54 : decode cX8_readsGuard 54 = .ok (.istore_n 2, 1) := tb_d tk_X8_readsGuard_1 33 (54, .istore_n 2, 1) rfl
theorem dX8_readsGuard_55 : decode cX8_readsGuard 55 = .ok (.aload_n 0, 1) := tb_d tk_X8_readsGuard_1 34 (55, .aload_n 0, 1) rfl
theorem dX8_readsGuard_56 : decode cX8_readsGuard 56 = .ok (.iconst 0, 1) := tb_d tk_X8_readsGuard_1 35 (56, .iconst 0, 1) rfl
theorem dX8_readsGuard_57 : decode cX8_readsGuard 57 = .ok (.bipush 9, 2) := tb_d tk_X8_readsGuard_1 36 (57, .bipush 9, 2) rfl
theorem dX8_readsGuard_59 : decode cX8_readsGuard 59 = .ok (.invokevirtual 118, 3) := tb_d tk_X8_readsGuard_1 37 (59, .invokevirtual 118, 3) rfl
theorem dX8_readsGuard_62 : decode cX8_readsGuard 62 = .ok (.istore_n 3, 1) := tb_d tk_X8_readsGuard_1 38 (62, .istore_n 3, 1) rfl
theorem dX8_readsGuard_63 : decode cX8_readsGuard 63 = .ok (.aload_n 0, 1) := tb_d tk_X8_readsGuard_1 39 (63, .aload_n 0, 1) rfl
def tb_X8_readsGuard_2 : List (Nat × Instr × Nat) := [(64, .aload_n 0, 1), (65, .getfield 98, 3), (68, .iconst 4, 1), (69, .if_icmp .ne 7, 3), (72, .iconst 1, 1), (73, .goto 4, 3), (76, .iconst 0, 1), (77, .iconst 1, 1), (78, .invokevirtual 114, 3), (81, .pop, 1), (82, .aload_n 0, 1), (83, .invokevirtual 104, 3), (86, .ifCond .eq 47, 3), (89, .aload_n 0, 1), (90, .getfield 28, 3), (93, .iload_n 2, 1), (94, .iload_n 1, 1), (95, .iastore, 1), (96, .aload_n 0, 1), (97, .getfield 28, 3), (100, .iload_n 2, 1), (101, .iconst 1, 1), (102, .iadd, 1), (103, .iload_n 3, 1), (104, .iastore, 1), (105, .aload_n 0, 1), (106, .getfield 28, 3), (109, .bipush 6, 2), (111, .dup2, 1), (112, .iaload, 1), (113, .iconst 1, 1), (114, .aload_n 0, 1), (115, .getfield 28, 3), (118, .iconst 4, 1), (119, .iaload, 1), (120, .ishl, 1), (121, .ior, 1), (122, .iastore, 1), (123, .aload_n 0, 1), (124, .getfield 28, 3)]
set_option maxRecDepth 100000 in
theorem tk_X8_readsGuard_2 : (tb_X8_readsGuard_2.all fun q => decide (decode cX8_readsGuard q.1 = .ok q.2)) = true := by decide +kernel
theorem dX8_readsGuard_64 : decode cX8_readsGuard 64 = .ok (.aload_n 0, 1) := tb_d tk_X8_readsGuard_2 0 (64, .aload_n 0, 1) rfl
theorem dX8_readsGuard_65 : decode cX8_readsGuard 65 = .ok (.getfield 98, 3) := tb_d tk_X8_readsGuard_2 1 (65, .getfield 98, 3) rfl
theorem dX8_readsGuard_68 : decode cX8_readsGuard 68 = .ok (.iconst 4, 1) := tb_d tk_X8_readsGuard_2 2 (68, .iconst 4, 1) rfl
theorem dX8_readsGuard_69 : decode cX8_readsGuard 69 = .ok (.if_icmp .ne 7, 3) := tb_d tk_X8_readsGuard_2 3 (69, .if_icmp .ne 7, 3) rfl
theorem dX8_readsGuard_72 : decode cX8_readsGuard 72 = .ok (.iconst 1, 1) := tb_d tk_X8_readsGuard_2 4 (72, .iconst 1, 1) rfl
theorem dX8_readsGuard_73 : decode cX8_readsGuard 73 = .ok (.goto 4, 3) := tb_d tk_X8_readsGuard_2 5 (73, .goto 4, 3) rfl
theorem dX8_readsGuard_76 : decode cX8_readsGuard 76 = .ok (.iconst 0, 1) := tb_d tk_X8_readsGuard_2 6 (76, .iconst 0, 1) rfl
theorem dX8_readsGuard_77 : decode cX8_readsGuard 77 = .ok (.iconst 1, 1) := tb_d tk_X8_readsGuard_2 7 (77, .iconst 1, 1) rfl
theorem dX8_readsGuard_78 : decode cX8_readsGuard 78 = .ok (.invokevirtual 114, 3) := tb_d tk_X8_readsGuard_2 8 (78, .invokevirtual 114, 3) rfl
theorem dX8_readsGuard_81 : decode cX8_readsGuard 81 = .ok (.pop, 1) := tb_d tk_X8_readsGuard_2 9 (81, .pop, 1) rfl
theorem dX8_readsGuard_82 : decode cX8_readsGuard 82 = .ok (.aload_n 0, 1) := tb_d tk_X8_readsGuard_2 10 (82, .aload_n 0, 1) rfl
theorem dX8_readsGuard_83 : decode cX8_readsGuard 83 = .ok (.invokevirtual 104, 3) := tb_d tk_X8_readsGuard_2 11 (83, .invokevirtual 104, 3) rfl
theorem dX8_readsGuard_86 : decode cX8_readsGuard 86 = .ok (.ifCond .eq 47, 3) := tb_d tk_X8_readsGuard_2 12 (86, .ifCond .eq 47, 3) rfl
theorem dX8_readsGuard_89 : decode cX8_readsGuard 89 = .ok (.aload_n 0, 1) := tb_d tk_X8_readsGuard_2 13 (89, .aload_n 0, 1) rfl
theorem dX8_readsGuard_90 : decode cX8_readsGuard 90 = .ok (.getfield 28, 3) := tb_d tk_X8_readsGuard_2 14 (90, .getfield 28, 3) rfl
theorem dX8_readsGuard_93 : decode cX8_readsGuard 93 = .ok (.iload_n 2, 1) := tb_d tk_X8_readsGuard_2 15 (93, .iload_n 2, 1) rfl
theorem dX8_readsGuard_94 : decode cX8_readsGuard 94 = .ok (.iload_n 1, 1) := tb_d tk_X8_readsGuard_2 16 (94, .iload_n 1, 1) rfl
theorem dX8_readsGuard_95 : decode cX8_readsGuard 95 = .ok (.iastore, 1) := tb_d tk_X8_readsGuard_2 17 (95, .iastore, 1) rfl
theorem dX8_readsGuard_96 : decode cX8_readsGuard 96 = .ok (.aload_n 0, 1) := tb_d tk_X8_readsGuard_2 18 (96, .aload_n 0, 1) rfl
theorem dX8_readsGuard_97 : decode cX8_readsGuard 97 = .ok (.getfield 28, 3) := tb_d tk_X8_readsGuard_2 19 (97, .getfield 28, 3) rfl
theorem dX8_readsGuard_100 : decode cX8_readsGuard 100 = .ok (.iload_n 2, 1) := tb_d tk_X8_readsGuard_2 20 (100, .iload_n 2, 1) rfl
theorem dX8_readsGuard_101 : decode cX8_readsGuard 101 = .ok (.iconst 1, 1) := tb_d tk_X8_readsGuard_2 21 (101, .iconst 1, 1) rfl
theorem dX8_readsGuard_102 : decode cX8_readsGuard 102 = .ok (.iadd, 1) := tb_d tk_X8_readsGuard_2 22 (102, .iadd, 1) rfl
theorem dX8_readsGuard_103 : decode cX8_readsGuard 103 = .ok (.iload_n 3, 1) := tb_d tk_X8_readsGuard_2 23 (103, .iload_n 3, 1) rfl
theorem dX8_readsGuard_104 : decode cX8_readsGuard 104 = .ok (.iastore, 1) := tb_d tk_X8_readsGuard_2 24 (104, .iastore, 1) rfl
theorem dX8_readsGuard_105 : decode cX8_readsGuard 105 = .ok (.aload_n 0, 1) := tb_d tk_X8_readsGuard_2 25 (105, .aload_n 0, 1) rfl
theorem dX8_readsGuard_106 : decode cX8_readsGuard 106 = .ok (.getfield 28, 3) := tb_d tk_X8_readsGuard_2 26 (106, .getfield 28, 3) rfl
theorem dX8_readsGuard_109 : decode cX8_readsGuard 109 = .ok (.bipush 6, 2) := tb_d tk_X8_readsGuard_2 27 (109, .bipush 6, 2) rfl
theorem dX8_readsGuard_111 : decode cX8_readsGuard 111 = .ok (.dup2, 1) := tb_d tk_X8_readsGuard_2 28 (111, .dup2, 1) rfl
theorem dX8_readsGuard_112 : decode cX8_readsGuard 112 = .ok (.iaload, 1) := tb_d tk_X8_readsGuard_2 29 (112, .iaload, 1) rfl
theorem dX8_readsGuard_113 : decode cX8_readsGuard 113 = .ok (.iconst 1, 1) := tb_d tk_X8_readsGuard_2 30 (113, .iconst 1, 1) rfl
theorem dX8_readsGuard_114 : decode cX8_readsGuard 114 = .ok (.aload_n 0, 1) := tb_d tk_X8_readsGuard_2 31 (114, .aload_n 0, 1) rfl
theorem dX8_readsGuard_115 : decode cX8_readsGuard 115 = .ok (.getfield 28, 3) := tb_d tk_X8_readsGuard_2 32 (115, .getfield 28, 3) rfl
theorem dX8_readsGuard_118 : decode cX8_readsGuard 118 = .ok (.iconst 4, 1) := tb_d tk_X8_readsGuard_2 33 (118, .iconst 4, 1) rfl
theorem dX8_readsGuard_119 : decode cX8_readsGuard 119 = .ok (.iaload, 1) := tb_d tk_X8_readsGuard_2 34 (119, .iaload, 1) rfl
theorem dX8_readsGuard_120 : decode cX8_readsGuard 120 = .ok (.ishl, 1) := tb_d tk_X8_readsGuard_2 35 (120, .ishl, 1) rfl
theorem dX8_readsGuard_121 : decode cX8_readsGuard 121 = .ok (.ior, 1) := tb_d tk_X8_readsGuard_2 36 (121, .ior, 1) rfl
theorem dX8_readsGuard_122 : decode cX8_readsGuard 122 = .ok (.iastore, 1) := tb_d tk_X8_readsGuard_2 37 (122, .iastore, 1) rfl
theorem dX8_readsGuard_123 : decode cX8_readsGuard 123 = .ok (.aload_n 0, 1) := tb_d tk_X8_readsGuard_2 38 (123, .aload_n 0, 1) rfl
theorem dX8_readsGuard_124 : decode cX8_readsGuard 124 = .ok (.getfield 28, 3) := tb_d tk_X8_readsGuard_2 39 (124, .getfield 28, 3) rfl
def tb_X8_readsGuard_3 : List (Nat × Instr × Nat) := [(127, .iconst 4, 1), (128, .dup2, 1), (129, .iaload, 1), (130, .iconst 1, 1), (131, .iadd, 1), (132, .iastore, 1), (133, .return_, 1)]
set_option maxRecDepth 100000 in
theorem tk_X8_readsGuard_3 : (tb_X8_readsGuard_3.all fun q => decide (decode cX8_readsGuard q.1 = .ok q.2)) = true := by decide +kernel
theorem dX8_readsGuard_127 : decode cX8_readsGuard 127 = .ok (.iconst 4, 1) := tb_d tk_X8_readsGuard_3 0 (127, .iconst 4, 1) rfl
theorem dX8_readsGuard_128 : decode cX8_readsGuard 128 = .ok (.dup2, 1) := tb_d tk_X8_readsGuard_3 1 (128, .dup2, 1) rfl
theorem dX8_readsGuard_129 : decode cX8_readsGuard 129 = .ok (.iaload, 1) := tb_d tk_X8_readsGuard_3 2 (129, .iaload, 1) rfl
theorem dX8_readsGuard_130 : decode cX8_readsGuard 130 = .ok (.iconst 1, 1) := tb_d tk_X8_readsGuard_3 3 (130, .iconst 1, 1) rfl
theorem dX8_readsGuard_131 : decode cX8_readsGuard 131 = .ok (.iadd, 1) := tb_d tk_X8_readsGuard_3 4 (131, .iadd, 1) rfl
theorem dX8_readsGuard_132 : decode cX8_readsGuard 132 = .ok (.iastore, 1) := tb_d tk_X8_readsGuard_3 5 (132, .iastore, 1) rfl
theorem dX8_readsGuard_133 : decode cX8_readsGuard 133 = .ok (.return_, 1) := tb_d tk_X8_readsGuard_3 6 (133, .return_, 1) rfl
theorem ggX8_must_X8_isWell : GoodIn wsX8_must wsX8_isWell := fun w h => ⟨List.mem_cons_of_mem _ (List.mem_append_right _ (List.mem_append_right _ (List.mem_append_right _ (List.mem_append_right _ (List.mem_append_left _ h))))), good_of_word (gdX8_isWell w h)⟩
set_option maxRecDepth 20000 in
theorem gX8_must_X8_isWell : GoodIn wsX8_must (wsV RX8 104 RX8 yX8_isWell wsX8_isWell) := goodIn_app (a := bkV RX8 104 RX8 yX8_isWell) (fun w h => ⟨List.mem_cons_of_mem _ (List.mem_append_right _ (List.mem_append_left _ h)), good_of_word (gd_bV _ _ _ _ w h)⟩) ggX8_must_X8_isWell
theorem ggX8_must_X8_takes : GoodIn wsX8_must wsX8_takes := fun w h => ⟨List.mem_cons_of_mem _ (List.mem_append_right _ (List.mem_append_right _ (List.mem_append_right _ (List.mem_append_right _ (List.mem_append_right _ (List.mem_append_left _ h)))))), good_of_word (gdX8_takes w h)⟩
set_option maxRecDepth 20000 in
theorem gX8_must_X8_takes : GoodIn wsX8_must (wsV RX8 114 RX8 yX8_takes wsX8_takes) := goodIn_app (a := bkV RX8 114 RX8 yX8_takes) (fun w h => ⟨List.mem_cons_of_mem _ (List.mem_append_right _ (List.mem_append_right _ (List.mem_append_left _ h))), good_of_word (gd_bV _ _ _ _ w h)⟩) ggX8_must_X8_takes
def tb_X8_must_1 : List (Nat × Instr × Nat) := [(0, .aload_n 0, 1), (1, .invokevirtual 104, 3), (4, .ifCond .eq 14, 3), (7, .iload_n 1, 1), (8, .ifCond .ne 10, 3), (11, .aload_n 0, 1), (12, .iconst 0, 1), (13, .iconst 1, 1), (14, .invokevirtual 114, 3), (17, .pop, 1), (18, .return_, 1)]
set_option maxRecDepth 100000 in
theorem tk_X8_must_1 : (tb_X8_must_1.all fun q => decide (decode cX8_must q.1 = .ok q.2)) = true := by decide +kernel
theorem dX8_must_0 : decode cX8_must 0 = .ok (.aload_n 0, 1) := tb_d tk_X8_must_1 0 (0, .aload_n 0, 1) rfl
theorem dX8_must_1 : decode cX8_must 1 = .ok (.invokevirtual 104, 3) := tb_d tk_X8_must_1 1 (1, .invokevirtual 104, 3) rfl
theorem dX8_must_4 : decode cX8_must 4 = .ok (.ifCond .eq 14, 3) := tb_d tk_X8_must_1 2 (4, .ifCond .eq 14, 3) rfl
theorem dX8_must_7 : decode cX8_must 7 = .ok (.iload_n 1, 1) := tb_d tk_X8_must_1 3 (7, .iload_n 1, 1) rfl
theorem dX8_must_8 : decode cX8_must 8 = .ok (.ifCond .ne 10, 3) := tb_d tk_X8_must_1 4 (8, .ifCond .ne 10, 3) rfl
theorem dX8_must_11 : decode cX8_must 11 = .ok (.aload_n 0, 1) := tb_d tk_X8_must_1 5 (11, .aload_n 0, 1) rfl
theorem dX8_must_12 : decode cX8_must 12 = .ok (.iconst 0, 1) := tb_d tk_X8_must_1 6 (12, .iconst 0, 1) rfl
theorem dX8_must_13 : decode cX8_must 13 = .ok (.iconst 1, 1) := tb_d tk_X8_must_1 7 (13, .iconst 1, 1) rfl
theorem dX8_must_14 : decode cX8_must 14 = .ok (.invokevirtual 114, 3) := tb_d tk_X8_must_1 8 (14, .invokevirtual 114, 3) rfl
theorem dX8_must_17 : decode cX8_must 17 = .ok (.pop, 1) := tb_d tk_X8_must_1 9 (17, .pop, 1) rfl
theorem dX8_must_18 : decode cX8_must 18 = .ok (.return_, 1) := tb_d tk_X8_must_1 10 (18, .return_, 1) rfl
theorem ggX8_gate_X8_advances : GoodIn wsX8_gate wsX8_advances := fun w h => ⟨List.mem_cons_of_mem _ (List.mem_append_right _ (List.mem_append_right _ (List.mem_append_right _ (List.mem_append_right _ (List.mem_append_right _ (List.mem_append_right _ (List.mem_append_right _ (List.mem_append_right _ (List.mem_append_right _ (List.mem_append_right _ (List.mem_append_right _ (List.mem_append_right _ (List.mem_append_left _ h))))))))))))), good_of_word (gdX8_advances w h)⟩
set_option maxRecDepth 20000 in
theorem gX8_gate_X8_advances : GoodIn wsX8_gate (wsV RX8 111 RX8 yX8_advances wsX8_advances) := goodIn_app (a := bkV RX8 111 RX8 yX8_advances) (fun w h => ⟨List.mem_cons_of_mem _ (List.mem_append_right _ (List.mem_append_left _ h)), good_of_word (gd_bV _ _ _ _ w h)⟩) ggX8_gate_X8_advances
theorem ggX8_gate_X8_takes : GoodIn wsX8_gate wsX8_takes := fun w h => ⟨List.mem_cons_of_mem _ (List.mem_append_right _ (List.mem_append_right _ (List.mem_append_right _ (List.mem_append_right _ (List.mem_append_right _ (List.mem_append_right _ (List.mem_append_right _ (List.mem_append_right _ (List.mem_append_right _ (List.mem_append_right _ (List.mem_append_right _ (List.mem_append_right _ (List.mem_append_right _ (List.mem_append_left _ h)))))))))))))), good_of_word (gdX8_takes w h)⟩
set_option maxRecDepth 20000 in
theorem gX8_gate_X8_takes : GoodIn wsX8_gate (wsV RX8 114 RX8 yX8_takes wsX8_takes) := goodIn_app (a := bkV RX8 114 RX8 yX8_takes) (fun w h => ⟨List.mem_cons_of_mem _ (List.mem_append_right _ (List.mem_append_right _ (List.mem_append_left _ h))), good_of_word (gd_bV _ _ _ _ w h)⟩) ggX8_gate_X8_takes
theorem ggX8_gate_X8_figure : GoodIn wsX8_gate wsX8_figure := fun w h => ⟨List.mem_cons_of_mem _ (List.mem_append_right _ (List.mem_append_right _ (List.mem_append_right _ (List.mem_append_right _ (List.mem_append_right _ (List.mem_append_right _ (List.mem_append_right _ (List.mem_append_right _ (List.mem_append_right _ (List.mem_append_right _ (List.mem_append_right _ (List.mem_append_right _ (List.mem_append_right _ (List.mem_append_right _ (List.mem_append_left _ h))))))))))))))), good_of_word (gdX8_figure w h)⟩
set_option maxRecDepth 20000 in
theorem gX8_gate_X8_figure : GoodIn wsX8_gate (wsV RX8 118 RX8 yX8_figure wsX8_figure) := goodIn_app (a := bkV RX8 118 RX8 yX8_figure) (fun w h => ⟨List.mem_cons_of_mem _ (List.mem_append_right _ (List.mem_append_right _ (List.mem_append_right _ (List.mem_append_left _ h)))), good_of_word (gd_bV _ _ _ _ w h)⟩) ggX8_gate_X8_figure
theorem ggX8_gate_X8_follows : GoodIn wsX8_gate wsX8_follows := fun w h => ⟨List.mem_cons_of_mem _ (List.mem_append_right _ (List.mem_append_right _ (List.mem_append_right _ (List.mem_append_right _ (List.mem_append_right _ (List.mem_append_right _ (List.mem_append_right _ (List.mem_append_right _ (List.mem_append_right _ (List.mem_append_right _ (List.mem_append_right _ (List.mem_append_right _ (List.mem_append_right _ (List.mem_append_right _ (List.mem_append_right _ (List.mem_append_left _ h)))))))))))))))), good_of_word (gdX8_follows w h)⟩
set_option maxRecDepth 20000 in
theorem gX8_gate_X8_follows : GoodIn wsX8_gate (wsV RX8 131 RX8 yX8_follows wsX8_follows) := goodIn_app (a := bkV RX8 131 RX8 yX8_follows) (fun w h => ⟨List.mem_cons_of_mem _ (List.mem_append_right _ (List.mem_append_right _ (List.mem_append_right _ (List.mem_append_right _ (List.mem_append_left _ h))))), good_of_word (gd_bV _ _ _ _ w h)⟩) ggX8_gate_X8_follows
theorem ggX8_gate_X8_must : GoodIn wsX8_gate wsX8_must := fun w h => ⟨List.mem_cons_of_mem _ (List.mem_append_right _ (List.mem_append_right _ (List.mem_append_right _ (List.mem_append_right _ (List.mem_append_right _ (List.mem_append_right _ (List.mem_append_right _ (List.mem_append_right _ (List.mem_append_right _ (List.mem_append_right _ (List.mem_append_right _ (List.mem_append_right _ (List.mem_append_right _ (List.mem_append_right _ (List.mem_append_right _ (List.mem_append_right _ (List.mem_append_left _ h))))))))))))))))), good_of_word (gdX8_must w h)⟩
set_option maxRecDepth 20000 in
theorem gX8_gate_X8_must : GoodIn wsX8_gate (wsV RX8 134 RX8 yX8_must wsX8_must) := goodIn_app (a := bkV RX8 134 RX8 yX8_must) (fun w h => ⟨List.mem_cons_of_mem _ (List.mem_append_right _ (List.mem_append_right _ (List.mem_append_right _ (List.mem_append_right _ (List.mem_append_right _ (List.mem_append_left _ h)))))), good_of_word (gd_bV _ _ _ _ w h)⟩) ggX8_gate_X8_must
theorem ggX8_gate_X8_isWell : GoodIn wsX8_gate wsX8_isWell := fun w h => ⟨List.mem_cons_of_mem _ (List.mem_append_right _ (List.mem_append_right _ (List.mem_append_right _ (List.mem_append_right _ (List.mem_append_right _ (List.mem_append_right _ (List.mem_append_right _ (List.mem_append_right _ (List.mem_append_right _ (List.mem_append_right _ (List.mem_append_right _ (List.mem_append_right _ (List.mem_append_right _ (List.mem_append_right _ (List.mem_append_right _ (List.mem_append_right _ (List.mem_append_right _ (List.mem_append_left _ h)))))))))))))))))), good_of_word (gdX8_isWell w h)⟩
set_option maxRecDepth 20000 in
theorem gX8_gate_X8_isWell : GoodIn wsX8_gate (wsV RX8 104 RX8 yX8_isWell wsX8_isWell) := goodIn_app (a := bkV RX8 104 RX8 yX8_isWell) (fun w h => ⟨List.mem_cons_of_mem _ (List.mem_append_right _ (List.mem_append_right _ (List.mem_append_right _ (List.mem_append_right _ (List.mem_append_right _ (List.mem_append_right _ (List.mem_append_left _ h))))))), good_of_word (gd_bV _ _ _ _ w h)⟩) ggX8_gate_X8_isWell
theorem ggX8_gate_X8_readsWord : GoodIn wsX8_gate wsX8_readsWord := fun w h => ⟨List.mem_cons_of_mem _ (List.mem_append_right _ (List.mem_append_right _ (List.mem_append_right _ (List.mem_append_right _ (List.mem_append_right _ (List.mem_append_right _ (List.mem_append_right _ (List.mem_append_right _ (List.mem_append_right _ (List.mem_append_right _ (List.mem_append_right _ (List.mem_append_right _ (List.mem_append_right _ (List.mem_append_right _ (List.mem_append_right _ (List.mem_append_right _ (List.mem_append_right _ (List.mem_append_right _ (List.mem_append_left _ h))))))))))))))))))), good_of_word (gdX8_readsWord w h)⟩
set_option maxRecDepth 20000 in
theorem gX8_gate_X8_readsWord : GoodIn wsX8_gate (wsV RX8 138 RX8 yX8_readsWord wsX8_readsWord) := goodIn_app (a := bkV RX8 138 RX8 yX8_readsWord) (fun w h => ⟨List.mem_cons_of_mem _ (List.mem_append_right _ (List.mem_append_right _ (List.mem_append_right _ (List.mem_append_right _ (List.mem_append_right _ (List.mem_append_right _ (List.mem_append_right _ (List.mem_append_left _ h)))))))), good_of_word (gd_bV _ _ _ _ w h)⟩) ggX8_gate_X8_readsWord
theorem ggX8_gate_X8_kindOf : GoodIn wsX8_gate wsX8_kindOf := fun w h => ⟨List.mem_cons_of_mem _ (List.mem_append_right _ (List.mem_append_right _ (List.mem_append_right _ (List.mem_append_right _ (List.mem_append_right _ (List.mem_append_right _ (List.mem_append_right _ (List.mem_append_right _ (List.mem_append_right _ (List.mem_append_right _ (List.mem_append_right _ (List.mem_append_right _ (List.mem_append_right _ (List.mem_append_right _ (List.mem_append_right _ (List.mem_append_right _ (List.mem_append_right _ (List.mem_append_right _ (List.mem_append_right _ (List.mem_append_left _ h)))))))))))))))))))), good_of_word (gdX8_kindOf w h)⟩
set_option maxRecDepth 20000 in
theorem gX8_gate_X8_kindOf : GoodIn wsX8_gate (va_wsS RX8 128 yX8_kindOf wsX8_kindOf) := goodIn_app (a := bkS RX8 128 yX8_kindOf) (fun w h => ⟨List.mem_cons_of_mem _ (List.mem_append_right _ (List.mem_append_right _ (List.mem_append_right _ (List.mem_append_right _ (List.mem_append_right _ (List.mem_append_right _ (List.mem_append_right _ (List.mem_append_right _ (List.mem_append_left _ h))))))))), good_of_word (gd_bS _ _ _ w h)⟩) ggX8_gate_X8_kindOf
theorem ggX8_gate_X8_readsGuard : GoodIn wsX8_gate wsX8_readsGuard := fun w h => ⟨List.mem_cons_of_mem _ (List.mem_append_right _ (List.mem_append_right _ (List.mem_append_right _ (List.mem_append_right _ (List.mem_append_right _ (List.mem_append_right _ (List.mem_append_right _ (List.mem_append_right _ (List.mem_append_right _ (List.mem_append_right _ (List.mem_append_right _ (List.mem_append_right _ (List.mem_append_right _ (List.mem_append_right _ (List.mem_append_right _ (List.mem_append_right _ (List.mem_append_right _ (List.mem_append_right _ (List.mem_append_right _ (List.mem_append_right _ (List.mem_append_left _ h))))))))))))))))))))), good_of_word (gdX8_readsGuard w h)⟩
set_option maxRecDepth 20000 in
theorem gX8_gate_X8_readsGuard : GoodIn wsX8_gate (wsV RX8 141 RX8 yX8_readsGuard wsX8_readsGuard) := goodIn_app (a := bkV RX8 141 RX8 yX8_readsGuard) (fun w h => ⟨List.mem_cons_of_mem _ (List.mem_append_right _ (List.mem_append_right _ (List.mem_append_right _ (List.mem_append_right _ (List.mem_append_right _ (List.mem_append_right _ (List.mem_append_right _ (List.mem_append_right _ (List.mem_append_right _ (List.mem_append_left _ h)))))))))), good_of_word (gd_bV _ _ _ _ w h)⟩) ggX8_gate_X8_readsGuard
theorem ggX8_gate_X8_copies : GoodIn wsX8_gate wsX8_copies := fun w h => ⟨List.mem_cons_of_mem _ (List.mem_append_right _ (List.mem_append_right _ (List.mem_append_right _ (List.mem_append_right _ (List.mem_append_right _ (List.mem_append_right _ (List.mem_append_right _ (List.mem_append_right _ (List.mem_append_right _ (List.mem_append_right _ (List.mem_append_right _ (List.mem_append_right _ (List.mem_append_right _ (List.mem_append_right _ (List.mem_append_right _ (List.mem_append_right _ (List.mem_append_right _ (List.mem_append_right _ (List.mem_append_right _ (List.mem_append_right _ (List.mem_append_right _ (List.mem_append_left _ h)))))))))))))))))))))), good_of_word (gdX8_copies w h)⟩
set_option maxRecDepth 20000 in
theorem gX8_gate_X8_copies : GoodIn wsX8_gate (va_wsS RX8 145 yX8_copies wsX8_copies) := goodIn_app (a := bkS RX8 145 yX8_copies) (fun w h => ⟨List.mem_cons_of_mem _ (List.mem_append_right _ (List.mem_append_right _ (List.mem_append_right _ (List.mem_append_right _ (List.mem_append_right _ (List.mem_append_right _ (List.mem_append_right _ (List.mem_append_right _ (List.mem_append_right _ (List.mem_append_right _ (List.mem_append_left _ h))))))))))), good_of_word (gd_bS _ _ _ w h)⟩) ggX8_gate_X8_copies
def tb_X8_gate_1 : List (Nat × Instr × Nat) := [(0, .iconst 0, 1), (1, .istore_n 1, 1), (2, .iload_n 1, 1), (3, .bipush 65, 2), (5, .if_icmp .ge 16, 3), (8, .aload_n 0, 1), (9, .getfield 28, 3), (12, .iload_n 1, 1), (13, .iconst 0, 1), (14, .iastore, 1), (15, .iinc 1 1, 3), (18, .goto (-16), 3), (21, .aload_n 0, 1), (22, .iconst 0, 1), (23, .putfield 86, 3), (26, .aload_n 0, 1), (27, .iconst (-1), 1), (28, .putfield 101, 3), (31, .aload_n 0, 1), (32, .invokevirtual 111, 3), (35, .aload_n 0, 1), (36, .aload_n 0, 1), (37, .getfield 98, 3), (40, .iconst 1, 1), (41, .if_icmp .ne 16, 3), (44, .aload_n 0, 1), (45, .getfield 95, 3), (48, .bipush 113, 2), (50, .if_icmp .ne 7, 3), (53, .iconst 1, 1), (54, .goto 4, 3), (57, .iconst 0, 1), (58, .iconst 1, 1), (59, .invokevirtual 114, 3), (62, .pop, 1), (63, .aload_n 0, 1), (64, .getfield 28, 3), (67, .iconst 0, 1), (68, .aload_n 0, 1), (69, .iconst 0, 1)]
set_option maxRecDepth 100000 in
theorem tk_X8_gate_1 : (tb_X8_gate_1.all fun q => decide (decode cX8_gate q.1 = .ok q.2)) = true := by decide +kernel
theorem dX8_gate_0 : decode cX8_gate 0 = .ok (.iconst 0, 1) := tb_d tk_X8_gate_1 0 (0, .iconst 0, 1) rfl
theorem dX8_gate_1 : decode cX8_gate 1 = .ok (.istore_n 1, 1) := tb_d tk_X8_gate_1 1 (1, .istore_n 1, 1) rfl
theorem dX8_gate_2 : decode cX8_gate 2 = .ok (.iload_n 1, 1) := tb_d tk_X8_gate_1 2 (2, .iload_n 1, 1) rfl
theorem dX8_gate_3 : decode cX8_gate 3 = .ok (.bipush 65, 2) := tb_d tk_X8_gate_1 3 (3, .bipush 65, 2) rfl
theorem dX8_gate_5 : decode cX8_gate 5 = .ok (.if_icmp .ge 16, 3) := tb_d tk_X8_gate_1 4 (5, .if_icmp .ge 16, 3) rfl
theorem dX8_gate_8 : decode cX8_gate 8 = .ok (.aload_n 0, 1) := tb_d tk_X8_gate_1 5 (8, .aload_n 0, 1) rfl
theorem dX8_gate_9 : decode cX8_gate 9 = .ok (.getfield 28, 3) := tb_d tk_X8_gate_1 6 (9, .getfield 28, 3) rfl
theorem dX8_gate_12 : decode cX8_gate 12 = .ok (.iload_n 1, 1) := tb_d tk_X8_gate_1 7 (12, .iload_n 1, 1) rfl
theorem dX8_gate_13 : decode cX8_gate 13 = .ok (.iconst 0, 1) := tb_d tk_X8_gate_1 8 (13, .iconst 0, 1) rfl
theorem dX8_gate_14 : decode cX8_gate 14 = .ok (.iastore, 1) := tb_d tk_X8_gate_1 9 (14, .iastore, 1) rfl
theorem dX8_gate_15 : decode cX8_gate 15 = .ok (.iinc 1 1, 3) := tb_d tk_X8_gate_1 10 (15, .iinc 1 1, 3) rfl
theorem dX8_gate_18 : decode cX8_gate 18 = .ok (.goto (-16), 3) := tb_d tk_X8_gate_1 11 (18, .goto (-16), 3) rfl
theorem dX8_gate_21 : decode cX8_gate 21 = .ok (.aload_n 0, 1) := tb_d tk_X8_gate_1 12 (21, .aload_n 0, 1) rfl
theorem dX8_gate_22 : decode cX8_gate 22 = .ok (.iconst 0, 1) := tb_d tk_X8_gate_1 13 (22, .iconst 0, 1) rfl
theorem dX8_gate_23 : decode cX8_gate 23 = .ok (.putfield 86, 3) := tb_d tk_X8_gate_1 14 (23, .putfield 86, 3) rfl
theorem dX8_gate_26 : decode cX8_gate 26 = .ok (.aload_n 0, 1) := tb_d tk_X8_gate_1 15 (26, .aload_n 0, 1) rfl
theorem dX8_gate_27 : decode cX8_gate 27 = .ok (.iconst (-1), 1) := tb_d tk_X8_gate_1 16 (27, .iconst (-1), 1) rfl
theorem dX8_gate_28 : decode cX8_gate 28 = .ok (.putfield 101, 3) := tb_d tk_X8_gate_1 17 (28, .putfield 101, 3) rfl
theorem dX8_gate_31 : decode cX8_gate 31 = .ok (.aload_n 0, 1) := tb_d tk_X8_gate_1 18 (31, .aload_n 0, 1) rfl
theorem dX8_gate_32 : decode cX8_gate 32 = .ok (.invokevirtual 111, 3) := tb_d tk_X8_gate_1 19 (32, .invokevirtual 111, 3) rfl
theorem dX8_gate_35 : decode cX8_gate 35 = .ok (.aload_n 0, 1) := tb_d tk_X8_gate_1 20 (35, .aload_n 0, 1) rfl
theorem dX8_gate_36 : decode cX8_gate 36 = .ok (.aload_n 0, 1) := tb_d tk_X8_gate_1 21 (36, .aload_n 0, 1) rfl
theorem dX8_gate_37 : decode cX8_gate 37 = .ok (.getfield 98, 3) := tb_d tk_X8_gate_1 22 (37, .getfield 98, 3) rfl
theorem dX8_gate_40 : decode cX8_gate 40 = .ok (.iconst 1, 1) := tb_d tk_X8_gate_1 23 (40, .iconst 1, 1) rfl
theorem dX8_gate_41 : decode cX8_gate 41 = .ok (.if_icmp .ne 16, 3) := tb_d tk_X8_gate_1 24 (41, .if_icmp .ne 16, 3) rfl
theorem dX8_gate_44 : decode cX8_gate 44 = .ok (.aload_n 0, 1) := tb_d tk_X8_gate_1 25 (44, .aload_n 0, 1) rfl
theorem dX8_gate_45 : decode cX8_gate 45 = .ok (.getfield 95, 3) := tb_d tk_X8_gate_1 26 (45, .getfield 95, 3) rfl
theorem dX8_gate_48 : decode cX8_gate 48 = .ok (.bipush 113, 2) := tb_d tk_X8_gate_1 27 (48, .bipush 113, 2) rfl
theorem dX8_gate_50 : decode cX8_gate 50 = .ok (.if_icmp .ne 7, 3) := tb_d tk_X8_gate_1 28 (50, .if_icmp .ne 7, 3) rfl
theorem dX8_gate_53 : decode cX8_gate 53 = .ok (.iconst 1, 1) := tb_d tk_X8_gate_1 29 (53, .iconst 1, 1) rfl
theorem dX8_gate_54 : decode cX8_gate 54 = .ok (.goto 4, 3) := tb_d tk_X8_gate_1 30 (54, .goto 4, 3) rfl
theorem dX8_gate_57 : decode cX8_gate 57 = .ok (.iconst 0, 1) := tb_d tk_X8_gate_1 31 (57, .iconst 0, 1) rfl
theorem dX8_gate_58 : decode cX8_gate 58 = .ok (.iconst 1, 1) := tb_d tk_X8_gate_1 32 (58, .iconst 1, 1) rfl
theorem dX8_gate_59 : decode cX8_gate 59 = .ok (.invokevirtual 114, 3) := tb_d tk_X8_gate_1 33 (59, .invokevirtual 114, 3) rfl
theorem dX8_gate_62 : decode cX8_gate 62 = .ok (.pop, 1) := tb_d tk_X8_gate_1 34 (62, .pop, 1) rfl
theorem dX8_gate_63 : decode cX8_gate 63 = .ok (.aload_n 0, 1) := tb_d tk_X8_gate_1 35 (63, .aload_n 0, 1) rfl
theorem dX8_gate_64 : decode cX8_gate 64 = .ok (.getfield 28, 3) := tb_d tk_X8_gate_1 36 (64, .getfield 28, 3) rfl
theorem dX8_gate_67 : decode cX8_gate 67 = .ok (.iconst 0, 1) := tb_d tk_X8_gate_1 37 (67, .iconst 0, 1) rfl
theorem dX8_gate_68 : decode cX8_gate 68 = .ok (.aload_n 0, 1) := tb_d tk_X8_gate_1 38 (68, .aload_n 0, 1) rfl
theorem dX8_gate_69 : decode cX8_gate 69 = .ok (.iconst 0, 1) := tb_d tk_X8_gate_1 39 (69, .iconst 0, 1) rfl
def tb_X8_gate_2 : List (Nat × Instr × Nat) := [(70, .bipush 9, 2), (72, .invokevirtual 118, 3), (75, .iastore, 1), (76, .aload_n 0, 1), (77, .getfield 28, 3), (80, .iconst 1, 1), (81, .aload_n 0, 1), (82, .iconst 0, 1), (83, .bipush 9, 2), (85, .invokevirtual 131, 3), (88, .iastore, 1), (89, .aload_n 0, 1), (90, .getfield 28, 3), (93, .iconst 2, 1), (94, .aload_n 0, 1), (95, .iconst 0, 1), (96, .bipush 6, 2), (98, .invokevirtual 131, 3), (101, .iastore, 1), (102, .aload_n 0, 1), (103, .aload_n 0, 1), (104, .getfield 98, 3), (107, .iconst 4, 1), (108, .if_icmp .ne 7, 3), (111, .iconst 1, 1), (112, .goto 4, 3), (115, .iconst 0, 1), (116, .iconst 1, 1), (117, .invokevirtual 114, 3), (120, .pop, 1), (121, .aload_n 0, 1), (122, .aload_n 0, 1), (123, .getfield 98, 3), (126, .iconst 1, 1), (127, .if_icmp .ne 16, 3), (130, .aload_n 0, 1), (131, .getfield 95, 3), (134, .bipush 119, 2), (136, .if_icmp .ne 7, 3), (139, .iconst 1, 1)]
set_option maxRecDepth 100000 in
theorem tk_X8_gate_2 : (tb_X8_gate_2.all fun q => decide (decode cX8_gate q.1 = .ok q.2)) = true := by decide +kernel
theorem dX8_gate_70 : decode cX8_gate 70 = .ok (.bipush 9, 2) := tb_d tk_X8_gate_2 0 (70, .bipush 9, 2) rfl
theorem dX8_gate_72 : decode cX8_gate 72 = .ok (.invokevirtual 118, 3) := tb_d tk_X8_gate_2 1 (72, .invokevirtual 118, 3) rfl
theorem dX8_gate_75 : decode cX8_gate 75 = .ok (.iastore, 1) := tb_d tk_X8_gate_2 2 (75, .iastore, 1) rfl
theorem dX8_gate_76 : decode cX8_gate 76 = .ok (.aload_n 0, 1) := tb_d tk_X8_gate_2 3 (76, .aload_n 0, 1) rfl
theorem dX8_gate_77 : decode cX8_gate 77 = .ok (.getfield 28, 3) := tb_d tk_X8_gate_2 4 (77, .getfield 28, 3) rfl
theorem dX8_gate_80 : decode cX8_gate 80 = .ok (.iconst 1, 1) := tb_d tk_X8_gate_2 5 (80, .iconst 1, 1) rfl
theorem dX8_gate_81 : decode cX8_gate 81 = .ok (.aload_n 0, 1) := tb_d tk_X8_gate_2 6 (81, .aload_n 0, 1) rfl
theorem dX8_gate_82 : decode cX8_gate 82 = .ok (.iconst 0, 1) := tb_d tk_X8_gate_2 7 (82, .iconst 0, 1) rfl
theorem dX8_gate_83 : decode cX8_gate 83 = .ok (.bipush 9, 2) := tb_d tk_X8_gate_2 8 (83, .bipush 9, 2) rfl
theorem dX8_gate_85 : decode cX8_gate 85 = .ok (.invokevirtual 131, 3) := tb_d tk_X8_gate_2 9 (85, .invokevirtual 131, 3) rfl
theorem dX8_gate_88 : decode cX8_gate 88 = .ok (.iastore, 1) := tb_d tk_X8_gate_2 10 (88, .iastore, 1) rfl
theorem dX8_gate_89 : decode cX8_gate 89 = .ok (.aload_n 0, 1) := tb_d tk_X8_gate_2 11 (89, .aload_n 0, 1) rfl
theorem dX8_gate_90 : decode cX8_gate 90 = .ok (.getfield 28, 3) := tb_d tk_X8_gate_2 12 (90, .getfield 28, 3) rfl
theorem dX8_gate_93 : decode cX8_gate 93 = .ok (.iconst 2, 1) := tb_d tk_X8_gate_2 13 (93, .iconst 2, 1) rfl
theorem dX8_gate_94 : decode cX8_gate 94 = .ok (.aload_n 0, 1) := tb_d tk_X8_gate_2 14 (94, .aload_n 0, 1) rfl
theorem dX8_gate_95 : decode cX8_gate 95 = .ok (.iconst 0, 1) := tb_d tk_X8_gate_2 15 (95, .iconst 0, 1) rfl
theorem dX8_gate_96 : decode cX8_gate 96 = .ok (.bipush 6, 2) := tb_d tk_X8_gate_2 16 (96, .bipush 6, 2) rfl
theorem dX8_gate_98 : decode cX8_gate 98 = .ok (.invokevirtual 131, 3) := tb_d tk_X8_gate_2 17 (98, .invokevirtual 131, 3) rfl
theorem dX8_gate_101 : decode cX8_gate 101 = .ok (.iastore, 1) := tb_d tk_X8_gate_2 18 (101, .iastore, 1) rfl
theorem dX8_gate_102 : decode cX8_gate 102 = .ok (.aload_n 0, 1) := tb_d tk_X8_gate_2 19 (102, .aload_n 0, 1) rfl
theorem dX8_gate_103 : decode cX8_gate 103 = .ok (.aload_n 0, 1) := tb_d tk_X8_gate_2 20 (103, .aload_n 0, 1) rfl
theorem dX8_gate_104 : decode cX8_gate 104 = .ok (.getfield 98, 3) := tb_d tk_X8_gate_2 21 (104, .getfield 98, 3) rfl
theorem dX8_gate_107 : decode cX8_gate 107 = .ok (.iconst 4, 1) := tb_d tk_X8_gate_2 22 (107, .iconst 4, 1) rfl
theorem dX8_gate_108 : decode cX8_gate 108 = .ok (.if_icmp .ne 7, 3) := tb_d tk_X8_gate_2 23 (108, .if_icmp .ne 7, 3) rfl
theorem dX8_gate_111 : decode cX8_gate 111 = .ok (.iconst 1, 1) := tb_d tk_X8_gate_2 24 (111, .iconst 1, 1) rfl
theorem dX8_gate_112 : decode cX8_gate 112 = .ok (.goto 4, 3) := tb_d tk_X8_gate_2 25 (112, .goto 4, 3) rfl
theorem dX8_gate_115 : decode cX8_gate 115 = .ok (.iconst 0, 1) := tb_d tk_X8_gate_2 26 (115, .iconst 0, 1) rfl
theorem dX8_gate_116 : decode cX8_gate 116 = .ok (.iconst 1, 1) := tb_d tk_X8_gate_2 27 (116, .iconst 1, 1) rfl
theorem dX8_gate_117 : decode cX8_gate 117 = .ok (.invokevirtual 114, 3) := tb_d tk_X8_gate_2 28 (117, .invokevirtual 114, 3) rfl
theorem dX8_gate_120 : decode cX8_gate 120 = .ok (.pop, 1) := tb_d tk_X8_gate_2 29 (120, .pop, 1) rfl
theorem dX8_gate_121 : decode cX8_gate 121 = .ok (.aload_n 0, 1) := tb_d tk_X8_gate_2 30 (121, .aload_n 0, 1) rfl
theorem dX8_gate_122 : decode cX8_gate 122 = .ok (.aload_n 0, 1) := tb_d tk_X8_gate_2 31 (122, .aload_n 0, 1) rfl
theorem dX8_gate_123 : decode cX8_gate 123 = .ok (.getfield 98, 3) := tb_d tk_X8_gate_2 32 (123, .getfield 98, 3) rfl
theorem dX8_gate_126 : decode cX8_gate 126 = .ok (.iconst 1, 1) := tb_d tk_X8_gate_2 33 (126, .iconst 1, 1) rfl
theorem dX8_gate_127 : decode cX8_gate 127 = .ok (.if_icmp .ne 16, 3) := tb_d tk_X8_gate_2 34 (127, .if_icmp .ne 16, 3) rfl
theorem dX8_gate_130 : decode cX8_gate 130 = .ok (.aload_n 0, 1) := tb_d tk_X8_gate_2 35 (130, .aload_n 0, 1) rfl
theorem dX8_gate_131 : decode cX8_gate 131 = .ok (.getfield 95, 3) := tb_d tk_X8_gate_2 36 (131, .getfield 95, 3) rfl
theorem dX8_gate_134 : decode cX8_gate 134 = .ok (.bipush 119, 2) := tb_d tk_X8_gate_2 37 (134, .bipush 119, 2) rfl
theorem dX8_gate_136 : decode cX8_gate 136 = .ok (.if_icmp .ne 7, 3) := tb_d tk_X8_gate_2 38 (136, .if_icmp .ne 7, 3) rfl
theorem dX8_gate_139 : decode cX8_gate 139 = .ok (.iconst 1, 1) := tb_d tk_X8_gate_2 39 (139, .iconst 1, 1) rfl
def tb_X8_gate_3 : List (Nat × Instr × Nat) := [(140, .goto 4, 3), (143, .iconst 0, 1), (144, .invokevirtual 134, 3), (147, .aload_n 0, 1), (148, .invokevirtual 104, 3), (151, .ifCond .eq 27, 3), (154, .aload_n 0, 1), (155, .getfield 98, 3), (158, .iconst 1, 1), (159, .if_icmp .ne 19, 3), (162, .aload_n 0, 1), (163, .getfield 95, 3), (166, .bipush 119, 2), (168, .if_icmp .ne 10, 3), (171, .aload_n 0, 1), (172, .invokevirtual 138, 3), (175, .goto (-28), 3), (178, .aload_n 0, 1), (179, .aload_n 0, 1), (180, .getfield 98, 3), (183, .iconst 1, 1), (184, .if_icmp .ne 17, 3), (187, .aload_n 0, 1), (188, .getfield 95, 3), (191, .invokestatic 128, 3), (194, .ifCond .le 7, 3), (197, .iconst 1, 1), (198, .goto 4, 3), (201, .iconst 0, 1), (202, .invokevirtual 134, 3), (205, .aload_n 0, 1), (206, .invokevirtual 104, 3), (209, .ifCond .eq 28, 3), (212, .aload_n 0, 1), (213, .getfield 98, 3), (216, .iconst 1, 1), (217, .if_icmp .ne 20, 3), (220, .aload_n 0, 1), (221, .getfield 95, 3), (224, .invokestatic 128, 3)]
set_option maxRecDepth 100000 in
theorem tk_X8_gate_3 : (tb_X8_gate_3.all fun q => decide (decode cX8_gate q.1 = .ok q.2)) = true := by decide +kernel
theorem dX8_gate_140 : decode cX8_gate 140 = .ok (.goto 4, 3) := tb_d tk_X8_gate_3 0 (140, .goto 4, 3) rfl
theorem dX8_gate_143 : decode cX8_gate 143 = .ok (.iconst 0, 1) := tb_d tk_X8_gate_3 1 (143, .iconst 0, 1) rfl
theorem dX8_gate_144 : decode cX8_gate 144 = .ok (.invokevirtual 134, 3) := tb_d tk_X8_gate_3 2 (144, .invokevirtual 134, 3) rfl
theorem dX8_gate_147 : decode cX8_gate 147 = .ok (.aload_n 0, 1) := tb_d tk_X8_gate_3 3 (147, .aload_n 0, 1) rfl
theorem dX8_gate_148 : decode cX8_gate 148 = .ok (.invokevirtual 104, 3) := tb_d tk_X8_gate_3 4 (148, .invokevirtual 104, 3) rfl
theorem dX8_gate_151 : decode cX8_gate 151 = .ok (.ifCond .eq 27, 3) := tb_d tk_X8_gate_3 5 (151, .ifCond .eq 27, 3) rfl
theorem dX8_gate_154 : decode cX8_gate 154 = .ok (.aload_n 0, 1) := tb_d tk_X8_gate_3 6 (154, .aload_n 0, 1) rfl
theorem dX8_gate_155 : decode cX8_gate 155 = .ok (.getfield 98, 3) := tb_d tk_X8_gate_3 7 (155, .getfield 98, 3) rfl
theorem dX8_gate_158 : decode cX8_gate 158 = .ok (.iconst 1, 1) := tb_d tk_X8_gate_3 8 (158, .iconst 1, 1) rfl
theorem dX8_gate_159 : decode cX8_gate 159 = .ok (.if_icmp .ne 19, 3) := tb_d tk_X8_gate_3 9 (159, .if_icmp .ne 19, 3) rfl
theorem dX8_gate_162 : decode cX8_gate 162 = .ok (.aload_n 0, 1) := tb_d tk_X8_gate_3 10 (162, .aload_n 0, 1) rfl
theorem dX8_gate_163 : decode cX8_gate 163 = .ok (.getfield 95, 3) := tb_d tk_X8_gate_3 11 (163, .getfield 95, 3) rfl
theorem dX8_gate_166 : decode cX8_gate 166 = .ok (.bipush 119, 2) := tb_d tk_X8_gate_3 12 (166, .bipush 119, 2) rfl
theorem dX8_gate_168 : decode cX8_gate 168 = .ok (.if_icmp .ne 10, 3) := tb_d tk_X8_gate_3 13 (168, .if_icmp .ne 10, 3) rfl
theorem dX8_gate_171 : decode cX8_gate 171 = .ok (.aload_n 0, 1) := tb_d tk_X8_gate_3 14 (171, .aload_n 0, 1) rfl
theorem dX8_gate_172 : decode cX8_gate 172 = .ok (.invokevirtual 138, 3) := tb_d tk_X8_gate_3 15 (172, .invokevirtual 138, 3) rfl
theorem dX8_gate_175 : decode cX8_gate 175 = .ok (.goto (-28), 3) := tb_d tk_X8_gate_3 16 (175, .goto (-28), 3) rfl
theorem dX8_gate_178 : decode cX8_gate 178 = .ok (.aload_n 0, 1) := tb_d tk_X8_gate_3 17 (178, .aload_n 0, 1) rfl
theorem dX8_gate_179 : decode cX8_gate 179 = .ok (.aload_n 0, 1) := tb_d tk_X8_gate_3 18 (179, .aload_n 0, 1) rfl
theorem dX8_gate_180 : decode cX8_gate 180 = .ok (.getfield 98, 3) := tb_d tk_X8_gate_3 19 (180, .getfield 98, 3) rfl
theorem dX8_gate_183 : decode cX8_gate 183 = .ok (.iconst 1, 1) := tb_d tk_X8_gate_3 20 (183, .iconst 1, 1) rfl
theorem dX8_gate_184 : decode cX8_gate 184 = .ok (.if_icmp .ne 17, 3) := tb_d tk_X8_gate_3 21 (184, .if_icmp .ne 17, 3) rfl
theorem dX8_gate_187 : decode cX8_gate 187 = .ok (.aload_n 0, 1) := tb_d tk_X8_gate_3 22 (187, .aload_n 0, 1) rfl
theorem dX8_gate_188 : decode cX8_gate 188 = .ok (.getfield 95, 3) := tb_d tk_X8_gate_3 23 (188, .getfield 95, 3) rfl
theorem dX8_gate_191 : decode cX8_gate 191 = .ok (.invokestatic 128, 3) := tb_d tk_X8_gate_3 24 (191, .invokestatic 128, 3) rfl
theorem dX8_gate_194 : decode cX8_gate 194 = .ok (.ifCond .le 7, 3) := tb_d tk_X8_gate_3 25 (194, .ifCond .le 7, 3) rfl
theorem dX8_gate_197 : decode cX8_gate 197 = .ok (.iconst 1, 1) := tb_d tk_X8_gate_3 26 (197, .iconst 1, 1) rfl
theorem dX8_gate_198 : decode cX8_gate 198 = .ok (.goto 4, 3) := tb_d tk_X8_gate_3 27 (198, .goto 4, 3) rfl
theorem dX8_gate_201 : decode cX8_gate 201 = .ok (.iconst 0, 1) := tb_d tk_X8_gate_3 28 (201, .iconst 0, 1) rfl
theorem dX8_gate_202 : decode cX8_gate 202 = .ok (.invokevirtual 134, 3) := tb_d tk_X8_gate_3 29 (202, .invokevirtual 134, 3) rfl
theorem dX8_gate_205 : decode cX8_gate 205 = .ok (.aload_n 0, 1) := tb_d tk_X8_gate_3 30 (205, .aload_n 0, 1) rfl
theorem dX8_gate_206 : decode cX8_gate 206 = .ok (.invokevirtual 104, 3) := tb_d tk_X8_gate_3 31 (206, .invokevirtual 104, 3) rfl
theorem dX8_gate_209 : decode cX8_gate 209 = .ok (.ifCond .eq 28, 3) := tb_d tk_X8_gate_3 32 (209, .ifCond .eq 28, 3) rfl
theorem dX8_gate_212 : decode cX8_gate 212 = .ok (.aload_n 0, 1) := tb_d tk_X8_gate_3 33 (212, .aload_n 0, 1) rfl
theorem dX8_gate_213 : decode cX8_gate 213 = .ok (.getfield 98, 3) := tb_d tk_X8_gate_3 34 (213, .getfield 98, 3) rfl
theorem dX8_gate_216 : decode cX8_gate 216 = .ok (.iconst 1, 1) := tb_d tk_X8_gate_3 35 (216, .iconst 1, 1) rfl
theorem dX8_gate_217 : decode cX8_gate 217 = .ok (.if_icmp .ne 20, 3) := tb_d tk_X8_gate_3 36 (217, .if_icmp .ne 20, 3) rfl
theorem dX8_gate_220 : decode cX8_gate 220 = .ok (.aload_n 0, 1) := tb_d tk_X8_gate_3 37 (220, .aload_n 0, 1) rfl
theorem dX8_gate_221 : decode cX8_gate 221 = .ok (.getfield 95, 3) := tb_d tk_X8_gate_3 38 (221, .getfield 95, 3) rfl
theorem dX8_gate_224 : decode cX8_gate 224 = .ok (.invokestatic 128, 3) := tb_d tk_X8_gate_3 39 (224, .invokestatic 128, 3) rfl
def tb_X8_gate_4 : List (Nat × Instr × Nat) := [(227, .ifCond .le 10, 3), (230, .aload_n 0, 1), (231, .invokevirtual 141, 3), (234, .goto (-29), 3), (237, .aload_n 0, 1), (238, .aload_n 0, 1), (239, .getfield 98, 3), (242, .ifCond .ne 7, 3), (245, .iconst 1, 1), (246, .goto 4, 3), (249, .iconst 0, 1), (250, .invokevirtual 134, 3), (253, .aload_n 0, 1), (254, .iconst 0, 1), (255, .putfield 82, 3), (258, .aload_n 0, 1), (259, .invokevirtual 104, 3), (262, .ifCond .ne 11, 3), (265, .ldc 144, 2), (267, .aload_n 0, 1), (268, .getfield 101, 3), (271, .isub, 1), (272, .ireturn, 1), (273, .aload_n 0, 1), (274, .getfield 28, 3), (277, .iconst 0, 1), (278, .aload_n 0, 1), (279, .getfield 25, 3), (282, .iconst 0, 1), (283, .invokestatic 145, 3), (286, .aload_n 0, 1), (287, .iconst 0, 1), (288, .putfield 149, 3), (291, .aload_n 0, 1), (292, .getfield 25, 3), (295, .iconst 3, 1), (296, .iaload, 1), (297, .ireturn, 1)]
set_option maxRecDepth 100000 in
theorem tk_X8_gate_4 : (tb_X8_gate_4.all fun q => decide (decode cX8_gate q.1 = .ok q.2)) = true := by decide +kernel
theorem dX8_gate_227 : decode cX8_gate 227 = .ok (.ifCond .le 10, 3) := tb_d tk_X8_gate_4 0 (227, .ifCond .le 10, 3) rfl
theorem dX8_gate_230 : decode cX8_gate 230 = .ok (.aload_n 0, 1) := tb_d tk_X8_gate_4 1 (230, .aload_n 0, 1) rfl
theorem dX8_gate_231 : decode cX8_gate 231 = .ok (.invokevirtual 141, 3) := tb_d tk_X8_gate_4 2 (231, .invokevirtual 141, 3) rfl
theorem dX8_gate_234 : decode cX8_gate 234 = .ok (.goto (-29), 3) := tb_d tk_X8_gate_4 3 (234, .goto (-29), 3) rfl
theorem dX8_gate_237 : decode cX8_gate 237 = .ok (.aload_n 0, 1) := tb_d tk_X8_gate_4 4 (237, .aload_n 0, 1) rfl
theorem dX8_gate_238 : decode cX8_gate 238 = .ok (.aload_n 0, 1) := tb_d tk_X8_gate_4 5 (238, .aload_n 0, 1) rfl
theorem dX8_gate_239 : decode cX8_gate 239 = .ok (.getfield 98, 3) := tb_d tk_X8_gate_4 6 (239, .getfield 98, 3) rfl
theorem dX8_gate_242 : decode cX8_gate 242 = .ok (.ifCond .ne 7, 3) := tb_d tk_X8_gate_4 7 (242, .ifCond .ne 7, 3) rfl
theorem dX8_gate_245 : decode cX8_gate 245 = .ok (.iconst 1, 1) := tb_d tk_X8_gate_4 8 (245, .iconst 1, 1) rfl
theorem dX8_gate_246 : decode cX8_gate 246 = .ok (.goto 4, 3) := tb_d tk_X8_gate_4 9 (246, .goto 4, 3) rfl
theorem dX8_gate_249 : decode cX8_gate 249 = .ok (.iconst 0, 1) := tb_d tk_X8_gate_4 10 (249, .iconst 0, 1) rfl
theorem dX8_gate_250 : decode cX8_gate 250 = .ok (.invokevirtual 134, 3) := tb_d tk_X8_gate_4 11 (250, .invokevirtual 134, 3) rfl
theorem dX8_gate_253 : decode cX8_gate 253 = .ok (.aload_n 0, 1) := tb_d tk_X8_gate_4 12 (253, .aload_n 0, 1) rfl
theorem dX8_gate_254 : decode cX8_gate 254 = .ok (.iconst 0, 1) := tb_d tk_X8_gate_4 13 (254, .iconst 0, 1) rfl
theorem dX8_gate_255 : decode cX8_gate 255 = .ok (.putfield 82, 3) := tb_d tk_X8_gate_4 14 (255, .putfield 82, 3) rfl
theorem dX8_gate_258 : decode cX8_gate 258 = .ok (.aload_n 0, 1) := tb_d tk_X8_gate_4 15 (258, .aload_n 0, 1) rfl
theorem dX8_gate_259 : decode cX8_gate 259 = .ok (.invokevirtual 104, 3) := tb_d tk_X8_gate_4 16 (259, .invokevirtual 104, 3) rfl
theorem dX8_gate_262 : decode cX8_gate 262 = .ok (.ifCond .ne 11, 3) := tb_d tk_X8_gate_4 17 (262, .ifCond .ne 11, 3) rfl
theorem dX8_gate_265 : decode cX8_gate 265 = .ok (.ldc 144, 2) := tb_d tk_X8_gate_4 18 (265, .ldc 144, 2) rfl
theorem dX8_gate_267 : decode cX8_gate 267 = .ok (.aload_n 0, 1) := tb_d tk_X8_gate_4 19 (267, .aload_n 0, 1) rfl
theorem dX8_gate_268 : decode cX8_gate 268 = .ok (.getfield 101, 3) := tb_d tk_X8_gate_4 20 (268, .getfield 101, 3) rfl
theorem dX8_gate_271 : decode cX8_gate 271 = .ok (.isub, 1) := tb_d tk_X8_gate_4 21 (271, .isub, 1) rfl
theorem dX8_gate_272 : decode cX8_gate 272 = .ok (.ireturn, 1) := tb_d tk_X8_gate_4 22 (272, .ireturn, 1) rfl
theorem dX8_gate_273 : decode cX8_gate 273 = .ok (.aload_n 0, 1) := tb_d tk_X8_gate_4 23 (273, .aload_n 0, 1) rfl
theorem dX8_gate_274 : decode cX8_gate 274 = .ok (.getfield 28, 3) := tb_d tk_X8_gate_4 24 (274, .getfield 28, 3) rfl
theorem dX8_gate_277 : decode cX8_gate 277 = .ok (.iconst 0, 1) := tb_d tk_X8_gate_4 25 (277, .iconst 0, 1) rfl
theorem dX8_gate_278 : decode cX8_gate 278 = .ok (.aload_n 0, 1) := tb_d tk_X8_gate_4 26 (278, .aload_n 0, 1) rfl
theorem dX8_gate_279 : decode cX8_gate 279 = .ok (.getfield 25, 3) := tb_d tk_X8_gate_4 27 (279, .getfield 25, 3) rfl
theorem dX8_gate_282 : decode cX8_gate 282 = .ok (.iconst 0, 1) := tb_d tk_X8_gate_4 28 (282, .iconst 0, 1) rfl
theorem dX8_gate_283 : decode cX8_gate 283 = .ok (.invokestatic 145, 3) := tb_d tk_X8_gate_4 29 (283, .invokestatic 145, 3) rfl
theorem dX8_gate_286 : decode cX8_gate 286 = .ok (.aload_n 0, 1) := tb_d tk_X8_gate_4 30 (286, .aload_n 0, 1) rfl
theorem dX8_gate_287 : decode cX8_gate 287 = .ok (.iconst 0, 1) := tb_d tk_X8_gate_4 31 (287, .iconst 0, 1) rfl
theorem dX8_gate_288 : decode cX8_gate 288 = .ok (.putfield 149, 3) := tb_d tk_X8_gate_4 32 (288, .putfield 149, 3) rfl
theorem dX8_gate_291 : decode cX8_gate 291 = .ok (.aload_n 0, 1) := tb_d tk_X8_gate_4 33 (291, .aload_n 0, 1) rfl
theorem dX8_gate_292 : decode cX8_gate 292 = .ok (.getfield 25, 3) := tb_d tk_X8_gate_4 34 (292, .getfield 25, 3) rfl
theorem dX8_gate_295 : decode cX8_gate 295 = .ok (.iconst 3, 1) := tb_d tk_X8_gate_4 35 (295, .iconst 3, 1) rfl
theorem dX8_gate_296 : decode cX8_gate 296 = .ok (.iaload, 1) := tb_d tk_X8_gate_4 36 (296, .iaload, 1) rfl
theorem dX8_gate_297 : decode cX8_gate 297 = .ok (.ireturn, 1) := tb_d tk_X8_gate_4 37 (297, .ireturn, 1) rfl
def tb_X8_fault_1 : List (Nat × Instr × Nat) := [(0, .aload_n 0, 1), (1, .getfield 108, 3), (4, .ireturn, 1)]
set_option maxRecDepth 100000 in
theorem tk_X8_fault_1 : (tb_X8_fault_1.all fun q => decide (decode cX8_fault q.1 = .ok q.2)) = true := by decide +kernel
theorem dX8_fault_0 : decode cX8_fault 0 = .ok (.aload_n 0, 1) := tb_d tk_X8_fault_1 0 (0, .aload_n 0, 1) rfl
theorem dX8_fault_1 : decode cX8_fault 1 = .ok (.getfield 108, 3) := tb_d tk_X8_fault_1 1 (1, .getfield 108, 3) rfl
theorem dX8_fault_4 : decode cX8_fault 4 = .ok (.ireturn, 1) := tb_d tk_X8_fault_1 2 (4, .ireturn, 1) rfl
def tb_X8_isGate_1 : List (Nat × Instr × Nat) := [(0, .aload_n 0, 1), (1, .getfield 25, 3), (4, .iconst 3, 1), (5, .iaload, 1), (6, .ifCond .le 7, 3), (9, .iconst 1, 1), (10, .goto 4, 3), (13, .iconst 0, 1), (14, .ireturn, 1)]
set_option maxRecDepth 100000 in
theorem tk_X8_isGate_1 : (tb_X8_isGate_1.all fun q => decide (decode cX8_isGate q.1 = .ok q.2)) = true := by decide +kernel
theorem dX8_isGate_0 : decode cX8_isGate 0 = .ok (.aload_n 0, 1) := tb_d tk_X8_isGate_1 0 (0, .aload_n 0, 1) rfl
theorem dX8_isGate_1 : decode cX8_isGate 1 = .ok (.getfield 25, 3) := tb_d tk_X8_isGate_1 1 (1, .getfield 25, 3) rfl
theorem dX8_isGate_4 : decode cX8_isGate 4 = .ok (.iconst 3, 1) := tb_d tk_X8_isGate_1 2 (4, .iconst 3, 1) rfl
theorem dX8_isGate_5 : decode cX8_isGate 5 = .ok (.iaload, 1) := tb_d tk_X8_isGate_1 3 (5, .iaload, 1) rfl
theorem dX8_isGate_6 : decode cX8_isGate 6 = .ok (.ifCond .le 7, 3) := tb_d tk_X8_isGate_1 4 (6, .ifCond .le 7, 3) rfl
theorem dX8_isGate_9 : decode cX8_isGate 9 = .ok (.iconst 1, 1) := tb_d tk_X8_isGate_1 5 (9, .iconst 1, 1) rfl
theorem dX8_isGate_10 : decode cX8_isGate 10 = .ok (.goto 4, 3) := tb_d tk_X8_isGate_1 6 (10, .goto 4, 3) rfl
theorem dX8_isGate_13 : decode cX8_isGate 13 = .ok (.iconst 0, 1) := tb_d tk_X8_isGate_1 7 (13, .iconst 0, 1) rfl
theorem dX8_isGate_14 : decode cX8_isGate 14 = .ok (.ireturn, 1) := tb_d tk_X8_isGate_1 8 (14, .ireturn, 1) rfl
theorem ggX8_isWord_X8_in : GoodIn wsX8_isWord wsX8_in := fun w h => ⟨List.mem_cons_of_mem _ (List.mem_append_right _ (List.mem_append_right _ (List.mem_append_right _ (List.mem_append_left _ h)))), good_of_word (gdX8_in w h)⟩
set_option maxRecDepth 20000 in
theorem gX8_isWord_X8_in : GoodIn wsX8_isWord (va_wsS RX8 56 yX8_in wsX8_in) := goodIn_app (a := bkS RX8 56 yX8_in) (fun w h => ⟨List.mem_cons_of_mem _ (List.mem_append_right _ (List.mem_append_left _ h)), good_of_word (gd_bS _ _ _ w h)⟩) ggX8_isWord_X8_in
def tb_X8_isWord_1 : List (Nat × Instr × Nat) := [(0, .iload_n 1, 1), (1, .iconst 0, 1), (2, .aload_n 0, 1), (3, .getfield 25, 3), (6, .iconst 3, 1), (7, .iaload, 1), (8, .iconst 1, 1), (9, .isub, 1), (10, .invokestatic 56, 3), (13, .ireturn, 1)]
set_option maxRecDepth 100000 in
theorem tk_X8_isWord_1 : (tb_X8_isWord_1.all fun q => decide (decode cX8_isWord q.1 = .ok q.2)) = true := by decide +kernel
theorem dX8_isWord_0 : decode cX8_isWord 0 = .ok (.iload_n 1, 1) := tb_d tk_X8_isWord_1 0 (0, .iload_n 1, 1) rfl
theorem dX8_isWord_1 : decode cX8_isWord 1 = .ok (.iconst 0, 1) := tb_d tk_X8_isWord_1 1 (1, .iconst 0, 1) rfl
theorem dX8_isWord_2 : decode cX8_isWord 2 = .ok (.aload_n 0, 1) := tb_d tk_X8_isWord_1 2 (2, .aload_n 0, 1) rfl
theorem dX8_isWord_3 : decode cX8_isWord 3 = .ok (.getfield 25, 3) := tb_d tk_X8_isWord_1 3 (3, .getfield 25, 3) rfl
theorem dX8_isWord_6 : decode cX8_isWord 6 = .ok (.iconst 3, 1) := tb_d tk_X8_isWord_1 4 (6, .iconst 3, 1) rfl
theorem dX8_isWord_7 : decode cX8_isWord 7 = .ok (.iaload, 1) := tb_d tk_X8_isWord_1 5 (7, .iaload, 1) rfl
theorem dX8_isWord_8 : decode cX8_isWord 8 = .ok (.iconst 1, 1) := tb_d tk_X8_isWord_1 6 (8, .iconst 1, 1) rfl
theorem dX8_isWord_9 : decode cX8_isWord 9 = .ok (.isub, 1) := tb_d tk_X8_isWord_1 7 (9, .isub, 1) rfl
theorem dX8_isWord_10 : decode cX8_isWord 10 = .ok (.invokestatic 56, 3) := tb_d tk_X8_isWord_1 8 (10, .invokestatic 56, 3) rfl
theorem dX8_isWord_13 : decode cX8_isWord 13 = .ok (.ireturn, 1) := tb_d tk_X8_isWord_1 9 (13, .ireturn, 1) rfl
theorem ggX8_isGuard_X8_in : GoodIn wsX8_isGuard wsX8_in := fun w h => ⟨List.mem_cons_of_mem _ (List.mem_append_right _ (List.mem_append_right _ (List.mem_append_right _ (List.mem_append_left _ h)))), good_of_word (gdX8_in w h)⟩
set_option maxRecDepth 20000 in
theorem gX8_isGuard_X8_in : GoodIn wsX8_isGuard (va_wsS RX8 56 yX8_in wsX8_in) := goodIn_app (a := bkS RX8 56 yX8_in) (fun w h => ⟨List.mem_cons_of_mem _ (List.mem_append_right _ (List.mem_append_left _ h)), good_of_word (gd_bS _ _ _ w h)⟩) ggX8_isGuard_X8_in
def tb_X8_isGuard_1 : List (Nat × Instr × Nat) := [(0, .iload_n 1, 1), (1, .iconst 0, 1), (2, .aload_n 0, 1), (3, .getfield 25, 3), (6, .iconst 4, 1), (7, .iaload, 1), (8, .iconst 1, 1), (9, .isub, 1), (10, .invokestatic 56, 3), (13, .ireturn, 1)]
set_option maxRecDepth 100000 in
theorem tk_X8_isGuard_1 : (tb_X8_isGuard_1.all fun q => decide (decode cX8_isGuard q.1 = .ok q.2)) = true := by decide +kernel
theorem dX8_isGuard_0 : decode cX8_isGuard 0 = .ok (.iload_n 1, 1) := tb_d tk_X8_isGuard_1 0 (0, .iload_n 1, 1) rfl
theorem dX8_isGuard_1 : decode cX8_isGuard 1 = .ok (.iconst 0, 1) := tb_d tk_X8_isGuard_1 1 (1, .iconst 0, 1) rfl
theorem dX8_isGuard_2 : decode cX8_isGuard 2 = .ok (.aload_n 0, 1) := tb_d tk_X8_isGuard_1 2 (2, .aload_n 0, 1) rfl
theorem dX8_isGuard_3 : decode cX8_isGuard 3 = .ok (.getfield 25, 3) := tb_d tk_X8_isGuard_1 3 (3, .getfield 25, 3) rfl
theorem dX8_isGuard_6 : decode cX8_isGuard 6 = .ok (.iconst 4, 1) := tb_d tk_X8_isGuard_1 4 (6, .iconst 4, 1) rfl
theorem dX8_isGuard_7 : decode cX8_isGuard 7 = .ok (.iaload, 1) := tb_d tk_X8_isGuard_1 5 (7, .iaload, 1) rfl
theorem dX8_isGuard_8 : decode cX8_isGuard 8 = .ok (.iconst 1, 1) := tb_d tk_X8_isGuard_1 6 (8, .iconst 1, 1) rfl
theorem dX8_isGuard_9 : decode cX8_isGuard 9 = .ok (.isub, 1) := tb_d tk_X8_isGuard_1 7 (9, .isub, 1) rfl
theorem dX8_isGuard_10 : decode cX8_isGuard 10 = .ok (.invokestatic 56, 3) := tb_d tk_X8_isGuard_1 8 (10, .invokestatic 56, 3) rfl
theorem dX8_isGuard_13 : decode cX8_isGuard 13 = .ok (.ireturn, 1) := tb_d tk_X8_isGuard_1 9 (13, .ireturn, 1) rfl
theorem ggX8_isHour_X8_in : GoodIn wsX8_isHour wsX8_in := fun w h => ⟨List.mem_cons_of_mem _ (List.mem_append_right _ (List.mem_append_right _ (List.mem_append_left _ h))), good_of_word (gdX8_in w h)⟩
set_option maxRecDepth 20000 in
theorem gX8_isHour_X8_in : GoodIn wsX8_isHour (va_wsS RX8 56 yX8_in wsX8_in) := goodIn_app (a := bkS RX8 56 yX8_in) (fun w h => ⟨List.mem_cons_of_mem _ (List.mem_append_right _ (List.mem_append_left _ h)), good_of_word (gd_bS _ _ _ w h)⟩) ggX8_isHour_X8_in
def tb_X8_isHour_1 : List (Nat × Instr × Nat) := [(0, .iload_n 0, 1), (1, .iconst 0, 1), (2, .iconst 5, 1), (3, .invokestatic 56, 3), (6, .ireturn, 1)]
set_option maxRecDepth 100000 in
theorem tk_X8_isHour_1 : (tb_X8_isHour_1.all fun q => decide (decode cX8_isHour q.1 = .ok q.2)) = true := by decide +kernel
theorem dX8_isHour_0 : decode cX8_isHour 0 = .ok (.iload_n 0, 1) := tb_d tk_X8_isHour_1 0 (0, .iload_n 0, 1) rfl
theorem dX8_isHour_1 : decode cX8_isHour 1 = .ok (.iconst 0, 1) := tb_d tk_X8_isHour_1 1 (1, .iconst 0, 1) rfl
theorem dX8_isHour_2 : decode cX8_isHour 2 = .ok (.iconst 5, 1) := tb_d tk_X8_isHour_1 2 (2, .iconst 5, 1) rfl
theorem dX8_isHour_3 : decode cX8_isHour 3 = .ok (.invokestatic 56, 3) := tb_d tk_X8_isHour_1 3 (3, .invokestatic 56, 3) rfl
theorem dX8_isHour_6 : decode cX8_isHour 6 = .ok (.ireturn, 1) := tb_d tk_X8_isHour_1 4 (6, .ireturn, 1) rfl
theorem ggX8_isFar_X8_in : GoodIn wsX8_isFar wsX8_in := fun w h => ⟨List.mem_cons_of_mem _ (List.mem_append_right _ (List.mem_append_right _ (List.mem_append_left _ h))), good_of_word (gdX8_in w h)⟩
set_option maxRecDepth 20000 in
theorem gX8_isFar_X8_in : GoodIn wsX8_isFar (va_wsS RX8 56 yX8_in wsX8_in) := goodIn_app (a := bkS RX8 56 yX8_in) (fun w h => ⟨List.mem_cons_of_mem _ (List.mem_append_right _ (List.mem_append_left _ h)), good_of_word (gd_bS _ _ _ w h)⟩) ggX8_isFar_X8_in
def tb_X8_isFar_1 : List (Nat × Instr × Nat) := [(0, .iload_n 0, 1), (1, .iconst 0, 1), (2, .bipush 60, 2), (4, .invokestatic 56, 3), (7, .ireturn, 1)]
set_option maxRecDepth 100000 in
theorem tk_X8_isFar_1 : (tb_X8_isFar_1.all fun q => decide (decode cX8_isFar q.1 = .ok q.2)) = true := by decide +kernel
theorem dX8_isFar_0 : decode cX8_isFar 0 = .ok (.iload_n 0, 1) := tb_d tk_X8_isFar_1 0 (0, .iload_n 0, 1) rfl
theorem dX8_isFar_1 : decode cX8_isFar 1 = .ok (.iconst 0, 1) := tb_d tk_X8_isFar_1 1 (1, .iconst 0, 1) rfl
theorem dX8_isFar_2 : decode cX8_isFar 2 = .ok (.bipush 60, 2) := tb_d tk_X8_isFar_1 2 (2, .bipush 60, 2) rfl
theorem dX8_isFar_4 : decode cX8_isFar 4 = .ok (.invokestatic 56, 3) := tb_d tk_X8_isFar_1 3 (4, .invokestatic 56, 3) rfl
theorem dX8_isFar_7 : decode cX8_isFar 7 = .ok (.ireturn, 1) := tb_d tk_X8_isFar_1 4 (7, .ireturn, 1) rfl
theorem ggX8_areWords_X8_in : GoodIn wsX8_areWords wsX8_in := fun w h => ⟨List.mem_cons_of_mem _ (List.mem_append_right _ (List.mem_append_right _ (List.mem_append_right _ (List.mem_append_left _ h)))), good_of_word (gdX8_in w h)⟩
set_option maxRecDepth 20000 in
theorem gX8_areWords_X8_in : GoodIn wsX8_areWords (va_wsS RX8 56 yX8_in wsX8_in) := goodIn_app (a := bkS RX8 56 yX8_in) (fun w h => ⟨List.mem_cons_of_mem _ (List.mem_append_right _ (List.mem_append_left _ h)), good_of_word (gd_bS _ _ _ w h)⟩) ggX8_areWords_X8_in
def tb_X8_areWords_1 : List (Nat × Instr × Nat) := [(0, .iload_n 1, 1), (1, .iconst 0, 1), (2, .iconst 1, 1), (3, .aload_n 0, 1), (4, .getfield 25, 3), (7, .iconst 3, 1), (8, .iaload, 1), (9, .ishl, 1), (10, .iconst 1, 1), (11, .isub, 1), (12, .invokestatic 56, 3), (15, .ireturn, 1)]
set_option maxRecDepth 100000 in
theorem tk_X8_areWords_1 : (tb_X8_areWords_1.all fun q => decide (decode cX8_areWords q.1 = .ok q.2)) = true := by decide +kernel
theorem dX8_areWords_0 : decode cX8_areWords 0 = .ok (.iload_n 1, 1) := tb_d tk_X8_areWords_1 0 (0, .iload_n 1, 1) rfl
theorem dX8_areWords_1 : decode cX8_areWords 1 = .ok (.iconst 0, 1) := tb_d tk_X8_areWords_1 1 (1, .iconst 0, 1) rfl
theorem dX8_areWords_2 : decode cX8_areWords 2 = .ok (.iconst 1, 1) := tb_d tk_X8_areWords_1 2 (2, .iconst 1, 1) rfl
theorem dX8_areWords_3 : decode cX8_areWords 3 = .ok (.aload_n 0, 1) := tb_d tk_X8_areWords_1 3 (3, .aload_n 0, 1) rfl
theorem dX8_areWords_4 : decode cX8_areWords 4 = .ok (.getfield 25, 3) := tb_d tk_X8_areWords_1 4 (4, .getfield 25, 3) rfl
theorem dX8_areWords_7 : decode cX8_areWords 7 = .ok (.iconst 3, 1) := tb_d tk_X8_areWords_1 5 (7, .iconst 3, 1) rfl
theorem dX8_areWords_8 : decode cX8_areWords 8 = .ok (.iaload, 1) := tb_d tk_X8_areWords_1 6 (8, .iaload, 1) rfl
theorem dX8_areWords_9 : decode cX8_areWords 9 = .ok (.ishl, 1) := tb_d tk_X8_areWords_1 7 (9, .ishl, 1) rfl
theorem dX8_areWords_10 : decode cX8_areWords 10 = .ok (.iconst 1, 1) := tb_d tk_X8_areWords_1 8 (10, .iconst 1, 1) rfl
theorem dX8_areWords_11 : decode cX8_areWords 11 = .ok (.isub, 1) := tb_d tk_X8_areWords_1 9 (11, .isub, 1) rfl
theorem dX8_areWords_12 : decode cX8_areWords 12 = .ok (.invokestatic 56, 3) := tb_d tk_X8_areWords_1 10 (12, .invokestatic 56, 3) rfl
theorem dX8_areWords_15 : decode cX8_areWords 15 = .ok (.ireturn, 1) := tb_d tk_X8_areWords_1 11 (15, .ireturn, 1) rfl
def tb_X8_secretOf_1 : List (Nat × Instr × Nat) := [(0, .iload_n 1, 1), (1, .bipush 7, 2), (3, .irem, 1), (4, .aload_n 0, 1), (5, .iconst 2, 1), (6, .iaload, 1), (7, .if_icmp .ne 7, 3), (10, .iconst 0, 1), (11, .goto 16, 3), (14, .aload_n 0, 1), (15, .iconst 0, 1), (16, .iaload, 1), (17, .aload_n 0, 1), (18, .iconst 1, 1), (19, .iaload, 1), (20, .iload_n 1, 1), (21, .imul, 1), (22, .iadd, 1), (23, .aload_n 0, 1), (24, .iconst 3, 1), (25, .iaload, 1), (26, .irem, 1), (27, .ireturn, 1)]
set_option maxRecDepth 100000 in
theorem tk_X8_secretOf_1 : (tb_X8_secretOf_1.all fun q => decide (decode cX8_secretOf q.1 = .ok q.2)) = true := by decide +kernel
theorem dX8_secretOf_0 : decode cX8_secretOf 0 = .ok (.iload_n 1, 1) := tb_d tk_X8_secretOf_1 0 (0, .iload_n 1, 1) rfl
theorem dX8_secretOf_1 : decode cX8_secretOf 1 = .ok (.bipush 7, 2) := tb_d tk_X8_secretOf_1 1 (1, .bipush 7, 2) rfl
theorem dX8_secretOf_3 : decode cX8_secretOf 3 = .ok (.irem, 1) := tb_d tk_X8_secretOf_1 2 (3, .irem, 1) rfl
theorem dX8_secretOf_4 : decode cX8_secretOf 4 = .ok (.aload_n 0, 1) := tb_d tk_X8_secretOf_1 3 (4, .aload_n 0, 1) rfl
theorem dX8_secretOf_5 : decode cX8_secretOf 5 = .ok (.iconst 2, 1) := tb_d tk_X8_secretOf_1 4 (5, .iconst 2, 1) rfl
theorem dX8_secretOf_6 : decode cX8_secretOf 6 = .ok (.iaload, 1) := tb_d tk_X8_secretOf_1 5 (6, .iaload, 1) rfl
theorem dX8_secretOf_7 : decode cX8_secretOf 7 = .ok (.if_icmp .ne 7, 3) := tb_d tk_X8_secretOf_1 6 (7, .if_icmp .ne 7, 3) rfl
theorem dX8_secretOf_10 : decode cX8_secretOf 10 = .ok (.iconst 0, 1) := tb_d tk_X8_secretOf_1 7 (10, .iconst 0, 1) rfl
theorem dX8_secretOf_11 : decode cX8_secretOf 11 = .ok (.goto 16, 3) := tb_d tk_X8_secretOf_1 8 (11, .goto 16, 3) rfl
theorem dX8_secretOf_14 : decode cX8_secretOf 14 = .ok (.aload_n 0, 1) := tb_d tk_X8_secretOf_1 9 (14, .aload_n 0, 1) rfl
theorem dX8_secretOf_15 : decode cX8_secretOf 15 = .ok (.iconst 0, 1) := tb_d tk_X8_secretOf_1 10 (15, .iconst 0, 1) rfl
theorem dX8_secretOf_16 : decode cX8_secretOf 16 = .ok (.iaload, 1) := tb_d tk_X8_secretOf_1 11 (16, .iaload, 1) rfl
theorem dX8_secretOf_17 : decode cX8_secretOf 17 = .ok (.aload_n 0, 1) := tb_d tk_X8_secretOf_1 12 (17, .aload_n 0, 1) rfl
theorem dX8_secretOf_18 : decode cX8_secretOf 18 = .ok (.iconst 1, 1) := tb_d tk_X8_secretOf_1 13 (18, .iconst 1, 1) rfl
theorem dX8_secretOf_19 : decode cX8_secretOf 19 = .ok (.iaload, 1) := tb_d tk_X8_secretOf_1 14 (19, .iaload, 1) rfl
theorem dX8_secretOf_20 : decode cX8_secretOf 20 = .ok (.iload_n 1, 1) := tb_d tk_X8_secretOf_1 15 (20, .iload_n 1, 1) rfl
theorem dX8_secretOf_21 : decode cX8_secretOf 21 = .ok (.imul, 1) := tb_d tk_X8_secretOf_1 16 (21, .imul, 1) rfl
theorem dX8_secretOf_22 : decode cX8_secretOf 22 = .ok (.iadd, 1) := tb_d tk_X8_secretOf_1 17 (22, .iadd, 1) rfl
theorem dX8_secretOf_23 : decode cX8_secretOf 23 = .ok (.aload_n 0, 1) := tb_d tk_X8_secretOf_1 18 (23, .aload_n 0, 1) rfl
theorem dX8_secretOf_24 : decode cX8_secretOf 24 = .ok (.iconst 3, 1) := tb_d tk_X8_secretOf_1 19 (24, .iconst 3, 1) rfl
theorem dX8_secretOf_25 : decode cX8_secretOf 25 = .ok (.iaload, 1) := tb_d tk_X8_secretOf_1 20 (25, .iaload, 1) rfl
theorem dX8_secretOf_26 : decode cX8_secretOf 26 = .ok (.irem, 1) := tb_d tk_X8_secretOf_1 21 (26, .irem, 1) rfl
theorem dX8_secretOf_27 : decode cX8_secretOf 27 = .ok (.ireturn, 1) := tb_d tk_X8_secretOf_1 22 (27, .ireturn, 1) rfl
def tb_X8_distance_1 : List (Nat × Instr × Nat) := [(0, .iconst 0, 1), (1, .istore_n 3, 1), (2, .iconst 0, 1), (3, .istore 4, 2), (5, .iload 4, 2), (7, .iconst 3, 1), (8, .if_icmp .ge 48, 3), (11, .iload_n 3, 1), (12, .aload_n 0, 1), (13, .getfield 25, 3), (16, .bipush 8, 2), (18, .iconst 3, 1), (19, .iload_n 1, 1), (20, .imul, 1), (21, .iadd, 1), (22, .iload 4, 2), (24, .iadd, 1), (25, .iaload, 1), (26, .aload_n 0, 1), (27, .getfield 25, 3), (30, .bipush 8, 2), (32, .iconst 3, 1), (33, .iload_n 2, 1), (34, .imul, 1), (35, .iadd, 1), (36, .iload 4, 2), (38, .iadd, 1), (39, .iaload, 1), (40, .if_icmp .ne 7, 3), (43, .iconst 0, 1), (44, .goto 4, 3), (47, .iconst 1, 1), (48, .iadd, 1), (49, .istore_n 3, 1), (50, .iinc 4 1, 3), (53, .goto (-48), 3), (56, .iload_n 3, 1), (57, .ireturn, 1)]
set_option maxRecDepth 100000 in
theorem tk_X8_distance_1 : (tb_X8_distance_1.all fun q => decide (decode cX8_distance q.1 = .ok q.2)) = true := by decide +kernel
theorem dX8_distance_0 : decode cX8_distance 0 = .ok (.iconst 0, 1) := tb_d tk_X8_distance_1 0 (0, .iconst 0, 1) rfl
theorem dX8_distance_1 : decode cX8_distance 1 = .ok (.istore_n 3, 1) := tb_d tk_X8_distance_1 1 (1, .istore_n 3, 1) rfl
theorem dX8_distance_2 : decode cX8_distance 2 = .ok (.iconst 0, 1) := tb_d tk_X8_distance_1 2 (2, .iconst 0, 1) rfl
theorem dX8_distance_3 : decode cX8_distance 3 = .ok (.istore 4, 2) := tb_d tk_X8_distance_1 3 (3, .istore 4, 2) rfl
theorem dX8_distance_5 : decode cX8_distance 5 = .ok (.iload 4, 2) := tb_d tk_X8_distance_1 4 (5, .iload 4, 2) rfl
theorem dX8_distance_7 : decode cX8_distance 7 = .ok (.iconst 3, 1) := tb_d tk_X8_distance_1 5 (7, .iconst 3, 1) rfl
theorem dX8_distance_8 : decode cX8_distance 8 = .ok (.if_icmp .ge 48, 3) := tb_d tk_X8_distance_1 6 (8, .if_icmp .ge 48, 3) rfl
theorem dX8_distance_11 : decode cX8_distance 11 = .ok (.iload_n 3, 1) := tb_d tk_X8_distance_1 7 (11, .iload_n 3, 1) rfl
theorem dX8_distance_12 : decode cX8_distance 12 = .ok (.aload_n 0, 1) := tb_d tk_X8_distance_1 8 (12, .aload_n 0, 1) rfl
theorem dX8_distance_13 : decode cX8_distance 13 = .ok (.getfield 25, 3) := tb_d tk_X8_distance_1 9 (13, .getfield 25, 3) rfl
theorem dX8_distance_16 : decode cX8_distance 16 = .ok (.bipush 8, 2) := tb_d tk_X8_distance_1 10 (16, .bipush 8, 2) rfl
theorem dX8_distance_18 : decode cX8_distance 18 = .ok (.iconst 3, 1) := tb_d tk_X8_distance_1 11 (18, .iconst 3, 1) rfl
theorem dX8_distance_19 : decode cX8_distance 19 = .ok (.iload_n 1, 1) := tb_d tk_X8_distance_1 12 (19, .iload_n 1, 1) rfl
theorem dX8_distance_20 : decode cX8_distance 20 = .ok (.imul, 1) := tb_d tk_X8_distance_1 13 (20, .imul, 1) rfl
theorem dX8_distance_21 : decode cX8_distance 21 = .ok (.iadd, 1) := tb_d tk_X8_distance_1 14 (21, .iadd, 1) rfl
theorem dX8_distance_22 : decode cX8_distance 22 = .ok (.iload 4, 2) := tb_d tk_X8_distance_1 15 (22, .iload 4, 2) rfl
theorem dX8_distance_24 : decode cX8_distance 24 = .ok (.iadd, 1) := tb_d tk_X8_distance_1 16 (24, .iadd, 1) rfl
theorem dX8_distance_25 : decode cX8_distance 25 = .ok (.iaload, 1) := tb_d tk_X8_distance_1 17 (25, .iaload, 1) rfl
theorem dX8_distance_26 : decode cX8_distance 26 = .ok (.aload_n 0, 1) := tb_d tk_X8_distance_1 18 (26, .aload_n 0, 1) rfl
theorem dX8_distance_27 : decode cX8_distance 27 = .ok (.getfield 25, 3) := tb_d tk_X8_distance_1 19 (27, .getfield 25, 3) rfl
theorem dX8_distance_30 : decode cX8_distance 30 = .ok (.bipush 8, 2) := tb_d tk_X8_distance_1 20 (30, .bipush 8, 2) rfl
theorem dX8_distance_32 : decode cX8_distance 32 = .ok (.iconst 3, 1) := tb_d tk_X8_distance_1 21 (32, .iconst 3, 1) rfl
theorem dX8_distance_33 : decode cX8_distance 33 = .ok (.iload_n 2, 1) := tb_d tk_X8_distance_1 22 (33, .iload_n 2, 1) rfl
theorem dX8_distance_34 : decode cX8_distance 34 = .ok (.imul, 1) := tb_d tk_X8_distance_1 23 (34, .imul, 1) rfl
theorem dX8_distance_35 : decode cX8_distance 35 = .ok (.iadd, 1) := tb_d tk_X8_distance_1 24 (35, .iadd, 1) rfl
theorem dX8_distance_36 : decode cX8_distance 36 = .ok (.iload 4, 2) := tb_d tk_X8_distance_1 25 (36, .iload 4, 2) rfl
theorem dX8_distance_38 : decode cX8_distance 38 = .ok (.iadd, 1) := tb_d tk_X8_distance_1 26 (38, .iadd, 1) rfl
theorem dX8_distance_39 : decode cX8_distance 39 = .ok (.iaload, 1) := tb_d tk_X8_distance_1 27 (39, .iaload, 1) rfl
theorem dX8_distance_40 : decode cX8_distance 40 = .ok (.if_icmp .ne 7, 3) := tb_d tk_X8_distance_1 28 (40, .if_icmp .ne 7, 3) rfl
theorem dX8_distance_43 : decode cX8_distance 43 = .ok (.iconst 0, 1) := tb_d tk_X8_distance_1 29 (43, .iconst 0, 1) rfl
theorem dX8_distance_44 : decode cX8_distance 44 = .ok (.goto 4, 3) := tb_d tk_X8_distance_1 30 (44, .goto 4, 3) rfl
theorem dX8_distance_47 : decode cX8_distance 47 = .ok (.iconst 1, 1) := tb_d tk_X8_distance_1 31 (47, .iconst 1, 1) rfl
theorem dX8_distance_48 : decode cX8_distance 48 = .ok (.iadd, 1) := tb_d tk_X8_distance_1 32 (48, .iadd, 1) rfl
theorem dX8_distance_49 : decode cX8_distance 49 = .ok (.istore_n 3, 1) := tb_d tk_X8_distance_1 33 (49, .istore_n 3, 1) rfl
theorem dX8_distance_50 : decode cX8_distance 50 = .ok (.iinc 4 1, 3) := tb_d tk_X8_distance_1 34 (50, .iinc 4 1, 3) rfl
theorem dX8_distance_53 : decode cX8_distance 53 = .ok (.goto (-48), 3) := tb_d tk_X8_distance_1 35 (53, .goto (-48), 3) rfl
theorem dX8_distance_56 : decode cX8_distance 56 = .ok (.iload_n 3, 1) := tb_d tk_X8_distance_1 36 (56, .iload_n 3, 1) rfl
theorem dX8_distance_57 : decode cX8_distance 57 = .ok (.ireturn, 1) := tb_d tk_X8_distance_1 37 (57, .ireturn, 1) rfl
def tb_X8_lips_1 : List (Nat × Instr × Nat) := [(0, .iconst 0, 1), (1, .istore_n 3, 1), (2, .iconst 0, 1), (3, .istore 4, 2), (5, .iload 4, 2), (7, .iconst 3, 1), (8, .if_icmp .ge 52, 3), (11, .iload_n 3, 1), (12, .aload_n 0, 1), (13, .getfield 25, 3), (16, .bipush 8, 2), (18, .iconst 3, 1), (19, .iload_n 1, 1), (20, .imul, 1), (21, .iadd, 1), (22, .iload 4, 2), (24, .iadd, 1), (25, .iaload, 1), (26, .iconst 5, 1), (27, .irem, 1), (28, .aload_n 0, 1), (29, .getfield 25, 3), (32, .bipush 8, 2), (34, .iconst 3, 1), (35, .iload_n 2, 1), (36, .imul, 1), (37, .iadd, 1), (38, .iload 4, 2), (40, .iadd, 1), (41, .iaload, 1), (42, .iconst 5, 1), (43, .irem, 1), (44, .if_icmp .ne 7, 3), (47, .iconst 1, 1), (48, .goto 4, 3), (51, .iconst 0, 1), (52, .iadd, 1), (53, .istore_n 3, 1), (54, .iinc 4 1, 3), (57, .goto (-52), 3)]
set_option maxRecDepth 100000 in
theorem tk_X8_lips_1 : (tb_X8_lips_1.all fun q => decide (decode cX8_lips q.1 = .ok q.2)) = true := by decide +kernel
theorem dX8_lips_0 : decode cX8_lips 0 = .ok (.iconst 0, 1) := tb_d tk_X8_lips_1 0 (0, .iconst 0, 1) rfl
theorem dX8_lips_1 : decode cX8_lips 1 = .ok (.istore_n 3, 1) := tb_d tk_X8_lips_1 1 (1, .istore_n 3, 1) rfl
theorem dX8_lips_2 : decode cX8_lips 2 = .ok (.iconst 0, 1) := tb_d tk_X8_lips_1 2 (2, .iconst 0, 1) rfl
theorem dX8_lips_3 : decode cX8_lips 3 = .ok (.istore 4, 2) := tb_d tk_X8_lips_1 3 (3, .istore 4, 2) rfl
theorem dX8_lips_5 : decode cX8_lips 5 = .ok (.iload 4, 2) := tb_d tk_X8_lips_1 4 (5, .iload 4, 2) rfl
theorem dX8_lips_7 : decode cX8_lips 7 = .ok (.iconst 3, 1) := tb_d tk_X8_lips_1 5 (7, .iconst 3, 1) rfl
theorem dX8_lips_8 : decode cX8_lips 8 = .ok (.if_icmp .ge 52, 3) := tb_d tk_X8_lips_1 6 (8, .if_icmp .ge 52, 3) rfl
theorem dX8_lips_11 : decode cX8_lips 11 = .ok (.iload_n 3, 1) := tb_d tk_X8_lips_1 7 (11, .iload_n 3, 1) rfl
theorem dX8_lips_12 : decode cX8_lips 12 = .ok (.aload_n 0, 1) := tb_d tk_X8_lips_1 8 (12, .aload_n 0, 1) rfl
theorem dX8_lips_13 : decode cX8_lips 13 = .ok (.getfield 25, 3) := tb_d tk_X8_lips_1 9 (13, .getfield 25, 3) rfl
theorem dX8_lips_16 : decode cX8_lips 16 = .ok (.bipush 8, 2) := tb_d tk_X8_lips_1 10 (16, .bipush 8, 2) rfl
theorem dX8_lips_18 : decode cX8_lips 18 = .ok (.iconst 3, 1) := tb_d tk_X8_lips_1 11 (18, .iconst 3, 1) rfl
theorem dX8_lips_19 : decode cX8_lips 19 = .ok (.iload_n 1, 1) := tb_d tk_X8_lips_1 12 (19, .iload_n 1, 1) rfl
theorem dX8_lips_20 : decode cX8_lips 20 = .ok (.imul, 1) := tb_d tk_X8_lips_1 13 (20, .imul, 1) rfl
theorem dX8_lips_21 : decode cX8_lips 21 = .ok (.iadd, 1) := tb_d tk_X8_lips_1 14 (21, .iadd, 1) rfl
theorem dX8_lips_22 : decode cX8_lips 22 = .ok (.iload 4, 2) := tb_d tk_X8_lips_1 15 (22, .iload 4, 2) rfl
theorem dX8_lips_24 : decode cX8_lips 24 = .ok (.iadd, 1) := tb_d tk_X8_lips_1 16 (24, .iadd, 1) rfl
theorem dX8_lips_25 : decode cX8_lips 25 = .ok (.iaload, 1) := tb_d tk_X8_lips_1 17 (25, .iaload, 1) rfl
theorem dX8_lips_26 : decode cX8_lips 26 = .ok (.iconst 5, 1) := tb_d tk_X8_lips_1 18 (26, .iconst 5, 1) rfl
theorem dX8_lips_27 : decode cX8_lips 27 = .ok (.irem, 1) := tb_d tk_X8_lips_1 19 (27, .irem, 1) rfl
theorem dX8_lips_28 : decode cX8_lips 28 = .ok (.aload_n 0, 1) := tb_d tk_X8_lips_1 20 (28, .aload_n 0, 1) rfl
theorem dX8_lips_29 : decode cX8_lips 29 = .ok (.getfield 25, 3) := tb_d tk_X8_lips_1 21 (29, .getfield 25, 3) rfl
theorem dX8_lips_32 : decode cX8_lips 32 = .ok (.bipush 8, 2) := tb_d tk_X8_lips_1 22 (32, .bipush 8, 2) rfl
theorem dX8_lips_34 : decode cX8_lips 34 = .ok (.iconst 3, 1) := tb_d tk_X8_lips_1 23 (34, .iconst 3, 1) rfl
theorem dX8_lips_35 : decode cX8_lips 35 = .ok (.iload_n 2, 1) := tb_d tk_X8_lips_1 24 (35, .iload_n 2, 1) rfl
theorem dX8_lips_36 : decode cX8_lips 36 = .ok (.imul, 1) := tb_d tk_X8_lips_1 25 (36, .imul, 1) rfl
theorem dX8_lips_37 : decode cX8_lips 37 = .ok (.iadd, 1) := tb_d tk_X8_lips_1 26 (37, .iadd, 1) rfl
theorem dX8_lips_38 : decode cX8_lips 38 = .ok (.iload 4, 2) := tb_d tk_X8_lips_1 27 (38, .iload 4, 2) rfl
theorem dX8_lips_40 : decode cX8_lips 40 = .ok (.iadd, 1) := tb_d tk_X8_lips_1 28 (40, .iadd, 1) rfl
theorem dX8_lips_41 : decode cX8_lips 41 = .ok (.iaload, 1) := tb_d tk_X8_lips_1 29 (41, .iaload, 1) rfl
theorem dX8_lips_42 : decode cX8_lips 42 = .ok (.iconst 5, 1) := tb_d tk_X8_lips_1 30 (42, .iconst 5, 1) rfl
theorem dX8_lips_43 : decode cX8_lips 43 = .ok (.irem, 1) := tb_d tk_X8_lips_1 31 (43, .irem, 1) rfl
theorem dX8_lips_44 : decode cX8_lips 44 = .ok (.if_icmp .ne 7, 3) := tb_d tk_X8_lips_1 32 (44, .if_icmp .ne 7, 3) rfl
theorem dX8_lips_47 : decode cX8_lips 47 = .ok (.iconst 1, 1) := tb_d tk_X8_lips_1 33 (47, .iconst 1, 1) rfl
theorem dX8_lips_48 : decode cX8_lips 48 = .ok (.goto 4, 3) := tb_d tk_X8_lips_1 34 (48, .goto 4, 3) rfl
theorem dX8_lips_51 : decode cX8_lips 51 = .ok (.iconst 0, 1) := tb_d tk_X8_lips_1 35 (51, .iconst 0, 1) rfl
theorem dX8_lips_52 : decode cX8_lips 52 = .ok (.iadd, 1) := tb_d tk_X8_lips_1 36 (52, .iadd, 1) rfl
theorem dX8_lips_53 : decode cX8_lips 53 = .ok (.istore_n 3, 1) := tb_d tk_X8_lips_1 37 (53, .istore_n 3, 1) rfl
theorem dX8_lips_54 : decode cX8_lips 54 = .ok (.iinc 4 1, 3) := tb_d tk_X8_lips_1 38 (54, .iinc 4 1, 3) rfl
theorem dX8_lips_57 : decode cX8_lips 57 = .ok (.goto (-52), 3) := tb_d tk_X8_lips_1 39 (57, .goto (-52), 3) rfl
def tb_X8_lips_2 : List (Nat × Instr × Nat) := [(60, .iload_n 3, 1), (61, .ireturn, 1)]
set_option maxRecDepth 100000 in
theorem tk_X8_lips_2 : (tb_X8_lips_2.all fun q => decide (decode cX8_lips q.1 = .ok q.2)) = true := by decide +kernel
theorem dX8_lips_60 : decode cX8_lips 60 = .ok (.iload_n 3, 1) := tb_d tk_X8_lips_2 0 (60, .iload_n 3, 1) rfl
theorem dX8_lips_61 : decode cX8_lips 61 = .ok (.ireturn, 1) := tb_d tk_X8_lips_2 1 (61, .ireturn, 1) rfl
theorem ggX8_takesBy_X8_distance : GoodIn wsX8_takesBy wsX8_distance := fun w h => ⟨List.mem_cons_of_mem _ (List.mem_append_right _ (List.mem_append_right _ (List.mem_append_right _ (List.mem_append_right _ (List.mem_append_left _ h))))), good_of_word (gdX8_distance w h)⟩
set_option maxRecDepth 20000 in
theorem gX8_takesBy_X8_distance : GoodIn wsX8_takesBy (wsV RX8 152 RX8 yX8_distance wsX8_distance) := goodIn_app (a := bkV RX8 152 RX8 yX8_distance) (fun w h => ⟨List.mem_cons_of_mem _ (List.mem_append_right _ (List.mem_append_left _ h)), good_of_word (gd_bV _ _ _ _ w h)⟩) ggX8_takesBy_X8_distance
theorem ggX8_takesBy_X8_lips : GoodIn wsX8_takesBy wsX8_lips := fun w h => ⟨List.mem_cons_of_mem _ (List.mem_append_right _ (List.mem_append_right _ (List.mem_append_right _ (List.mem_append_right _ (List.mem_append_right _ (List.mem_append_left _ h)))))), good_of_word (gdX8_lips w h)⟩
set_option maxRecDepth 20000 in
theorem gX8_takesBy_X8_lips : GoodIn wsX8_takesBy (wsV RX8 155 RX8 yX8_lips wsX8_lips) := goodIn_app (a := bkV RX8 155 RX8 yX8_lips) (fun w h => ⟨List.mem_cons_of_mem _ (List.mem_append_right _ (List.mem_append_right _ (List.mem_append_left _ h))), good_of_word (gd_bV _ _ _ _ w h)⟩) ggX8_takesBy_X8_lips
def tb_X8_takesBy_1 : List (Nat × Instr × Nat) := [(0, .iload_n 1, 1), (1, .tableswitch 100 1 4 #[31, 46, 62, 84], 31), (32, .aload_n 0, 1), (33, .iload_n 2, 1), (34, .iload_n 3, 1), (35, .invokevirtual 152, 3), (38, .ifCond .ne 7, 3), (41, .iconst 1, 1), (42, .goto 4, 3), (45, .iconst 0, 1), (46, .ireturn, 1), (47, .aload_n 0, 1), (48, .iload_n 2, 1), (49, .iload_n 3, 1), (50, .invokevirtual 152, 3), (53, .iconst 2, 1), (54, .if_icmp .ge 7, 3), (57, .iconst 1, 1), (58, .goto 4, 3), (61, .iconst 0, 1), (62, .ireturn, 1), (63, .aload_n 0, 1), (64, .iload_n 2, 1), (65, .iload_n 3, 1), (66, .invokevirtual 152, 3), (69, .ifCond .ne 14, 3), (72, .iload 4, 2), (74, .iconst 2, 1), (75, .irem, 1), (76, .ifCond .ne 7, 3), (79, .iconst 1, 1), (80, .goto 4, 3), (83, .iconst 0, 1), (84, .ireturn, 1), (85, .aload_n 0, 1), (86, .iload_n 2, 1), (87, .iload_n 3, 1), (88, .invokevirtual 155, 3), (91, .iconst 3, 1), (92, .if_icmp .ne 7, 3)]
set_option maxRecDepth 100000 in
theorem tk_X8_takesBy_1 : (tb_X8_takesBy_1.all fun q => decide (decode cX8_takesBy q.1 = .ok q.2)) = true := by decide +kernel
theorem dX8_takesBy_0 : decode cX8_takesBy 0 = .ok (.iload_n 1, 1) := tb_d tk_X8_takesBy_1 0 (0, .iload_n 1, 1) rfl
theorem dX8_takesBy_1 : decode cX8_takesBy 1 = .ok (.tableswitch 100 1 4 #[31, 46, 62, 84], 31) := tb_d tk_X8_takesBy_1 1 (1, .tableswitch 100 1 4 #[31, 46, 62, 84], 31) rfl
theorem dX8_takesBy_32 : decode cX8_takesBy 32 = .ok (.aload_n 0, 1) := tb_d tk_X8_takesBy_1 2 (32, .aload_n 0, 1) rfl
theorem dX8_takesBy_33 : decode cX8_takesBy 33 = .ok (.iload_n 2, 1) := tb_d tk_X8_takesBy_1 3 (33, .iload_n 2, 1) rfl
theorem dX8_takesBy_34 : decode cX8_takesBy 34 = .ok (.iload_n 3, 1) := tb_d tk_X8_takesBy_1 4 (34, .iload_n 3, 1) rfl
theorem dX8_takesBy_35 : decode cX8_takesBy 35 = .ok (.invokevirtual 152, 3) := tb_d tk_X8_takesBy_1 5 (35, .invokevirtual 152, 3) rfl
theorem dX8_takesBy_38 : decode cX8_takesBy 38 = .ok (.ifCond .ne 7, 3) := tb_d tk_X8_takesBy_1 6 (38, .ifCond .ne 7, 3) rfl
theorem dX8_takesBy_41 : decode cX8_takesBy 41 = .ok (.iconst 1, 1) := tb_d tk_X8_takesBy_1 7 (41, .iconst 1, 1) rfl
theorem dX8_takesBy_42 : decode cX8_takesBy 42 = .ok (.goto 4, 3) := tb_d tk_X8_takesBy_1 8 (42, .goto 4, 3) rfl
theorem dX8_takesBy_45 : decode cX8_takesBy 45 = .ok (.iconst 0, 1) := tb_d tk_X8_takesBy_1 9 (45, .iconst 0, 1) rfl
theorem dX8_takesBy_46 : decode cX8_takesBy 46 = .ok (.ireturn, 1) := tb_d tk_X8_takesBy_1 10 (46, .ireturn, 1) rfl
theorem dX8_takesBy_47 : decode cX8_takesBy 47 = .ok (.aload_n 0, 1) := tb_d tk_X8_takesBy_1 11 (47, .aload_n 0, 1) rfl
theorem dX8_takesBy_48 : decode cX8_takesBy 48 = .ok (.iload_n 2, 1) := tb_d tk_X8_takesBy_1 12 (48, .iload_n 2, 1) rfl
theorem dX8_takesBy_49 : decode cX8_takesBy 49 = .ok (.iload_n 3, 1) := tb_d tk_X8_takesBy_1 13 (49, .iload_n 3, 1) rfl
theorem dX8_takesBy_50 : decode cX8_takesBy 50 = .ok (.invokevirtual 152, 3) := tb_d tk_X8_takesBy_1 14 (50, .invokevirtual 152, 3) rfl
theorem dX8_takesBy_53 : decode cX8_takesBy 53 = .ok (.iconst 2, 1) := tb_d tk_X8_takesBy_1 15 (53, .iconst 2, 1) rfl
theorem dX8_takesBy_54 : decode cX8_takesBy 54 = .ok (.if_icmp .ge 7, 3) := tb_d tk_X8_takesBy_1 16 (54, .if_icmp .ge 7, 3) rfl
theorem dX8_takesBy_57 : decode cX8_takesBy 57 = .ok (.iconst 1, 1) := tb_d tk_X8_takesBy_1 17 (57, .iconst 1, 1) rfl
theorem dX8_takesBy_58 : decode cX8_takesBy 58 = .ok (.goto 4, 3) := tb_d tk_X8_takesBy_1 18 (58, .goto 4, 3) rfl
theorem dX8_takesBy_61 : decode cX8_takesBy 61 = .ok (.iconst 0, 1) := tb_d tk_X8_takesBy_1 19 (61, .iconst 0, 1) rfl
theorem dX8_takesBy_62 : decode cX8_takesBy 62 = .ok (.ireturn, 1) := tb_d tk_X8_takesBy_1 20 (62, .ireturn, 1) rfl
theorem dX8_takesBy_63 : decode cX8_takesBy 63 = .ok (.aload_n 0, 1) := tb_d tk_X8_takesBy_1 21 (63, .aload_n 0, 1) rfl
theorem dX8_takesBy_64 : decode cX8_takesBy 64 = .ok (.iload_n 2, 1) := tb_d tk_X8_takesBy_1 22 (64, .iload_n 2, 1) rfl
theorem dX8_takesBy_65 : decode cX8_takesBy 65 = .ok (.iload_n 3, 1) := tb_d tk_X8_takesBy_1 23 (65, .iload_n 3, 1) rfl
theorem dX8_takesBy_66 : decode cX8_takesBy 66 = .ok (.invokevirtual 152, 3) := tb_d tk_X8_takesBy_1 24 (66, .invokevirtual 152, 3) rfl
theorem dX8_takesBy_69 : decode cX8_takesBy 69 = .ok (.ifCond .ne 14, 3) := tb_d tk_X8_takesBy_1 25 (69, .ifCond .ne 14, 3) rfl
theorem dX8_takesBy_72 : decode cX8_takesBy 72 = .ok (.iload 4, 2) := tb_d tk_X8_takesBy_1 26 (72, .iload 4, 2) rfl
theorem dX8_takesBy_74 : decode cX8_takesBy 74 = .ok (.iconst 2, 1) := tb_d tk_X8_takesBy_1 27 (74, .iconst 2, 1) rfl
theorem dX8_takesBy_75 : decode cX8_takesBy 75 = .ok (.irem, 1) := tb_d tk_X8_takesBy_1 28 (75, .irem, 1) rfl
theorem dX8_takesBy_76 : decode cX8_takesBy 76 = .ok (.ifCond .ne 7, 3) := tb_d tk_X8_takesBy_1 29 (76, .ifCond .ne 7, 3) rfl
theorem dX8_takesBy_79 : decode cX8_takesBy 79 = .ok (.iconst 1, 1) := tb_d tk_X8_takesBy_1 30 (79, .iconst 1, 1) rfl
theorem dX8_takesBy_80 : decode cX8_takesBy 80 = .ok (.goto 4, 3) := tb_d tk_X8_takesBy_1 31 (80, .goto 4, 3) rfl
theorem dX8_takesBy_83 : decode cX8_takesBy 83 = .ok (.iconst 0, 1) := tb_d tk_X8_takesBy_1 32 (83, .iconst 0, 1) rfl
theorem dX8_takesBy_84 : decode cX8_takesBy 84 = .ok (.ireturn, 1) := tb_d tk_X8_takesBy_1 33 (84, .ireturn, 1) rfl
theorem dX8_takesBy_85 : decode cX8_takesBy 85 = .ok (.aload_n 0, 1) := tb_d tk_X8_takesBy_1 34 (85, .aload_n 0, 1) rfl
theorem dX8_takesBy_86 : decode cX8_takesBy 86 = .ok (.iload_n 2, 1) := tb_d tk_X8_takesBy_1 35 (86, .iload_n 2, 1) rfl
theorem dX8_takesBy_87 : decode cX8_takesBy 87 = .ok (.iload_n 3, 1) := tb_d tk_X8_takesBy_1 36 (87, .iload_n 3, 1) rfl
theorem dX8_takesBy_88 : decode cX8_takesBy 88 = .ok (.invokevirtual 155, 3) := tb_d tk_X8_takesBy_1 37 (88, .invokevirtual 155, 3) rfl
theorem dX8_takesBy_91 : decode cX8_takesBy 91 = .ok (.iconst 3, 1) := tb_d tk_X8_takesBy_1 38 (91, .iconst 3, 1) rfl
theorem dX8_takesBy_92 : decode cX8_takesBy 92 = .ok (.if_icmp .ne 7, 3) := tb_d tk_X8_takesBy_1 39 (92, .if_icmp .ne 7, 3) rfl
def tb_X8_takesBy_2 : List (Nat × Instr × Nat) := [(95, .iconst 1, 1), (96, .goto 4, 3), (99, .iconst 0, 1), (100, .ireturn, 1), (101, .aload_n 0, 1), (102, .iload_n 2, 1), (103, .iload_n 3, 1), (104, .invokevirtual 155, 3), (107, .iconst 1, 1), (108, .if_icmp .le 7, 3), (111, .iconst 1, 1), (112, .goto 4, 3), (115, .iconst 0, 1), (116, .ireturn, 1)]
set_option maxRecDepth 100000 in
theorem tk_X8_takesBy_2 : (tb_X8_takesBy_2.all fun q => decide (decode cX8_takesBy q.1 = .ok q.2)) = true := by decide +kernel
theorem dX8_takesBy_95 : decode cX8_takesBy 95 = .ok (.iconst 1, 1) := tb_d tk_X8_takesBy_2 0 (95, .iconst 1, 1) rfl
theorem dX8_takesBy_96 : decode cX8_takesBy 96 = .ok (.goto 4, 3) := tb_d tk_X8_takesBy_2 1 (96, .goto 4, 3) rfl
theorem dX8_takesBy_99 : decode cX8_takesBy 99 = .ok (.iconst 0, 1) := tb_d tk_X8_takesBy_2 2 (99, .iconst 0, 1) rfl
theorem dX8_takesBy_100 : decode cX8_takesBy 100 = .ok (.ireturn, 1) := tb_d tk_X8_takesBy_2 3 (100, .ireturn, 1) rfl
theorem dX8_takesBy_101 : decode cX8_takesBy 101 = .ok (.aload_n 0, 1) := tb_d tk_X8_takesBy_2 4 (101, .aload_n 0, 1) rfl
theorem dX8_takesBy_102 : decode cX8_takesBy 102 = .ok (.iload_n 2, 1) := tb_d tk_X8_takesBy_2 5 (102, .iload_n 2, 1) rfl
theorem dX8_takesBy_103 : decode cX8_takesBy 103 = .ok (.iload_n 3, 1) := tb_d tk_X8_takesBy_2 6 (103, .iload_n 3, 1) rfl
theorem dX8_takesBy_104 : decode cX8_takesBy 104 = .ok (.invokevirtual 155, 3) := tb_d tk_X8_takesBy_2 7 (104, .invokevirtual 155, 3) rfl
theorem dX8_takesBy_107 : decode cX8_takesBy 107 = .ok (.iconst 1, 1) := tb_d tk_X8_takesBy_2 8 (107, .iconst 1, 1) rfl
theorem dX8_takesBy_108 : decode cX8_takesBy 108 = .ok (.if_icmp .le 7, 3) := tb_d tk_X8_takesBy_2 9 (108, .if_icmp .le 7, 3) rfl
theorem dX8_takesBy_111 : decode cX8_takesBy 111 = .ok (.iconst 1, 1) := tb_d tk_X8_takesBy_2 10 (111, .iconst 1, 1) rfl
theorem dX8_takesBy_112 : decode cX8_takesBy 112 = .ok (.goto 4, 3) := tb_d tk_X8_takesBy_2 11 (112, .goto 4, 3) rfl
theorem dX8_takesBy_115 : decode cX8_takesBy 115 = .ok (.iconst 0, 1) := tb_d tk_X8_takesBy_2 12 (115, .iconst 0, 1) rfl
theorem dX8_takesBy_116 : decode cX8_takesBy 116 = .ok (.ireturn, 1) := tb_d tk_X8_takesBy_2 13 (116, .ireturn, 1) rfl
def tb_X8_guardOn_1 : List (Nat × Instr × Nat) := [(0, .iload_n 2, 1), (1, .iload_n 1, 1), (2, .iadd, 1), (3, .aload_n 0, 1), (4, .getfield 25, 3), (7, .iconst 4, 1), (8, .iaload, 1), (9, .irem, 1), (10, .ireturn, 1)]
set_option maxRecDepth 100000 in
theorem tk_X8_guardOn_1 : (tb_X8_guardOn_1.all fun q => decide (decode cX8_guardOn q.1 = .ok q.2)) = true := by decide +kernel
theorem dX8_guardOn_0 : decode cX8_guardOn 0 = .ok (.iload_n 2, 1) := tb_d tk_X8_guardOn_1 0 (0, .iload_n 2, 1) rfl
theorem dX8_guardOn_1 : decode cX8_guardOn 1 = .ok (.iload_n 1, 1) := tb_d tk_X8_guardOn_1 1 (1, .iload_n 1, 1) rfl
theorem dX8_guardOn_2 : decode cX8_guardOn 2 = .ok (.iadd, 1) := tb_d tk_X8_guardOn_1 2 (2, .iadd, 1) rfl
theorem dX8_guardOn_3 : decode cX8_guardOn 3 = .ok (.aload_n 0, 1) := tb_d tk_X8_guardOn_1 3 (3, .aload_n 0, 1) rfl
theorem dX8_guardOn_4 : decode cX8_guardOn 4 = .ok (.getfield 25, 3) := tb_d tk_X8_guardOn_1 4 (4, .getfield 25, 3) rfl
theorem dX8_guardOn_7 : decode cX8_guardOn 7 = .ok (.iconst 4, 1) := tb_d tk_X8_guardOn_1 5 (7, .iconst 4, 1) rfl
theorem dX8_guardOn_8 : decode cX8_guardOn 8 = .ok (.iaload, 1) := tb_d tk_X8_guardOn_1 6 (8, .iaload, 1) rfl
theorem dX8_guardOn_9 : decode cX8_guardOn 9 = .ok (.irem, 1) := tb_d tk_X8_guardOn_1 7 (9, .irem, 1) rfl
theorem dX8_guardOn_10 : decode cX8_guardOn 10 = .ok (.ireturn, 1) := tb_d tk_X8_guardOn_1 8 (10, .ireturn, 1) rfl
def tb_X8_kindIn_1 : List (Nat × Instr × Nat) := [(0, .aload_n 0, 1), (1, .getfield 25, 3), (4, .bipush 26, 2), (6, .iconst 3, 1), (7, .iload_n 1, 1), (8, .imul, 1), (9, .iadd, 1), (10, .iaload, 1), (11, .ireturn, 1)]
set_option maxRecDepth 100000 in
theorem tk_X8_kindIn_1 : (tb_X8_kindIn_1.all fun q => decide (decode cX8_kindIn q.1 = .ok q.2)) = true := by decide +kernel
theorem dX8_kindIn_0 : decode cX8_kindIn 0 = .ok (.aload_n 0, 1) := tb_d tk_X8_kindIn_1 0 (0, .aload_n 0, 1) rfl
theorem dX8_kindIn_1 : decode cX8_kindIn 1 = .ok (.getfield 25, 3) := tb_d tk_X8_kindIn_1 1 (1, .getfield 25, 3) rfl
theorem dX8_kindIn_4 : decode cX8_kindIn 4 = .ok (.bipush 26, 2) := tb_d tk_X8_kindIn_1 2 (4, .bipush 26, 2) rfl
theorem dX8_kindIn_6 : decode cX8_kindIn 6 = .ok (.iconst 3, 1) := tb_d tk_X8_kindIn_1 3 (6, .iconst 3, 1) rfl
theorem dX8_kindIn_7 : decode cX8_kindIn 7 = .ok (.iload_n 1, 1) := tb_d tk_X8_kindIn_1 4 (7, .iload_n 1, 1) rfl
theorem dX8_kindIn_8 : decode cX8_kindIn 8 = .ok (.imul, 1) := tb_d tk_X8_kindIn_1 5 (8, .imul, 1) rfl
theorem dX8_kindIn_9 : decode cX8_kindIn 9 = .ok (.iadd, 1) := tb_d tk_X8_kindIn_1 6 (9, .iadd, 1) rfl
theorem dX8_kindIn_10 : decode cX8_kindIn 10 = .ok (.iaload, 1) := tb_d tk_X8_kindIn_1 7 (10, .iaload, 1) rfl
theorem dX8_kindIn_11 : decode cX8_kindIn 11 = .ok (.ireturn, 1) := tb_d tk_X8_kindIn_1 8 (11, .ireturn, 1) rfl
theorem ggX8_isTaken_X8_guardOn : GoodIn wsX8_isTaken wsX8_guardOn := fun w h => ⟨List.mem_cons_of_mem _ (List.mem_append_right _ (List.mem_append_right _ (List.mem_append_right _ (List.mem_append_right _ (List.mem_append_right _ (List.mem_append_right _ (List.mem_append_left _ h))))))), good_of_word (gdX8_guardOn w h)⟩
set_option maxRecDepth 20000 in
theorem gX8_isTaken_X8_guardOn : GoodIn wsX8_isTaken (wsV RX8 158 RX8 yX8_guardOn wsX8_guardOn) := goodIn_app (a := bkV RX8 158 RX8 yX8_guardOn) (fun w h => ⟨List.mem_cons_of_mem _ (List.mem_append_right _ (List.mem_append_left _ h)), good_of_word (gd_bV _ _ _ _ w h)⟩) ggX8_isTaken_X8_guardOn
theorem ggX8_isTaken_X8_has : GoodIn wsX8_isTaken wsX8_has := fun w h => ⟨List.mem_cons_of_mem _ (List.mem_append_right _ (List.mem_append_right _ (List.mem_append_right _ (List.mem_append_right _ (List.mem_append_right _ (List.mem_append_right _ (List.mem_append_right _ (List.mem_append_left _ h)))))))), good_of_word (gdX8_has w h)⟩
set_option maxRecDepth 20000 in
theorem gX8_isTaken_X8_has : GoodIn wsX8_isTaken (va_wsS RX8 161 yX8_has wsX8_has) := goodIn_app (a := bkS RX8 161 yX8_has) (fun w h => ⟨List.mem_cons_of_mem _ (List.mem_append_right _ (List.mem_append_right _ (List.mem_append_left _ h))), good_of_word (gd_bS _ _ _ w h)⟩) ggX8_isTaken_X8_has
theorem ggX8_isTaken_X8_kindIn : GoodIn wsX8_isTaken wsX8_kindIn := fun w h => ⟨List.mem_cons_of_mem _ (List.mem_append_right _ (List.mem_append_right _ (List.mem_append_right _ (List.mem_append_right _ (List.mem_append_right _ (List.mem_append_right _ (List.mem_append_right _ (List.mem_append_right _ (List.mem_append_left _ h))))))))), good_of_word (gdX8_kindIn w h)⟩
set_option maxRecDepth 20000 in
theorem gX8_isTaken_X8_kindIn : GoodIn wsX8_isTaken (wsV RX8 165 RX8 yX8_kindIn wsX8_kindIn) := goodIn_app (a := bkV RX8 165 RX8 yX8_kindIn) (fun w h => ⟨List.mem_cons_of_mem _ (List.mem_append_right _ (List.mem_append_right _ (List.mem_append_right _ (List.mem_append_left _ h)))), good_of_word (gd_bV _ _ _ _ w h)⟩) ggX8_isTaken_X8_kindIn
theorem ggX8_isTaken_X8_takesBy : GoodIn wsX8_isTaken wsX8_takesBy := fun w h => ⟨List.mem_cons_of_mem _ (List.mem_append_right _ (List.mem_append_right _ (List.mem_append_right _ (List.mem_append_right _ (List.mem_append_right _ (List.mem_append_right _ (List.mem_append_right _ (List.mem_append_right _ (List.mem_append_right _ (List.mem_append_left _ h)))))))))), good_of_word (gdX8_takesBy w h)⟩
set_option maxRecDepth 20000 in
theorem gX8_isTaken_X8_takesBy : GoodIn wsX8_isTaken (wsV RX8 168 RX8 yX8_takesBy wsX8_takesBy) := goodIn_app (a := bkV RX8 168 RX8 yX8_takesBy) (fun w h => ⟨List.mem_cons_of_mem _ (List.mem_append_right _ (List.mem_append_right _ (List.mem_append_right _ (List.mem_append_right _ (List.mem_append_left _ h))))), good_of_word (gd_bV _ _ _ _ w h)⟩) ggX8_isTaken_X8_takesBy
def tb_X8_isTaken_1 : List (Nat × Instr × Nat) := [(0, .aload_n 0, 1), (1, .iload_n 2, 1), (2, .iload_n 3, 1), (3, .invokevirtual 158, 3), (6, .istore 6, 2), (8, .iload 4, 2), (10, .iload 6, 2), (12, .invokestatic 161, 3), (15, .ifCond .eq 24, 3), (18, .aload_n 0, 1), (19, .aload_n 0, 1), (20, .iload 6, 2), (22, .invokevirtual 165, 3), (25, .iload_n 1, 1), (26, .iload 5, 2), (28, .iload_n 3, 1), (29, .invokevirtual 168, 3), (32, .ifCond .eq 7, 3), (35, .iconst 1, 1), (36, .goto 4, 3), (39, .iconst 0, 1), (40, .ireturn, 1)]
set_option maxRecDepth 100000 in
theorem tk_X8_isTaken_1 : (tb_X8_isTaken_1.all fun q => decide (decode cX8_isTaken q.1 = .ok q.2)) = true := by decide +kernel
theorem dX8_isTaken_0 : decode cX8_isTaken 0 = .ok (.aload_n 0, 1) := tb_d tk_X8_isTaken_1 0 (0, .aload_n 0, 1) rfl
theorem dX8_isTaken_1 : decode cX8_isTaken 1 = .ok (.iload_n 2, 1) := tb_d tk_X8_isTaken_1 1 (1, .iload_n 2, 1) rfl
theorem dX8_isTaken_2 : decode cX8_isTaken 2 = .ok (.iload_n 3, 1) := tb_d tk_X8_isTaken_1 2 (2, .iload_n 3, 1) rfl
theorem dX8_isTaken_3 : decode cX8_isTaken 3 = .ok (.invokevirtual 158, 3) := tb_d tk_X8_isTaken_1 3 (3, .invokevirtual 158, 3) rfl
theorem dX8_isTaken_6 : decode cX8_isTaken 6 = .ok (.istore 6, 2) := tb_d tk_X8_isTaken_1 4 (6, .istore 6, 2) rfl
theorem dX8_isTaken_8 : decode cX8_isTaken 8 = .ok (.iload 4, 2) := tb_d tk_X8_isTaken_1 5 (8, .iload 4, 2) rfl
theorem dX8_isTaken_10 : decode cX8_isTaken 10 = .ok (.iload 6, 2) := tb_d tk_X8_isTaken_1 6 (10, .iload 6, 2) rfl
theorem dX8_isTaken_12 : decode cX8_isTaken 12 = .ok (.invokestatic 161, 3) := tb_d tk_X8_isTaken_1 7 (12, .invokestatic 161, 3) rfl
theorem dX8_isTaken_15 : decode cX8_isTaken 15 = .ok (.ifCond .eq 24, 3) := tb_d tk_X8_isTaken_1 8 (15, .ifCond .eq 24, 3) rfl
theorem dX8_isTaken_18 : decode cX8_isTaken 18 = .ok (.aload_n 0, 1) := tb_d tk_X8_isTaken_1 9 (18, .aload_n 0, 1) rfl
theorem dX8_isTaken_19 : decode cX8_isTaken 19 = .ok (.aload_n 0, 1) := tb_d tk_X8_isTaken_1 10 (19, .aload_n 0, 1) rfl
theorem dX8_isTaken_20 : decode cX8_isTaken 20 = .ok (.iload 6, 2) := tb_d tk_X8_isTaken_1 11 (20, .iload 6, 2) rfl
theorem dX8_isTaken_22 : decode cX8_isTaken 22 = .ok (.invokevirtual 165, 3) := tb_d tk_X8_isTaken_1 12 (22, .invokevirtual 165, 3) rfl
theorem dX8_isTaken_25 : decode cX8_isTaken 25 = .ok (.iload_n 1, 1) := tb_d tk_X8_isTaken_1 13 (25, .iload_n 1, 1) rfl
theorem dX8_isTaken_26 : decode cX8_isTaken 26 = .ok (.iload 5, 2) := tb_d tk_X8_isTaken_1 14 (26, .iload 5, 2) rfl
theorem dX8_isTaken_28 : decode cX8_isTaken 28 = .ok (.iload_n 3, 1) := tb_d tk_X8_isTaken_1 15 (28, .iload_n 3, 1) rfl
theorem dX8_isTaken_29 : decode cX8_isTaken 29 = .ok (.invokevirtual 168, 3) := tb_d tk_X8_isTaken_1 16 (29, .invokevirtual 168, 3) rfl
theorem dX8_isTaken_32 : decode cX8_isTaken 32 = .ok (.ifCond .eq 7, 3) := tb_d tk_X8_isTaken_1 17 (32, .ifCond .eq 7, 3) rfl
theorem dX8_isTaken_35 : decode cX8_isTaken 35 = .ok (.iconst 1, 1) := tb_d tk_X8_isTaken_1 18 (35, .iconst 1, 1) rfl
theorem dX8_isTaken_36 : decode cX8_isTaken 36 = .ok (.goto 4, 3) := tb_d tk_X8_isTaken_1 19 (36, .goto 4, 3) rfl
theorem dX8_isTaken_39 : decode cX8_isTaken 39 = .ok (.iconst 0, 1) := tb_d tk_X8_isTaken_1 20 (39, .iconst 0, 1) rfl
theorem dX8_isTaken_40 : decode cX8_isTaken 40 = .ok (.ireturn, 1) := tb_d tk_X8_isTaken_1 21 (40, .ireturn, 1) rfl
theorem ggX8_isTakenNow_X8_secretOf : GoodIn wsX8_isTakenNow wsX8_secretOf := fun w h => ⟨List.mem_cons_of_mem _ (List.mem_append_right _ (List.mem_append_right _ (List.mem_append_right _ (List.mem_append_right _ (List.mem_append_left _ h))))), good_of_word (gdX8_secretOf w h)⟩
set_option maxRecDepth 20000 in
theorem gX8_isTakenNow_X8_secretOf : GoodIn wsX8_isTakenNow (va_wsS RX8 172 yX8_secretOf wsX8_secretOf) := goodIn_app (a := bkS RX8 172 yX8_secretOf) (fun w h => ⟨List.mem_cons_of_mem _ (List.mem_append_right _ (List.mem_append_left _ h)), good_of_word (gd_bS _ _ _ w h)⟩) ggX8_isTakenNow_X8_secretOf
theorem ggX8_isTakenNow_X8_isTaken : GoodIn wsX8_isTakenNow wsX8_isTaken := fun w h => ⟨List.mem_cons_of_mem _ (List.mem_append_right _ (List.mem_append_right _ (List.mem_append_right _ (List.mem_append_right _ (List.mem_append_right _ (List.mem_append_left _ h)))))), good_of_word (gdX8_isTaken w h)⟩
set_option maxRecDepth 20000 in
theorem gX8_isTakenNow_X8_isTaken : GoodIn wsX8_isTakenNow (wsV RX8 176 RX8 yX8_isTaken wsX8_isTaken) := goodIn_app (a := bkV RX8 176 RX8 yX8_isTaken) (fun w h => ⟨List.mem_cons_of_mem _ (List.mem_append_right _ (List.mem_append_right _ (List.mem_append_left _ h))), good_of_word (gd_bV _ _ _ _ w h)⟩) ggX8_isTakenNow_X8_isTaken
def tb_X8_isTakenNow_1 : List (Nat × Instr × Nat) := [(0, .aload_n 0, 1), (1, .getfield 25, 3), (4, .iconst 5, 1), (5, .iaload, 1), (6, .iload_n 3, 1), (7, .iadd, 1), (8, .istore 4, 2), (10, .aload_n 0, 1), (11, .iload_n 1, 1), (12, .iload_n 2, 1), (13, .iload 4, 2), (15, .aload_n 0, 1), (16, .getfield 25, 3), (19, .bipush 6, 2), (21, .iaload, 1), (22, .aload_n 0, 1), (23, .getfield 25, 3), (26, .iload 4, 2), (28, .invokestatic 172, 3), (31, .invokevirtual 176, 3), (34, .ireturn, 1)]
set_option maxRecDepth 100000 in
theorem tk_X8_isTakenNow_1 : (tb_X8_isTakenNow_1.all fun q => decide (decode cX8_isTakenNow q.1 = .ok q.2)) = true := by decide +kernel
theorem dX8_isTakenNow_0 : decode cX8_isTakenNow 0 = .ok (.aload_n 0, 1) := tb_d tk_X8_isTakenNow_1 0 (0, .aload_n 0, 1) rfl
theorem dX8_isTakenNow_1 : decode cX8_isTakenNow 1 = .ok (.getfield 25, 3) := tb_d tk_X8_isTakenNow_1 1 (1, .getfield 25, 3) rfl
theorem dX8_isTakenNow_4 : decode cX8_isTakenNow 4 = .ok (.iconst 5, 1) := tb_d tk_X8_isTakenNow_1 2 (4, .iconst 5, 1) rfl
theorem dX8_isTakenNow_5 : decode cX8_isTakenNow 5 = .ok (.iaload, 1) := tb_d tk_X8_isTakenNow_1 3 (5, .iaload, 1) rfl
theorem dX8_isTakenNow_6 : decode cX8_isTakenNow 6 = .ok (.iload_n 3, 1) := tb_d tk_X8_isTakenNow_1 4 (6, .iload_n 3, 1) rfl
theorem dX8_isTakenNow_7 : decode cX8_isTakenNow 7 = .ok (.iadd, 1) := tb_d tk_X8_isTakenNow_1 5 (7, .iadd, 1) rfl
theorem dX8_isTakenNow_8 : decode cX8_isTakenNow 8 = .ok (.istore 4, 2) := tb_d tk_X8_isTakenNow_1 6 (8, .istore 4, 2) rfl
theorem dX8_isTakenNow_10 : decode cX8_isTakenNow 10 = .ok (.aload_n 0, 1) := tb_d tk_X8_isTakenNow_1 7 (10, .aload_n 0, 1) rfl
theorem dX8_isTakenNow_11 : decode cX8_isTakenNow 11 = .ok (.iload_n 1, 1) := tb_d tk_X8_isTakenNow_1 8 (11, .iload_n 1, 1) rfl
theorem dX8_isTakenNow_12 : decode cX8_isTakenNow 12 = .ok (.iload_n 2, 1) := tb_d tk_X8_isTakenNow_1 9 (12, .iload_n 2, 1) rfl
theorem dX8_isTakenNow_13 : decode cX8_isTakenNow 13 = .ok (.iload 4, 2) := tb_d tk_X8_isTakenNow_1 10 (13, .iload 4, 2) rfl
theorem dX8_isTakenNow_15 : decode cX8_isTakenNow 15 = .ok (.aload_n 0, 1) := tb_d tk_X8_isTakenNow_1 11 (15, .aload_n 0, 1) rfl
theorem dX8_isTakenNow_16 : decode cX8_isTakenNow 16 = .ok (.getfield 25, 3) := tb_d tk_X8_isTakenNow_1 12 (16, .getfield 25, 3) rfl
theorem dX8_isTakenNow_19 : decode cX8_isTakenNow 19 = .ok (.bipush 6, 2) := tb_d tk_X8_isTakenNow_1 13 (19, .bipush 6, 2) rfl
theorem dX8_isTakenNow_21 : decode cX8_isTakenNow 21 = .ok (.iaload, 1) := tb_d tk_X8_isTakenNow_1 14 (21, .iaload, 1) rfl
theorem dX8_isTakenNow_22 : decode cX8_isTakenNow 22 = .ok (.aload_n 0, 1) := tb_d tk_X8_isTakenNow_1 15 (22, .aload_n 0, 1) rfl
theorem dX8_isTakenNow_23 : decode cX8_isTakenNow 23 = .ok (.getfield 25, 3) := tb_d tk_X8_isTakenNow_1 16 (23, .getfield 25, 3) rfl
theorem dX8_isTakenNow_26 : decode cX8_isTakenNow 26 = .ok (.iload 4, 2) := tb_d tk_X8_isTakenNow_1 17 (26, .iload 4, 2) rfl
theorem dX8_isTakenNow_28 : decode cX8_isTakenNow 28 = .ok (.invokestatic 172, 3) := tb_d tk_X8_isTakenNow_1 18 (28, .invokestatic 172, 3) rfl
theorem dX8_isTakenNow_31 : decode cX8_isTakenNow 31 = .ok (.invokevirtual 176, 3) := tb_d tk_X8_isTakenNow_1 19 (31, .invokevirtual 176, 3) rfl
theorem dX8_isTakenNow_34 : decode cX8_isTakenNow 34 = .ok (.ireturn, 1) := tb_d tk_X8_isTakenNow_1 20 (34, .ireturn, 1) rfl
theorem ggX8_notes_X8_copies : GoodIn wsX8_notes wsX8_copies := fun w h => ⟨List.mem_cons_of_mem _ (List.mem_append_right _ (List.mem_append_right _ (List.mem_append_right _ (List.mem_append_left _ h)))), good_of_word (gdX8_copies w h)⟩
set_option maxRecDepth 20000 in
theorem gX8_notes_X8_copies : GoodIn wsX8_notes (va_wsS RX8 145 yX8_copies wsX8_copies) := goodIn_app (a := bkS RX8 145 yX8_copies) (fun w h => ⟨List.mem_cons_of_mem _ (List.mem_append_right _ (List.mem_append_left _ h)), good_of_word (gd_bS _ _ _ w h)⟩) ggX8_notes_X8_copies
def tb_X8_notes_1 : List (Nat × Instr × Nat) := [(0, .aload_n 0, 1), (1, .getfield 149, 3), (4, .bipush 24, 2), (6, .if_icmp .ne 43, 3), (9, .iconst 0, 1), (10, .istore_n 1, 1), (11, .iload_n 1, 1), (12, .sipush 1495, 3), (15, .if_icmp .ge 24, 3), (18, .aload_n 0, 1), (19, .getfield 34, 3), (22, .iload_n 1, 1), (23, .aload_n 0, 1), (24, .getfield 34, 3), (27, .iload_n 1, 1), (28, .bipush 65, 2), (30, .iadd, 1), (31, .iaload, 1), (32, .iastore, 1), (33, .iinc 1 1, 3), (36, .goto (-25), 3), (39, .aload_n 0, 1), (40, .dup, 1), (41, .getfield 149, 3), (44, .iconst 1, 1), (45, .isub, 1), (46, .putfield 149, 3), (49, .aload_n 0, 1), (50, .getfield 25, 3), (53, .iconst 0, 1), (54, .aload_n 0, 1), (55, .getfield 34, 3), (58, .bipush 65, 2), (60, .aload_n 0, 1), (61, .getfield 149, 3), (64, .imul, 1), (65, .invokestatic 145, 3), (68, .aload_n 0, 1), (69, .dup, 1), (70, .getfield 149, 3)]
set_option maxRecDepth 100000 in
theorem tk_X8_notes_1 : (tb_X8_notes_1.all fun q => decide (decode cX8_notes q.1 = .ok q.2)) = true := by decide +kernel
theorem dX8_notes_0 : decode cX8_notes 0 = .ok (.aload_n 0, 1) := tb_d tk_X8_notes_1 0 (0, .aload_n 0, 1) rfl
theorem dX8_notes_1 : decode cX8_notes 1 = .ok (.getfield 149, 3) := tb_d tk_X8_notes_1 1 (1, .getfield 149, 3) rfl
theorem dX8_notes_4 : decode cX8_notes 4 = .ok (.bipush 24, 2) := tb_d tk_X8_notes_1 2 (4, .bipush 24, 2) rfl
theorem dX8_notes_6 : decode cX8_notes 6 = .ok (.if_icmp .ne 43, 3) := tb_d tk_X8_notes_1 3 (6, .if_icmp .ne 43, 3) rfl
theorem dX8_notes_9 : decode cX8_notes 9 = .ok (.iconst 0, 1) := tb_d tk_X8_notes_1 4 (9, .iconst 0, 1) rfl
theorem dX8_notes_10 : decode cX8_notes 10 = .ok (.istore_n 1, 1) := tb_d tk_X8_notes_1 5 (10, .istore_n 1, 1) rfl
theorem dX8_notes_11 : decode cX8_notes 11 = .ok (.iload_n 1, 1) := tb_d tk_X8_notes_1 6 (11, .iload_n 1, 1) rfl
theorem dX8_notes_12 : decode cX8_notes 12 = .ok (.sipush 1495, 3) := tb_d tk_X8_notes_1 7 (12, .sipush 1495, 3) rfl
theorem dX8_notes_15 : decode cX8_notes 15 = .ok (.if_icmp .ge 24, 3) := tb_d tk_X8_notes_1 8 (15, .if_icmp .ge 24, 3) rfl
theorem dX8_notes_18 : decode cX8_notes 18 = .ok (.aload_n 0, 1) := tb_d tk_X8_notes_1 9 (18, .aload_n 0, 1) rfl
theorem dX8_notes_19 : decode cX8_notes 19 = .ok (.getfield 34, 3) := tb_d tk_X8_notes_1 10 (19, .getfield 34, 3) rfl
theorem dX8_notes_22 : decode cX8_notes 22 = .ok (.iload_n 1, 1) := tb_d tk_X8_notes_1 11 (22, .iload_n 1, 1) rfl
theorem dX8_notes_23 : decode cX8_notes 23 = .ok (.aload_n 0, 1) := tb_d tk_X8_notes_1 12 (23, .aload_n 0, 1) rfl
theorem dX8_notes_24 : decode cX8_notes 24 = .ok (.getfield 34, 3) := tb_d tk_X8_notes_1 13 (24, .getfield 34, 3) rfl
theorem dX8_notes_27 : decode cX8_notes 27 = .ok (.iload_n 1, 1) := tb_d tk_X8_notes_1 14 (27, .iload_n 1, 1) rfl
theorem dX8_notes_28 : decode cX8_notes 28 = .ok (.bipush 65, 2) := tb_d tk_X8_notes_1 15 (28, .bipush 65, 2) rfl
theorem dX8_notes_30 : decode cX8_notes 30 = .ok (.iadd, 1) := tb_d tk_X8_notes_1 16 (30, .iadd, 1) rfl
theorem dX8_notes_31 : decode cX8_notes 31 = .ok (.iaload, 1) := tb_d tk_X8_notes_1 17 (31, .iaload, 1) rfl
theorem dX8_notes_32 : decode cX8_notes 32 = .ok (.iastore, 1) := tb_d tk_X8_notes_1 18 (32, .iastore, 1) rfl
theorem dX8_notes_33 : decode cX8_notes 33 = .ok (.iinc 1 1, 3) := tb_d tk_X8_notes_1 19 (33, .iinc 1 1, 3) rfl
theorem dX8_notes_36 : decode cX8_notes 36 = .ok (.goto (-25), 3) := tb_d tk_X8_notes_1 20 (36, .goto (-25), 3) rfl
theorem dX8_notes_39 : decode cX8_notes 39 = .ok (.aload_n 0, 1) := tb_d tk_X8_notes_1 21 (39, .aload_n 0, 1) rfl
theorem dX8_notes_40 : decode cX8_notes 40 = .ok (.dup, 1) := tb_d tk_X8_notes_1 22 (40, .dup, 1) rfl
theorem dX8_notes_41 : decode cX8_notes 41 = .ok (.getfield 149, 3) := tb_d tk_X8_notes_1 23 (41, .getfield 149, 3) rfl
theorem dX8_notes_44 : decode cX8_notes 44 = .ok (.iconst 1, 1) := tb_d tk_X8_notes_1 24 (44, .iconst 1, 1) rfl
theorem dX8_notes_45 : decode cX8_notes 45 = .ok (.isub, 1) := tb_d tk_X8_notes_1 25 (45, .isub, 1) rfl
theorem dX8_notes_46 : decode cX8_notes 46 = .ok (.putfield 149, 3) := tb_d tk_X8_notes_1 26 (46, .putfield 149, 3) rfl
theorem dX8_notes_49 : decode cX8_notes 49 = .ok (.aload_n 0, 1) := tb_d tk_X8_notes_1 27 (49, .aload_n 0, 1) rfl
theorem dX8_notes_50 : decode cX8_notes 50 = .ok (.getfield 25, 3) := tb_d tk_X8_notes_1 28 (50, .getfield 25, 3) rfl
theorem dX8_notes_53 : decode cX8_notes 53 = .ok (.iconst 0, 1) := tb_d tk_X8_notes_1 29 (53, .iconst 0, 1) rfl
theorem dX8_notes_54 : decode cX8_notes 54 = .ok (.aload_n 0, 1) := tb_d tk_X8_notes_1 30 (54, .aload_n 0, 1) rfl
theorem dX8_notes_55 : decode cX8_notes 55 = .ok (.getfield 34, 3) := tb_d tk_X8_notes_1 31 (55, .getfield 34, 3) rfl
theorem dX8_notes_58 : decode cX8_notes 58 = .ok (.bipush 65, 2) := tb_d tk_X8_notes_1 32 (58, .bipush 65, 2) rfl
theorem dX8_notes_60 : decode cX8_notes 60 = .ok (.aload_n 0, 1) := tb_d tk_X8_notes_1 33 (60, .aload_n 0, 1) rfl
theorem dX8_notes_61 : decode cX8_notes 61 = .ok (.getfield 149, 3) := tb_d tk_X8_notes_1 34 (61, .getfield 149, 3) rfl
theorem dX8_notes_64 : decode cX8_notes 64 = .ok (.imul, 1) := tb_d tk_X8_notes_1 35 (64, .imul, 1) rfl
theorem dX8_notes_65 : decode cX8_notes 65 = .ok (.invokestatic 145, 3) := tb_d tk_X8_notes_1 36 (65, .invokestatic 145, 3) rfl
theorem dX8_notes_68 : decode cX8_notes 68 = .ok (.aload_n 0, 1) := tb_d tk_X8_notes_1 37 (68, .aload_n 0, 1) rfl
theorem dX8_notes_69 : decode cX8_notes 69 = .ok (.dup, 1) := tb_d tk_X8_notes_1 38 (69, .dup, 1) rfl
theorem dX8_notes_70 : decode cX8_notes 70 = .ok (.getfield 149, 3) := tb_d tk_X8_notes_1 39 (70, .getfield 149, 3) rfl
def tb_X8_notes_2 : List (Nat × Instr × Nat) := [(73, .iconst 1, 1), (74, .iadd, 1), (75, .putfield 149, 3), (78, .return_, 1)]
set_option maxRecDepth 100000 in
theorem tk_X8_notes_2 : (tb_X8_notes_2.all fun q => decide (decode cX8_notes q.1 = .ok q.2)) = true := by decide +kernel
theorem dX8_notes_73 : decode cX8_notes 73 = .ok (.iconst 1, 1) := tb_d tk_X8_notes_2 0 (73, .iconst 1, 1) rfl
theorem dX8_notes_74 : decode cX8_notes 74 = .ok (.iadd, 1) := tb_d tk_X8_notes_2 1 (74, .iadd, 1) rfl
theorem dX8_notes_75 : decode cX8_notes 75 = .ok (.putfield 149, 3) := tb_d tk_X8_notes_2 2 (75, .putfield 149, 3) rfl
theorem dX8_notes_78 : decode cX8_notes 78 = .ok (.return_, 1) := tb_d tk_X8_notes_2 3 (78, .return_, 1) rfl
def tb_X8_forgets_1 : List (Nat × Instr × Nat) := [(0, .bipush 38, 2), (2, .istore_n 1, 1), (3, .iload_n 1, 1), (4, .bipush 65, 2), (6, .if_icmp .ge 16, 3), (9, .aload_n 0, 1), (10, .getfield 25, 3), (13, .iload_n 1, 1), (14, .iconst 0, 1), (15, .iastore, 1), (16, .iinc 1 1, 3), (19, .goto (-16), 3), (22, .aload_n 0, 1), (23, .getfield 25, 3), (26, .bipush 7, 2), (28, .iconst 0, 1), (29, .iastore, 1), (30, .return_, 1)]
set_option maxRecDepth 100000 in
theorem tk_X8_forgets_1 : (tb_X8_forgets_1.all fun q => decide (decode cX8_forgets q.1 = .ok q.2)) = true := by decide +kernel
theorem dX8_forgets_0 : decode cX8_forgets 0 = .ok (.bipush 38, 2) := tb_d tk_X8_forgets_1 0 (0, .bipush 38, 2) rfl
theorem dX8_forgets_2 : decode cX8_forgets 2 = .ok (.istore_n 1, 1) := tb_d tk_X8_forgets_1 1 (2, .istore_n 1, 1) rfl
theorem dX8_forgets_3 : decode cX8_forgets 3 = .ok (.iload_n 1, 1) := tb_d tk_X8_forgets_1 2 (3, .iload_n 1, 1) rfl
theorem dX8_forgets_4 : decode cX8_forgets 4 = .ok (.bipush 65, 2) := tb_d tk_X8_forgets_1 3 (4, .bipush 65, 2) rfl
theorem dX8_forgets_6 : decode cX8_forgets 6 = .ok (.if_icmp .ge 16, 3) := tb_d tk_X8_forgets_1 4 (6, .if_icmp .ge 16, 3) rfl
theorem dX8_forgets_9 : decode cX8_forgets 9 = .ok (.aload_n 0, 1) := tb_d tk_X8_forgets_1 5 (9, .aload_n 0, 1) rfl
theorem dX8_forgets_10 : decode cX8_forgets 10 = .ok (.getfield 25, 3) := tb_d tk_X8_forgets_1 6 (10, .getfield 25, 3) rfl
theorem dX8_forgets_13 : decode cX8_forgets 13 = .ok (.iload_n 1, 1) := tb_d tk_X8_forgets_1 7 (13, .iload_n 1, 1) rfl
theorem dX8_forgets_14 : decode cX8_forgets 14 = .ok (.iconst 0, 1) := tb_d tk_X8_forgets_1 8 (14, .iconst 0, 1) rfl
theorem dX8_forgets_15 : decode cX8_forgets 15 = .ok (.iastore, 1) := tb_d tk_X8_forgets_1 9 (15, .iastore, 1) rfl
theorem dX8_forgets_16 : decode cX8_forgets 16 = .ok (.iinc 1 1, 3) := tb_d tk_X8_forgets_1 10 (16, .iinc 1 1, 3) rfl
theorem dX8_forgets_19 : decode cX8_forgets 19 = .ok (.goto (-16), 3) := tb_d tk_X8_forgets_1 11 (19, .goto (-16), 3) rfl
theorem dX8_forgets_22 : decode cX8_forgets 22 = .ok (.aload_n 0, 1) := tb_d tk_X8_forgets_1 12 (22, .aload_n 0, 1) rfl
theorem dX8_forgets_23 : decode cX8_forgets 23 = .ok (.getfield 25, 3) := tb_d tk_X8_forgets_1 13 (23, .getfield 25, 3) rfl
theorem dX8_forgets_26 : decode cX8_forgets 26 = .ok (.bipush 7, 2) := tb_d tk_X8_forgets_1 14 (26, .bipush 7, 2) rfl
theorem dX8_forgets_28 : decode cX8_forgets 28 = .ok (.iconst 0, 1) := tb_d tk_X8_forgets_1 15 (28, .iconst 0, 1) rfl
theorem dX8_forgets_29 : decode cX8_forgets 29 = .ok (.iastore, 1) := tb_d tk_X8_forgets_1 16 (29, .iastore, 1) rfl
theorem dX8_forgets_30 : decode cX8_forgets 30 = .ok (.return_, 1) := tb_d tk_X8_forgets_1 17 (30, .return_, 1) rfl
theorem ggX8_nights_X8_isGate : GoodIn wsX8_nights wsX8_isGate := fun w h => ⟨List.mem_cons_of_mem _ (List.mem_append_right _ (List.mem_append_right _ (List.mem_append_right _ (List.mem_append_right _ (List.mem_append_right _ (List.mem_append_right _ (List.mem_append_right _ (List.mem_append_left _ h)))))))), good_of_word (gdX8_isGate w h)⟩
set_option maxRecDepth 20000 in
theorem gX8_nights_X8_isGate : GoodIn wsX8_nights (wsV RX8 180 RX8 yX8_isGate wsX8_isGate) := goodIn_app (a := bkV RX8 180 RX8 yX8_isGate) (fun w h => ⟨List.mem_cons_of_mem _ (List.mem_append_right _ (List.mem_append_left _ h)), good_of_word (gd_bV _ _ _ _ w h)⟩) ggX8_nights_X8_isGate
