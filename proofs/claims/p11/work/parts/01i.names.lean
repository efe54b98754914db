theorem dX8_man_160 : decode cX8_man 160 = .ok (.iload_n 1, 1) := tb_d tk_X8_man_3 0 (160, .iload_n 1, 1) rfl
theorem dX8_man_161 : decode cX8_man 161 = .ok (.ifCond .ne 8, 3) := tb_d tk_X8_man_3 1 (161, .ifCond .ne 8, 3) rfl
theorem dX8_man_164 : decode cX8_man 164 = .ok (.iload 4, 2) := tb_d tk_X8_man_3 2 (164, .iload 4, 2) rfl
theorem dX8_man_166 : decode cX8_man 166 = .ok (.goto 15, 3) := tb_d tk_X8_man_3 3 (166, .goto 15, 3) rfl
theorem dX8_man_169 : decode cX8_man 169 = .ok (.iload_n 1, 1) := tb_d tk_X8_man_3 4 (169, .iload_n 1, 1) rfl
theorem dX8_man_170 : decode cX8_man 170 = .ok (.iconst 1, 1) := tb_d tk_X8_man_3 5 (170, .iconst 1, 1) rfl
theorem dX8_man_171 : decode cX8_man 171 = .ok (.if_icmp .ne 8, 3) := tb_d tk_X8_man_3 6 (171, .if_icmp .ne 8, 3) rfl
theorem dX8_man_174 : decode cX8_man 174 = .ok (.iload 5, 2) := tb_d tk_X8_man_3 7 (174, .iload 5, 2) rfl
theorem dX8_man_176 : decode cX8_man 176 = .ok (.goto 5, 3) := tb_d tk_X8_man_3 8 (176, .goto 5, 3) rfl
theorem dX8_man_179 : decode cX8_man 179 = .ok (.iload 6, 2) := tb_d tk_X8_man_3 9 (179, .iload 6, 2) rfl
theorem dX8_man_181 : decode cX8_man 181 = .ok (.ireturn, 1) := tb_d tk_X8_man_3 10 (181, .ireturn, 1) rfl
theorem ggX8_menFor_X8_ones : GoodIn wsX8_menFor wsX8_ones := fun w h => ⟨List.mem_cons_of_mem _ (List.mem_append_right _ (List.mem_append_right _ (List.mem_append_right _ (List.mem_append_right _ (List.mem_append_left _ h))))), good_of_word (gdX8_ones w h)⟩
set_option maxRecDepth 20000 in
theorem gX8_menFor_X8_ones : GoodIn wsX8_menFor (va_wsS RX8 217 yX8_ones wsX8_ones) := goodIn_app (a := bkS RX8 217 yX8_ones) (fun w h => ⟨List.mem_cons_of_mem _ (List.mem_append_right _ (List.mem_append_left _ h)), good_of_word (gd_bS _ _ _ w h)⟩) ggX8_menFor_X8_ones
theorem ggX8_menFor_X8_takenOf : GoodIn wsX8_menFor wsX8_takenOf := fun w h => ⟨List.mem_cons_of_mem _ (List.mem_append_right _ (List.mem_append_right _ (List.mem_append_right _ (List.mem_append_right _ (List.mem_append_right _ (List.mem_append_left _ h)))))), good_of_word (gdX8_takenOf w h)⟩
set_option maxRecDepth 20000 in
theorem gX8_menFor_X8_takenOf : GoodIn wsX8_menFor (wsV RX8 220 RX8 yX8_takenOf wsX8_takenOf) := goodIn_app (a := bkV RX8 220 RX8 yX8_takenOf) (fun w h => ⟨List.mem_cons_of_mem _ (List.mem_append_right _ (List.mem_append_right _ (List.mem_append_left _ h))), good_of_word (gd_bV _ _ _ _ w h)⟩) ggX8_menFor_X8_takenOf
def tb_X8_menFor_1 : List (Nat × Instr × Nat) := [(0, .iload_n 1, 1), (1, .invokestatic 217, 3), (4, .iconst 2, 1), (5, .if_icmp .ge 5, 3), (8, .iconst 0, 1), (9, .ireturn, 1), (10, .ldc 50, 2), (12, .istore_n 2, 1), (13, .iconst 0, 1), (14, .istore_n 3, 1), (15, .iload_n 3, 1), (16, .aload_n 0, 1), (17, .getfield 25, 3), (20, .iconst 3, 1), (21, .iaload, 1), (22, .if_icmp .ge 134, 3), (25, .iconst 0, 1), (26, .istore 4, 2), (28, .iload 4, 2), (30, .bipush 6, 2), (32, .if_icmp .ge 118, 3), (35, .aload_n 0, 1), (36, .iload_n 1, 1), (37, .iload_n 3, 1), (38, .iload 4, 2), (40, .invokevirtual 220, 3), (43, .istore 5, 2), (45, .iload_n 1, 1), (46, .iload 5, 2), (48, .iconst (-1), 1), (49, .ixor, 1), (50, .iand, 1), (51, .istore 6, 2), (53, .iload 5, 2), (55, .ifCond .eq 89, 3), (58, .iload 6, 2), (60, .ifCond .eq 84, 3), (63, .aload_n 0, 1), (64, .getfield 44, 3), (67, .iload 5, 2)]
set_option maxRecDepth 100000 in
theorem tk_X8_menFor_1 : (tb_X8_menFor_1.all fun q => decide (decode cX8_menFor q.1 = .ok q.2)) = true := by decide +kernel
theorem dX8_menFor_0 : decode cX8_menFor 0 = .ok (.iload_n 1, 1) := tb_d tk_X8_menFor_1 0 (0, .iload_n 1, 1) rfl
theorem dX8_menFor_1 : decode cX8_menFor 1 = .ok (.invokestatic 217, 3) := tb_d tk_X8_menFor_1 1 (1, .invokestatic 217, 3) rfl
theorem dX8_menFor_4 : decode cX8_menFor 4 = .ok (.iconst 2, 1) := tb_d tk_X8_menFor_1 2 (4, .iconst 2, 1) rfl
theorem dX8_menFor_5 : decode cX8_menFor 5 = .ok (.if_icmp .ge 5, 3) := tb_d tk_X8_menFor_1 3 (5, .if_icmp .ge 5, 3) rfl
theorem dX8_menFor_8 : decode cX8_menFor 8 = .ok (.iconst 0, 1) := tb_d tk_X8_menFor_1 4 (8, .iconst 0, 1) rfl
theorem dX8_menFor_9 : decode cX8_menFor 9 = .ok (.ireturn, 1) := tb_d tk_X8_menFor_1 5 (9, .ireturn, 1) rfl
theorem dX8_menFor_10 : decode cX8_menFor 10 = .ok (.ldc 50, 2) := tb_d tk_X8_menFor_1 6 (10, .ldc 50, 2) rfl
theorem dX8_menFor_12 : decode cX8_menFor 12 = .ok (.istore_n 2, 1) := tb_d tk_X8_menFor_1 7 (12, .istore_n 2, 1) rfl
theorem dX8_menFor_13 : decode cX8_menFor 13 = .ok (.iconst 0, 1) := tb_d tk_X8_menFor_1 8 (13, .iconst 0, 1) rfl
theorem dX8_menFor_14 : decode cX8_menFor 14 = .ok (.istore_n 3, 1) := tb_d tk_X8_menFor_1 9 (14, .istore_n 3, 1) rfl
theorem dX8_menFor_15 : decode cX8_menFor 15 = .ok (.iload_n 3, 1) := tb_d tk_X8_menFor_1 10 (15, .iload_n 3, 1) rfl
theorem dX8_menFor_16 : decode cX8_menFor 16 = .ok (.aload_n 0, 1) := tb_d tk_X8_menFor_1 11 (16, .aload_n 0, 1) rfl
theorem dX8_menFor_17 : decode cX8_menFor 17 = .ok (.getfield 25, 3) := tb_d tk_X8_menFor_1 12 (17, .getfield 25, 3) rfl
theorem dX8_menFor_20 : decode cX8_menFor 20 = .ok (.iconst 3, 1) := tb_d tk_X8_menFor_1 13 (20, .iconst 3, 1) rfl
theorem dX8_menFor_21 : decode cX8_menFor 21 = .ok (.iaload, 1) := tb_d tk_X8_menFor_1 14 (21, .iaload, 1) rfl
theorem dX8_menFor_22 : decode cX8_menFor 22 = .ok (.if_icmp .ge 134, 3) := tb_d tk_X8_menFor_1 15 (22, .if_icmp .ge 134, 3) rfl
theorem dX8_menFor_25 : decode cX8_menFor 25 = .ok (.iconst 0, 1) := tb_d tk_X8_menFor_1 16 (25, .iconst 0, 1) rfl
theorem dX8_menFor_26 : decode cX8_menFor 26 = .ok (.istore 4, 2) := tb_d tk_X8_menFor_1 17 (26, .istore 4, 2) rfl
theorem dX8_menFor_28 : decode cX8_menFor 28 = .ok (.iload 4, 2) := tb_d tk_X8_menFor_1 18 (28, .iload 4, 2) rfl
theorem dX8_menFor_30 : decode cX8_menFor 30 = .ok (.bipush 6, 2) := tb_d tk_X8_menFor_1 19 (30, .bipush 6, 2) rfl
theorem dX8_menFor_32 : decode cX8_menFor 32 = .ok (.if_icmp .ge 118, 3) := tb_d tk_X8_menFor_1 20 (32, .if_icmp .ge 118, 3) rfl
theorem dX8_menFor_35 : decode cX8_menFor 35 = .ok (.aload_n 0, 1) := tb_d tk_X8_menFor_1 21 (35, .aload_n 0, 1) rfl
theorem dX8_menFor_36 : decode cX8_menFor 36 = .ok (.iload_n 1, 1) := tb_d tk_X8_menFor_1 22 (36, .iload_n 1, 1) rfl
theorem dX8_menFor_37 : decode cX8_menFor 37 = .ok (.iload_n 3, 1) := tb_d tk_X8_menFor_1 23 (37, .iload_n 3, 1) rfl
theorem dX8_menFor_38 : decode cX8_menFor 38 = .ok (.iload 4, 2) := tb_d tk_X8_menFor_1 24 (38, .iload 4, 2) rfl
theorem dX8_menFor_40 : decode cX8_menFor 40 = .ok (.invokevirtual 220, 3) := tb_d tk_X8_menFor_1 25 (40, .invokevirtual 220, 3) rfl
theorem dX8_menFor_43 : decode cX8_menFor 43 = .ok (.istore 5, 2) := tb_d tk_X8_menFor_1 26 (43, .istore 5, 2) rfl
theorem dX8_menFor_45 : decode cX8_menFor 45 = .ok (.iload_n 1, 1) := tb_d tk_X8_menFor_1 27 (45, .iload_n 1, 1) rfl
theorem dX8_menFor_46 : decode cX8_menFor 46 = .ok (.iload 5, 2) := tb_d tk_X8_menFor_1 28 (46, .iload 5, 2) rfl
theorem dX8_menFor_48 : decode cX8_menFor 48 = .ok (.iconst (-1), 1) := tb_d tk_X8_menFor_1 29 (48, .iconst (-1), 1) rfl
theorem dX8_menFor_49 : decode cX8_menFor 49 = .ok (.ixor, 1) := tb_d tk_X8_menFor_1 30 (49, .ixor, 1) rfl
theorem dX8_menFor_50 : decode cX8_menFor 50 = .ok (.iand, 1) := tb_d tk_X8_menFor_1 31 (50, .iand, 1) rfl
theorem dX8_menFor_51 : decode cX8_menFor 51 = .ok (.istore 6, 2) := tb_d tk_X8_menFor_1 32 (51, .istore 6, 2) rfl
theorem dX8_menFor_53 : decode cX8_menFor 53 = .ok (.iload 5, 2) := tb_d tk_X8_menFor_1 33 (53, .iload 5, 2) rfl
theorem dX8_menFor_55 : decode cX8_menFor 55 = .ok (.ifCond .eq 89, 3) := tb_d tk_X8_menFor_1 34 (55, .ifCond .eq 89, 3) rfl
theorem dX8_menFor_58 : decode cX8_menFor 58 = .ok (.iload 6, 2) := tb_d tk_X8_menFor_1 35 (58, .iload 6, 2) rfl
theorem dX8_menFor_60 : decode cX8_menFor 60 = .ok (.ifCond .eq 84, 3) := tb_d tk_X8_menFor_1 36 (60, .ifCond .eq 84, 3) rfl
theorem dX8_menFor_63 : decode cX8_menFor 63 = .ok (.aload_n 0, 1) := tb_d tk_X8_menFor_1 37 (63, .aload_n 0, 1) rfl
theorem dX8_menFor_64 : decode cX8_menFor 64 = .ok (.getfield 44, 3) := tb_d tk_X8_menFor_1 38 (64, .getfield 44, 3) rfl
theorem dX8_menFor_67 : decode cX8_menFor 67 = .ok (.iload 5, 2) := tb_d tk_X8_menFor_1 39 (67, .iload 5, 2) rfl
def tb_X8_menFor_2 : List (Nat × Instr × Nat) := [(69, .iaload, 1), (70, .ldc 50, 2), (72, .if_icmp .eq 72, 3), (75, .aload_n 0, 1), (76, .getfield 44, 3), (79, .iload 6, 2), (81, .iaload, 1), (82, .ldc 50, 2), (84, .if_icmp .eq 60, 3), (87, .iconst 1, 1), (88, .aload_n 0, 1), (89, .getfield 44, 3), (92, .iload 5, 2), (94, .iaload, 1), (95, .aload_n 0, 1), (96, .getfield 44, 3), (99, .iload 6, 2), (101, .iaload, 1), (102, .if_icmp .le 13, 3), (105, .aload_n 0, 1), (106, .getfield 44, 3), (109, .iload 5, 2), (111, .iaload, 1), (112, .goto 10, 3), (115, .aload_n 0, 1), (116, .getfield 44, 3), (119, .iload 6, 2), (121, .iaload, 1), (122, .iadd, 1), (123, .istore 7, 2), (125, .iload_n 2, 1), (126, .ldc 50, 2), (128, .if_icmp .eq 9, 3), (131, .iload 7, 2), (133, .iload_n 2, 1), (134, .if_icmp .ge 8, 3), (137, .iload 7, 2), (139, .goto 4, 3), (142, .iload_n 2, 1), (143, .istore_n 2, 1)]
set_option maxRecDepth 100000 in
theorem tk_X8_menFor_2 : (tb_X8_menFor_2.all fun q => decide (decode cX8_menFor q.1 = .ok q.2)) = true := by decide +kernel
theorem dX8_menFor_69 : decode cX8_menFor 69 = .ok (.iaload, 1) := tb_d tk_X8_menFor_2 0 (69, .iaload, 1) rfl
theorem dX8_menFor_70 : decode cX8_menFor 70 = .ok (.ldc 50, 2) := tb_d tk_X8_menFor_2 1 (70, .ldc 50, 2) rfl
theorem dX8_menFor_72 : decode cX8_menFor 72 = .ok (.if_icmp .eq 72, 3) := tb_d tk_X8_menFor_2 2 (72, .if_icmp .eq 72, 3) rfl
theorem dX8_menFor_75 : decode cX8_menFor 75 = .ok (.aload_n 0, 1) := tb_d tk_X8_menFor_2 3 (75, .aload_n 0, 1) rfl
theorem dX8_menFor_76 : decode cX8_menFor 76 = .ok (.getfield 44, 3) := tb_d tk_X8_menFor_2 4 (76, .getfield 44, 3) rfl
theorem dX8_menFor_79 : decode cX8_menFor 79 = .ok (.iload 6, 2) := tb_d tk_X8_menFor_2 5 (79, .iload 6, 2) rfl
theorem dX8_menFor_81 : decode cX8_menFor 81 = .ok (.iaload, 1) := tb_d tk_X8_menFor_2 6 (81, .iaload, 1) rfl
theorem dX8_menFor_82 : decode cX8_menFor 82 = .ok (.ldc 50, 2) := tb_d tk_X8_menFor_2 7 (82, .ldc 50, 2) rfl
theorem dX8_menFor_84 : decode cX8_menFor 84 = .ok (.if_icmp .eq 60, 3) := tb_d tk_X8_menFor_2 8 (84, .if_icmp .eq 60, 3) rfl
theorem dX8_menFor_87 : decode cX8_menFor 87 = .ok (.iconst 1, 1) := tb_d tk_X8_menFor_2 9 (87, .iconst 1, 1) rfl
theorem dX8_menFor_88 : decode cX8_menFor 88 = .ok (.aload_n 0, 1) := tb_d tk_X8_menFor_2 10 (88, .aload_n 0, 1) rfl
theorem dX8_menFor_89 : decode cX8_menFor 89 = .ok (.getfield 44, 3) := tb_d tk_X8_menFor_2 11 (89, .getfield 44, 3) rfl
theorem dX8_menFor_92 : decode cX8_menFor 92 = .ok (.iload 5, 2) := tb_d tk_X8_menFor_2 12 (92, .iload 5, 2) rfl
theorem dX8_menFor_94 : decode cX8_menFor 94 = .ok (.iaload, 1) := tb_d tk_X8_menFor_2 13 (94, .iaload, 1) rfl
theorem dX8_menFor_95 : decode cX8_menFor 95 = .ok (.aload_n 0, 1) := tb_d tk_X8_menFor_2 14 (95, .aload_n 0, 1) rfl
theorem dX8_menFor_96 : decode cX8_menFor 96 = .ok (.getfield 44, 3) := tb_d tk_X8_menFor_2 15 (96, .getfield 44, 3) rfl
theorem dX8_menFor_99 : decode cX8_menFor 99 = .ok (.iload 6, 2) := tb_d tk_X8_menFor_2 16 (99, .iload 6, 2) rfl
theorem dX8_menFor_101 : decode cX8_menFor 101 = .ok (.iaload, 1) := tb_d tk_X8_menFor_2 17 (101, .iaload, 1) rfl
theorem dX8_menFor_102 : decode cX8_menFor 102 = .ok (.if_icmp .le 13, 3) := tb_d tk_X8_menFor_2 18 (102, .if_icmp .le 13, 3) rfl
theorem dX8_menFor_105 : decode cX8_menFor 105 = .ok (.aload_n 0, 1) := tb_d tk_X8_menFor_2 19 (105, .aload_n 0, 1) rfl
theorem dX8_menFor_106 : decode cX8_menFor 106 = .ok (.getfield 44, 3) := tb_d tk_X8_menFor_2 20 (106, .getfield 44, 3) rfl
theorem dX8_menFor_109 : decode cX8_menFor 109 = .ok (.iload 5, 2) := tb_d tk_X8_menFor_2 21 (109, .iload 5, 2) rfl
theorem dX8_menFor_111 : decode cX8_menFor 111 = .ok (.iaload, 1) := tb_d tk_X8_menFor_2 22 (111, .iaload, 1) rfl
theorem dX8_menFor_112 : decode cX8_menFor 112 = .ok (.goto 10, 3) := tb_d tk_X8_menFor_2 23 (112, .goto 10, 3) rfl
theorem dX8_menFor_115 : decode cX8_menFor 115 = .ok (.aload_n 0, 1) := tb_d tk_X8_menFor_2 24 (115, .aload_n 0, 1) rfl
theorem dX8_menFor_116 : decode cX8_menFor 116 = .ok (.getfield 44, 3) := tb_d tk_X8_menFor_2 25 (116, .getfield 44, 3) rfl
theorem dX8_menFor_119 : decode cX8_menFor 119 = .ok (.iload 6, 2) := tb_d tk_X8_menFor_2 26 (119, .iload 6, 2) rfl
theorem dX8_menFor_121 : decode cX8_menFor 121 = .ok (.iaload, 1) := tb_d tk_X8_menFor_2 27 (121, .iaload, 1) rfl
theorem dX8_menFor_122 : decode cX8_menFor 122 = .ok (.iadd, 1) := tb_d tk_X8_menFor_2 28 (122, .iadd, 1) rfl
theorem dX8_menFor_123 : decode cX8_menFor 123 = .ok (.istore 7, 2) := tb_d tk_X8_menFor_2 29 (123, .istore 7, 2) rfl
theorem dX8_menFor_125 : decode cX8_menFor 125 = .ok (.iload_n 2, 1) := tb_d tk_X8_menFor_2 30 (125, .iload_n 2, 1) rfl
theorem dX8_menFor_126 : decode cX8_menFor 126 = .ok (.ldc 50, 2) := tb_d tk_X8_menFor_2 31 (126, .ldc 50, 2) rfl
theorem dX8_menFor_128 : decode cX8_menFor 128 = .ok (.if_icmp .eq 9, 3) := tb_d tk_X8_menFor_2 32 (128, .if_icmp .eq 9, 3) rfl
theorem dX8_menFor_131 : decode cX8_menFor 131 = .ok (.iload 7, 2) := tb_d tk_X8_menFor_2 33 (131, .iload 7, 2) rfl
theorem dX8_menFor_133 : decode cX8_menFor 133 = .ok (.iload_n 2, 1) := tb_d tk_X8_menFor_2 34 (133, .iload_n 2, 1) rfl
theorem dX8_menFor_134 : decode cX8_menFor 134 = .ok (.if_icmp .ge 8, 3) := tb_d tk_X8_menFor_2 35 (134, .if_icmp .ge 8, 3) rfl
theorem dX8_menFor_137 : decode cX8_menFor 137 = .ok (.iload 7, 2) := tb_d tk_X8_menFor_2 36 (137, .iload 7, 2) rfl
theorem dX8_menFor_139 : decode cX8_menFor 139 = .ok (.goto 4, 3) := tb_d tk_X8_menFor_2 37 (139, .goto 4, 3) rfl
theorem dX8_menFor_142 : decode cX8_menFor 142 = .ok (.iload_n 2, 1) := tb_d tk_X8_menFor_2 38 (142, .iload_n 2, 1) rfl
theorem dX8_menFor_143 : decode cX8_menFor 143 = .ok (.istore_n 2, 1) := tb_d tk_X8_menFor_2 39 (143, .istore_n 2, 1) rfl
def tb_X8_menFor_3 : List (Nat × Instr × Nat) := [(144, .iinc 4 1, 3), (147, .goto (-119), 3), (150, .iinc 3 1, 3), (153, .goto (-138), 3), (156, .iload_n 2, 1), (157, .ireturn, 1)]
set_option maxRecDepth 100000 in
theorem tk_X8_menFor_3 : (tb_X8_menFor_3.all fun q => decide (decode cX8_menFor q.1 = .ok q.2)) = true := by decide +kernel
theorem dX8_menFor_144 : decode cX8_menFor 144 = .ok (.iinc 4 1, 3) := tb_d tk_X8_menFor_3 0 (144, .iinc 4 1, 3) rfl
theorem dX8_menFor_147 : decode cX8_menFor 147 = .ok (.goto (-119), 3) := tb_d tk_X8_menFor_3 1 (147, .goto (-119), 3) rfl
theorem dX8_menFor_150 : decode cX8_menFor 150 = .ok (.iinc 3 1, 3) := tb_d tk_X8_menFor_3 2 (150, .iinc 3 1, 3) rfl
theorem dX8_menFor_153 : decode cX8_menFor 153 = .ok (.goto (-138), 3) := tb_d tk_X8_menFor_3 3 (153, .goto (-138), 3) rfl
theorem dX8_menFor_156 : decode cX8_menFor 156 = .ok (.iload_n 2, 1) := tb_d tk_X8_menFor_3 4 (156, .iload_n 2, 1) rfl
theorem dX8_menFor_157 : decode cX8_menFor 157 = .ok (.ireturn, 1) := tb_d tk_X8_menFor_3 5 (157, .ireturn, 1) rfl
theorem ggX8_fewest_X8_isGate : GoodIn wsX8_fewest wsX8_isGate := fun w h => ⟨List.mem_cons_of_mem _ (List.mem_append_right _ (List.mem_append_right _ (List.mem_append_right _ (List.mem_append_right _ (List.mem_append_right _ (List.mem_append_left _ h)))))), good_of_word (gdX8_isGate w h)⟩
set_option maxRecDepth 20000 in
theorem gX8_fewest_X8_isGate : GoodIn wsX8_fewest (wsV RX8 180 RX8 yX8_isGate wsX8_isGate) := goodIn_app (a := bkV RX8 180 RX8 yX8_isGate) (fun w h => ⟨List.mem_cons_of_mem _ (List.mem_append_right _ (List.mem_append_left _ h)), good_of_word (gd_bV _ _ _ _ w h)⟩) ggX8_fewest_X8_isGate
theorem ggX8_fewest_X8_agreeing : GoodIn wsX8_fewest wsX8_agreeing := fun w h => ⟨List.mem_cons_of_mem _ (List.mem_append_right _ (List.mem_append_right _ (List.mem_append_right _ (List.mem_append_right _ (List.mem_append_right _ (List.mem_append_right _ (List.mem_append_left _ h))))))), good_of_word (gdX8_agreeing w h)⟩
set_option maxRecDepth 20000 in
theorem gX8_fewest_X8_agreeing : GoodIn wsX8_fewest (wsV RX8 214 RX8 yX8_agreeing wsX8_agreeing) := goodIn_app (a := bkV RX8 214 RX8 yX8_agreeing) (fun w h => ⟨List.mem_cons_of_mem _ (List.mem_append_right _ (List.mem_append_right _ (List.mem_append_left _ h))), good_of_word (gd_bV _ _ _ _ w h)⟩) ggX8_fewest_X8_agreeing
theorem ggX8_fewest_X8_menFor : GoodIn wsX8_fewest wsX8_menFor := fun w h => ⟨List.mem_cons_of_mem _ (List.mem_append_right _ (List.mem_append_right _ (List.mem_append_right _ (List.mem_append_right _ (List.mem_append_right _ (List.mem_append_right _ (List.mem_append_right _ (List.mem_append_left _ h)))))))), good_of_word (gdX8_menFor w h)⟩
set_option maxRecDepth 20000 in
theorem gX8_fewest_X8_menFor : GoodIn wsX8_fewest (wsV RX8 224 RX8 yX8_menFor wsX8_menFor) := goodIn_app (a := bkV RX8 224 RX8 yX8_menFor) (fun w h => ⟨List.mem_cons_of_mem _ (List.mem_append_right _ (List.mem_append_right _ (List.mem_append_right _ (List.mem_append_left _ h)))), good_of_word (gd_bV _ _ _ _ w h)⟩) ggX8_fewest_X8_menFor
def tb_X8_fewest_1 : List (Nat × Instr × Nat) := [(0, .aload_n 0, 1), (1, .invokevirtual 180, 3), (4, .ifCond .ne 6, 3), (7, .ldc 183, 2), (9, .ireturn, 1), (10, .aload_n 0, 1), (11, .invokevirtual 214, 3), (14, .istore_n 1, 1), (15, .iconst 0, 1), (16, .istore_n 2, 1), (17, .iload_n 2, 1), (18, .iload_n 1, 1), (19, .if_icmp .gt 20, 3), (22, .aload_n 0, 1), (23, .getfield 44, 3), (26, .iload_n 2, 1), (27, .aload_n 0, 1), (28, .iload_n 2, 1), (29, .invokevirtual 224, 3), (32, .iastore, 1), (33, .iinc 2 1, 3), (36, .goto (-19), 3), (39, .aload_n 0, 1), (40, .getfield 44, 3), (43, .iload_n 1, 1), (44, .iaload, 1), (45, .ireturn, 1)]
set_option maxRecDepth 100000 in
theorem tk_X8_fewest_1 : (tb_X8_fewest_1.all fun q => decide (decode cX8_fewest q.1 = .ok q.2)) = true := by decide +kernel
theorem dX8_fewest_0 : decode cX8_fewest 0 = .ok (.aload_n 0, 1) := tb_d tk_X8_fewest_1 0 (0, .aload_n 0, 1) rfl
theorem dX8_fewest_1 : decode cX8_fewest 1 = .ok (.invokevirtual 180, 3) := tb_d tk_X8_fewest_1 1 (1, .invokevirtual 180, 3) rfl
theorem dX8_fewest_4 : decode cX8_fewest 4 = .ok (.ifCond .ne 6, 3) := tb_d tk_X8_fewest_1 2 (4, .ifCond .ne 6, 3) rfl
theorem dX8_fewest_7 : decode cX8_fewest 7 = .ok (.ldc 183, 2) := tb_d tk_X8_fewest_1 3 (7, .ldc 183, 2) rfl
theorem dX8_fewest_9 : decode cX8_fewest 9 = .ok (.ireturn, 1) := tb_d tk_X8_fewest_1 4 (9, .ireturn, 1) rfl
theorem dX8_fewest_10 : decode cX8_fewest 10 = .ok (.aload_n 0, 1) := tb_d tk_X8_fewest_1 5 (10, .aload_n 0, 1) rfl
theorem dX8_fewest_11 : decode cX8_fewest 11 = .ok (.invokevirtual 214, 3) := tb_d tk_X8_fewest_1 6 (11, .invokevirtual 214, 3) rfl
theorem dX8_fewest_14 : decode cX8_fewest 14 = .ok (.istore_n 1, 1) := tb_d tk_X8_fewest_1 7 (14, .istore_n 1, 1) rfl
theorem dX8_fewest_15 : decode cX8_fewest 15 = .ok (.iconst 0, 1) := tb_d tk_X8_fewest_1 8 (15, .iconst 0, 1) rfl
theorem dX8_fewest_16 : decode cX8_fewest 16 = .ok (.istore_n 2, 1) := tb_d tk_X8_fewest_1 9 (16, .istore_n 2, 1) rfl
theorem dX8_fewest_17 : decode cX8_fewest 17 = .ok (.iload_n 2, 1) := tb_d tk_X8_fewest_1 10 (17, .iload_n 2, 1) rfl
theorem dX8_fewest_18 : decode cX8_fewest 18 = .ok (.iload_n 1, 1) := tb_d tk_X8_fewest_1 11 (18, .iload_n 1, 1) rfl
theorem dX8_fewest_19 : decode cX8_fewest 19 = .ok (.if_icmp .gt 20, 3) := tb_d tk_X8_fewest_1 12 (19, .if_icmp .gt 20, 3) rfl
theorem dX8_fewest_22 : decode cX8_fewest 22 = .ok (.aload_n 0, 1) := tb_d tk_X8_fewest_1 13 (22, .aload_n 0, 1) rfl
theorem dX8_fewest_23 : decode cX8_fewest 23 = .ok (.getfield 44, 3) := tb_d tk_X8_fewest_1 14 (23, .getfield 44, 3) rfl
theorem dX8_fewest_26 : decode cX8_fewest 26 = .ok (.iload_n 2, 1) := tb_d tk_X8_fewest_1 15 (26, .iload_n 2, 1) rfl
theorem dX8_fewest_27 : decode cX8_fewest 27 = .ok (.aload_n 0, 1) := tb_d tk_X8_fewest_1 16 (27, .aload_n 0, 1) rfl
theorem dX8_fewest_28 : decode cX8_fewest 28 = .ok (.iload_n 2, 1) := tb_d tk_X8_fewest_1 17 (28, .iload_n 2, 1) rfl
theorem dX8_fewest_29 : decode cX8_fewest 29 = .ok (.invokevirtual 224, 3) := tb_d tk_X8_fewest_1 18 (29, .invokevirtual 224, 3) rfl
theorem dX8_fewest_32 : decode cX8_fewest 32 = .ok (.iastore, 1) := tb_d tk_X8_fewest_1 19 (32, .iastore, 1) rfl
theorem dX8_fewest_33 : decode cX8_fewest 33 = .ok (.iinc 2 1, 3) := tb_d tk_X8_fewest_1 20 (33, .iinc 2 1, 3) rfl
theorem dX8_fewest_36 : decode cX8_fewest 36 = .ok (.goto (-19), 3) := tb_d tk_X8_fewest_1 21 (36, .goto (-19), 3) rfl
theorem dX8_fewest_39 : decode cX8_fewest 39 = .ok (.aload_n 0, 1) := tb_d tk_X8_fewest_1 22 (39, .aload_n 0, 1) rfl
theorem dX8_fewest_40 : decode cX8_fewest 40 = .ok (.getfield 44, 3) := tb_d tk_X8_fewest_1 23 (40, .getfield 44, 3) rfl
theorem dX8_fewest_43 : decode cX8_fewest 43 = .ok (.iload_n 1, 1) := tb_d tk_X8_fewest_1 24 (43, .iload_n 1, 1) rfl
theorem dX8_fewest_44 : decode cX8_fewest 44 = .ok (.iaload, 1) := tb_d tk_X8_fewest_1 25 (44, .iaload, 1) rfl
theorem dX8_fewest_45 : decode cX8_fewest 45 = .ok (.ireturn, 1) := tb_d tk_X8_fewest_1 26 (45, .ireturn, 1) rfl
theorem ggX8_march_X8_isGate : GoodIn wsX8_march wsX8_isGate := fun w h => ⟨List.mem_cons_of_mem _ (List.mem_append_right _ (List.mem_append_right _ (List.mem_append_right _ (List.mem_append_right _ (List.mem_append_right _ (List.mem_append_right _ (List.mem_append_right _ (List.mem_append_right _ (List.mem_append_right _ (List.mem_append_right _ (List.mem_append_right _ (List.mem_append_left _ h)))))))))))), good_of_word (gdX8_isGate w h)⟩
set_option maxRecDepth 20000 in
theorem gX8_march_X8_isGate : GoodIn wsX8_march (wsV RX8 180 RX8 yX8_isGate wsX8_isGate) := goodIn_app (a := bkV RX8 180 RX8 yX8_isGate) (fun w h => ⟨List.mem_cons_of_mem _ (List.mem_append_right _ (List.mem_append_left _ h)), good_of_word (gd_bV _ _ _ _ w h)⟩) ggX8_march_X8_isGate
theorem ggX8_march_X8_isRow : GoodIn wsX8_march wsX8_isRow := fun w h => ⟨List.mem_cons_of_mem _ (List.mem_append_right _ (List.mem_append_right _ (List.mem_append_right _ (List.mem_append_right _ (List.mem_append_right _ (List.mem_append_right _ (List.mem_append_right _ (List.mem_append_right _ (List.mem_append_right _ (List.mem_append_right _ (List.mem_append_right _ (List.mem_append_right _ (List.mem_append_left _ h))))))))))))), good_of_word (gdX8_isRow w h)⟩
set_option maxRecDepth 20000 in
theorem gX8_march_X8_isRow : GoodIn wsX8_march (va_wsS RX8 60 yX8_isRow wsX8_isRow) := goodIn_app (a := bkS RX8 60 yX8_isRow) (fun w h => ⟨List.mem_cons_of_mem _ (List.mem_append_right _ (List.mem_append_right _ (List.mem_append_left _ h))), good_of_word (gd_bS _ _ _ w h)⟩) ggX8_march_X8_isRow
theorem ggX8_march_X8_in : GoodIn wsX8_march wsX8_in := fun w h => ⟨List.mem_cons_of_mem _ (List.mem_append_right _ (List.mem_append_right _ (List.mem_append_right _ (List.mem_append_right _ (List.mem_append_right _ (List.mem_append_right _ (List.mem_append_right _ (List.mem_append_right _ (List.mem_append_right _ (List.mem_append_right _ (List.mem_append_right _ (List.mem_append_right _ (List.mem_append_right _ (List.mem_append_left _ h)))))))))))))), good_of_word (gdX8_in w h)⟩
set_option maxRecDepth 20000 in
theorem gX8_march_X8_in : GoodIn wsX8_march (va_wsS RX8 56 yX8_in wsX8_in) := goodIn_app (a := bkS RX8 56 yX8_in) (fun w h => ⟨List.mem_cons_of_mem _ (List.mem_append_right _ (List.mem_append_right _ (List.mem_append_right _ (List.mem_append_left _ h)))), good_of_word (gd_bS _ _ _ w h)⟩) ggX8_march_X8_in
theorem ggX8_march_X8_isMissing : GoodIn wsX8_march wsX8_isMissing := fun w h => ⟨List.mem_cons_of_mem _ (List.mem_append_right _ (List.mem_append_right _ (List.mem_append_right _ (List.mem_append_right _ (List.mem_append_right _ (List.mem_append_right _ (List.mem_append_right _ (List.mem_append_right _ (List.mem_append_right _ (List.mem_append_right _ (List.mem_append_right _ (List.mem_append_right _ (List.mem_append_right _ (List.mem_append_right _ (List.mem_append_left _ h))))))))))))))), good_of_word (gdX8_isMissing w h)⟩
set_option maxRecDepth 20000 in
theorem gX8_march_X8_isMissing : GoodIn wsX8_march (wsV RX8 72 RX8 yX8_isMissing wsX8_isMissing) := goodIn_app (a := bkV RX8 72 RX8 yX8_isMissing) (fun w h => ⟨List.mem_cons_of_mem _ (List.mem_append_right _ (List.mem_append_right _ (List.mem_append_right _ (List.mem_append_right _ (List.mem_append_left _ h))))), good_of_word (gd_bV _ _ _ _ w h)⟩) ggX8_march_X8_isMissing
theorem ggX8_march_X8_found : GoodIn wsX8_march wsX8_found := fun w h => ⟨List.mem_cons_of_mem _ (List.mem_append_right _ (List.mem_append_right _ (List.mem_append_right _ (List.mem_append_right _ (List.mem_append_right _ (List.mem_append_right _ (List.mem_append_right _ (List.mem_append_right _ (List.mem_append_right _ (List.mem_append_right _ (List.mem_append_right _ (List.mem_append_right _ (List.mem_append_right _ (List.mem_append_right _ (List.mem_append_right _ (List.mem_append_left _ h)))))))))))))))), good_of_word (gdX8_found w h)⟩
set_option maxRecDepth 20000 in
theorem gX8_march_X8_found : GoodIn wsX8_march (wsV RX8 65 RX8 yX8_found wsX8_found) := goodIn_app (a := bkV RX8 65 RX8 yX8_found) (fun w h => ⟨List.mem_cons_of_mem _ (List.mem_append_right _ (List.mem_append_right _ (List.mem_append_right _ (List.mem_append_right _ (List.mem_append_right _ (List.mem_append_left _ h)))))), good_of_word (gd_bV _ _ _ _ w h)⟩) ggX8_march_X8_found
theorem ggX8_march_X8_isPart : GoodIn wsX8_march wsX8_isPart := fun w h => ⟨List.mem_cons_of_mem _ (List.mem_append_right _ (List.mem_append_right _ (List.mem_append_right _ (List.mem_append_right _ (List.mem_append_right _ (List.mem_append_right _ (List.mem_append_right _ (List.mem_append_right _ (List.mem_append_right _ (List.mem_append_right _ (List.mem_append_right _ (List.mem_append_right _ (List.mem_append_right _ (List.mem_append_right _ (List.mem_append_right _ (List.mem_append_right _ (List.mem_append_left _ h))))))))))))))))), good_of_word (gdX8_isPart w h)⟩
set_option maxRecDepth 20000 in
theorem gX8_march_X8_isPart : GoodIn wsX8_march (wsV RX8 79 RX8 yX8_isPart wsX8_isPart) := goodIn_app (a := bkV RX8 79 RX8 yX8_isPart) (fun w h => ⟨List.mem_cons_of_mem _ (List.mem_append_right _ (List.mem_append_right _ (List.mem_append_right _ (List.mem_append_right _ (List.mem_append_right _ (List.mem_append_right _ (List.mem_append_left _ h))))))), good_of_word (gd_bV _ _ _ _ w h)⟩) ggX8_march_X8_isPart
theorem ggX8_march_X8_isWord : GoodIn wsX8_march wsX8_isWord := fun w h => ⟨List.mem_cons_of_mem _ (List.mem_append_right _ (List.mem_append_right _ (List.mem_append_right _ (List.mem_append_right _ (List.mem_append_right _ (List.mem_append_right _ (List.mem_append_right _ (List.mem_append_right _ (List.mem_append_right _ (List.mem_append_right _ (List.mem_append_right _ (List.mem_append_right _ (List.mem_append_right _ (List.mem_append_right _ (List.mem_append_right _ (List.mem_append_right _ (List.mem_append_right _ (List.mem_append_left _ h)))))))))))))))))), good_of_word (gdX8_isWord w h)⟩
set_option maxRecDepth 20000 in
theorem gX8_march_X8_isWord : GoodIn wsX8_march (wsV RX8 190 RX8 yX8_isWord wsX8_isWord) := goodIn_app (a := bkV RX8 190 RX8 yX8_isWord) (fun w h => ⟨List.mem_cons_of_mem _ (List.mem_append_right _ (List.mem_append_right _ (List.mem_append_right _ (List.mem_append_right _ (List.mem_append_right _ (List.mem_append_right _ (List.mem_append_right _ (List.mem_append_left _ h)))))))), good_of_word (gd_bV _ _ _ _ w h)⟩) ggX8_march_X8_isWord
theorem ggX8_march_X8_isTakenNow : GoodIn wsX8_march wsX8_isTakenNow := fun w h => ⟨List.mem_cons_of_mem _ (List.mem_append_right _ (List.mem_append_right _ (List.mem_append_right _ (List.mem_append_right _ (List.mem_append_right _ (List.mem_append_right _ (List.mem_append_right _ (List.mem_append_right _ (List.mem_append_right _ (List.mem_append_right _ (List.mem_append_right _ (List.mem_append_right _ (List.mem_append_right _ (List.mem_append_right _ (List.mem_append_right _ (List.mem_append_right _ (List.mem_append_right _ (List.mem_append_right _ (List.mem_append_left _ h))))))))))))))))))), good_of_word (gdX8_isTakenNow w h)⟩
set_option maxRecDepth 20000 in
theorem gX8_march_X8_isTakenNow : GoodIn wsX8_march (wsV RX8 196 RX8 yX8_isTakenNow wsX8_isTakenNow) := goodIn_app (a := bkV RX8 196 RX8 yX8_isTakenNow) (fun w h => ⟨List.mem_cons_of_mem _ (List.mem_append_right _ (List.mem_append_right _ (List.mem_append_right _ (List.mem_append_right _ (List.mem_append_right _ (List.mem_append_right _ (List.mem_append_right _ (List.mem_append_right _ (List.mem_append_left _ h))))))))), good_of_word (gd_bV _ _ _ _ w h)⟩) ggX8_march_X8_isTakenNow
theorem ggX8_march_X8_well : GoodIn wsX8_march wsX8_well := fun w h => ⟨List.mem_cons_of_mem _ (List.mem_append_right _ (List.mem_append_right _ (List.mem_append_right _ (List.mem_append_right _ (List.mem_append_right _ (List.mem_append_right _ (List.mem_append_right _ (List.mem_append_right _ (List.mem_append_right _ (List.mem_append_right _ (List.mem_append_right _ (List.mem_append_right _ (List.mem_append_right _ (List.mem_append_right _ (List.mem_append_right _ (List.mem_append_right _ (List.mem_append_right _ (List.mem_append_right _ (List.mem_append_right _ (List.mem_append_left _ h)))))))))))))))))))), good_of_word (gdX8_well w h)⟩
set_option maxRecDepth 20000 in
theorem gX8_march_X8_well : GoodIn wsX8_march (wsV RX8 69 RX8 yX8_well wsX8_well) := goodIn_app (a := bkV RX8 69 RX8 yX8_well) (fun w h => ⟨List.mem_cons_of_mem _ (List.mem_append_right _ (List.mem_append_right _ (List.mem_append_right _ (List.mem_append_right _ (List.mem_append_right _ (List.mem_append_right _ (List.mem_append_right _ (List.mem_append_right _ (List.mem_append_right _ (List.mem_append_left _ h)))))))))), good_of_word (gd_bV _ _ _ _ w h)⟩) ggX8_march_X8_well
def tb_X8_march_1 : List (Nat × Instr × Nat) := [(0, .aload_n 0, 1), (1, .invokevirtual 180, 3), (4, .ifCond .ne 6, 3), (7, .ldc 183, 2), (9, .ireturn, 1), (10, .iload_n 1, 1), (11, .invokestatic 60, 3), (14, .ifCond .eq 25, 3), (17, .iload_n 3, 1), (18, .iconst 1, 1), (19, .bipush 6, 2), (21, .invokestatic 56, 3), (24, .ifCond .eq 15, 3), (27, .iload 4, 2), (29, .iconst (-1), 1), (30, .iload_n 3, 1), (31, .iconst 1, 1), (32, .isub, 1), (33, .invokestatic 56, 3), (36, .ifCond .ne 6, 3), (39, .ldc 64, 2), (41, .ireturn, 1), (42, .aload_n 0, 1), (43, .iload_n 1, 1), (44, .invokevirtual 72, 3), (47, .ifCond .eq 9, 3), (50, .aload_n 0, 1), (51, .iconst 1, 1), (52, .invokevirtual 65, 3), (55, .ireturn, 1), (56, .aload_n 0, 1), (57, .iload_n 1, 1), (58, .iload_n 2, 1), (59, .iload_n 3, 1), (60, .invokevirtual 79, 3), (63, .ifCond .ne 9, 3), (66, .aload_n 0, 1), (67, .iconst 2, 1), (68, .invokevirtual 65, 3), (71, .ireturn, 1)]
set_option maxRecDepth 100000 in
theorem tk_X8_march_1 : (tb_X8_march_1.all fun q => decide (decode cX8_march q.1 = .ok q.2)) = true := by decide +kernel
theorem dX8_march_0 : decode cX8_march 0 = .ok (.aload_n 0, 1) := tb_d tk_X8_march_1 0 (0, .aload_n 0, 1) rfl
theorem dX8_march_1 : decode cX8_march 1 = .ok (.invokevirtual 180, 3) := tb_d tk_X8_march_1 1 (1, .invokevirtual 180, 3) rfl
theorem dX8_march_4 : decode cX8_march 4 = .ok (.ifCond .ne 6, 3) := tb_d tk_X8_march_1 2 (4, .ifCond .ne 6, 3) rfl
theorem dX8_march_7 : decode cX8_march 7 = .ok (.ldc 183, 2) := tb_d tk_X8_march_1 3 (7, .ldc 183, 2) rfl
theorem dX8_march_9 : decode cX8_march 9 = .ok (.ireturn, 1) := tb_d tk_X8_march_1 4 (9, .ireturn, 1) rfl
theorem dX8_march_10 : decode cX8_march 10 = .ok (.iload_n 1, 1) := tb_d tk_X8_march_1 5 (10, .iload_n 1, 1) rfl
theorem dX8_march_11 : decode cX8_march 11 = .ok (.invokestatic 60, 3) := tb_d tk_X8_march_1 6 (11, .invokestatic 60, 3) rfl
theorem dX8_march_14 : decode cX8_march 14 = .ok (.ifCond .eq 25, 3) := tb_d tk_X8_march_1 7 (14, .ifCond .eq 25, 3) rfl
theorem dX8_march_17 : decode cX8_march 17 = .ok (.iload_n 3, 1) := tb_d tk_X8_march_1 8 (17, .iload_n 3, 1) rfl
theorem dX8_march_18 : decode cX8_march 18 = .ok (.iconst 1, 1) := tb_d tk_X8_march_1 9 (18, .iconst 1, 1) rfl
theorem dX8_march_19 : decode cX8_march 19 = .ok (.bipush 6, 2) := tb_d tk_X8_march_1 10 (19, .bipush 6, 2) rfl
theorem dX8_march_21 : decode cX8_march 21 = .ok (.invokestatic 56, 3) := tb_d tk_X8_march_1 11 (21, .invokestatic 56, 3) rfl
theorem dX8_march_24 : decode cX8_march 24 = .ok (.ifCond .eq 15, 3) := tb_d tk_X8_march_1 12 (24, .ifCond .eq 15, 3) rfl
theorem dX8_march_27 : decode cX8_march 27 = .ok (.iload 4, 2) := tb_d tk_X8_march_1 13 (27, .iload 4, 2) rfl
theorem dX8_march_29 : decode cX8_march 29 = .ok (.iconst (-1), 1) := tb_d tk_X8_march_1 14 (29, .iconst (-1), 1) rfl
theorem dX8_march_30 : decode cX8_march 30 = .ok (.iload_n 3, 1) := tb_d tk_X8_march_1 15 (30, .iload_n 3, 1) rfl
theorem dX8_march_31 : decode cX8_march 31 = .ok (.iconst 1, 1) := tb_d tk_X8_march_1 16 (31, .iconst 1, 1) rfl
theorem dX8_march_32 : decode cX8_march 32 = .ok (.isub, 1) := tb_d tk_X8_march_1 17 (32, .isub, 1) rfl
theorem dX8_march_33 : decode cX8_march 33 = .ok (.invokestatic 56, 3) := tb_d tk_X8_march_1 18 (33, .invokestatic 56, 3) rfl
theorem dX8_march_36 : decode cX8_march 36 = .ok (.ifCond .ne 6, 3) := tb_d tk_X8_march_1 19 (36, .ifCond .ne 6, 3) rfl
theorem dX8_march_39 : decode cX8_march 39 = .ok (.ldc 64, 2) := tb_d tk_X8_march_1 20 (39, .ldc 64, 2) rfl
theorem dX8_march_41 : decode cX8_march 41 = .ok (.ireturn, 1) := tb_d tk_X8_march_1 21 (41, .ireturn, 1) rfl
theorem dX8_march_42 : decode cX8_march 42 = .ok (.aload_n 0, 1) := tb_d tk_X8_march_1 22 (42, .aload_n 0, 1) rfl
theorem dX8_march_43 : decode cX8_march 43 = .ok (.iload_n 1, 1) := tb_d tk_X8_march_1 23 (43, .iload_n 1, 1) rfl
theorem dX8_march_44 : decode cX8_march 44 = .ok (.invokevirtual 72, 3) := tb_d tk_X8_march_1 24 (44, .invokevirtual 72, 3) rfl
theorem dX8_march_47 : decode cX8_march 47 = .ok (.ifCond .eq 9, 3) := tb_d tk_X8_march_1 25 (47, .ifCond .eq 9, 3) rfl
theorem dX8_march_50 : decode cX8_march 50 = .ok (.aload_n 0, 1) := tb_d tk_X8_march_1 26 (50, .aload_n 0, 1) rfl
theorem dX8_march_51 : decode cX8_march 51 = .ok (.iconst 1, 1) := tb_d tk_X8_march_1 27 (51, .iconst 1, 1) rfl
theorem dX8_march_52 : decode cX8_march 52 = .ok (.invokevirtual 65, 3) := tb_d tk_X8_march_1 28 (52, .invokevirtual 65, 3) rfl
theorem dX8_march_55 : decode cX8_march 55 = .ok (.ireturn, 1) := tb_d tk_X8_march_1 29 (55, .ireturn, 1) rfl
theorem dX8_march_56 : decode cX8_march 56 = .ok (.aload_n 0, 1) := tb_d tk_X8_march_1 30 (56, .aload_n 0, 1) rfl
theorem dX8_march_57 : decode cX8_march 57 = .ok (.iload_n 1, 1) := tb_d tk_X8_march_1 31 (57, .iload_n 1, 1) rfl
theorem dX8_march_58 : decode cX8_march 58 = .ok (.iload_n 2, 1) := tb_d tk_X8_march_1 32 (58, .iload_n 2, 1) rfl
theorem dX8_march_59 : decode cX8_march 59 = .ok (.iload_n 3, 1) := tb_d tk_X8_march_1 33 (59, .iload_n 3, 1) rfl
theorem dX8_march_60 : decode cX8_march 60 = .ok (.invokevirtual 79, 3) := tb_d tk_X8_march_1 34 (60, .invokevirtual 79, 3) rfl
theorem dX8_march_63 : decode cX8_march 63 = .ok (.ifCond .ne 9, 3) := tb_d tk_X8_march_1 35 (63, .ifCond .ne 9, 3) rfl
theorem dX8_march_66 : decode cX8_march 66 = .ok (.aload_n 0, 1) := tb_d tk_X8_march_1 36 (66, .aload_n 0, 1) rfl
theorem dX8_march_67 : decode cX8_march 67 = .ok (.iconst 2, 1) := tb_d tk_X8_march_1 37 (67, .iconst 2, 1) rfl
theorem dX8_march_68 : decode cX8_march 68 = .ok (.invokevirtual 65, 3) := tb_d tk_X8_march_1 38 (68, .invokevirtual 65, 3) rfl
theorem dX8_march_71 : decode cX8_march 71 = .ok (.ireturn, 1) := tb_d tk_X8_march_1 39 (71, .ireturn, 1) rfl
def tb_X8_march_2 : List (Nat × Instr × Nat) := [(72, .iconst (-1), 1), (73, .istore 5, 2), (75, .ldc 50, 2), (77, .istore 6, 2), (79, .iconst 0, 1), (80, .istore 7, 2), (82, .iload 7, 2), (84, .iload_n 3, 1), (85, .if_icmp .ge 91, 3), (88, .iload 5, 2), (90, .bipush 6, 2), (92, .if_icmp .ge 84, 3), (95, .aload_n 0, 1), (96, .getfield 16, 3), (99, .bipush 40, 2), (101, .iload_n 1, 1), (102, .imul, 1), (103, .iload_n 2, 1), (104, .iadd, 1), (105, .iload 7, 2), (107, .iadd, 1), (108, .iaload, 1), (109, .istore 8, 2), (111, .iinc 5 1, 3), (114, .iload 5, 2), (116, .bipush 6, 2), (118, .if_icmp .ge 30, 3), (121, .aload_n 0, 1), (122, .iload 8, 2), (124, .invokevirtual 190, 3), (127, .ifCond .eq 15, 3), (130, .aload_n 0, 1), (131, .iload 8, 2), (133, .iload 5, 2), (135, .iconst 0, 1), (136, .invokevirtual 196, 3), (139, .ifCond .eq 9, 3), (142, .iinc 5 1, 3), (145, .goto (-31), 3), (148, .iload 7, 2)]
set_option maxRecDepth 100000 in
theorem tk_X8_march_2 : (tb_X8_march_2.all fun q => decide (decode cX8_march q.1 = .ok q.2)) = true := by decide +kernel
theorem dX8_march_72 : decode cX8_march 72 = .ok (.iconst (-1), 1) := tb_d tk_X8_march_2 0 (72, .iconst (-1), 1) rfl
theorem dX8_march_73 : decode cX8_march 73 = .ok (.istore 5, 2) := tb_d tk_X8_march_2 1 (73, .istore 5, 2) rfl
theorem dX8_march_75 : decode cX8_march 75 = .ok (.ldc 50, 2) := tb_d tk_X8_march_2 2 (75, .ldc 50, 2) rfl
theorem dX8_march_77 : decode cX8_march 77 = .ok (.istore 6, 2) := tb_d tk_X8_march_2 3 (77, .istore 6, 2) rfl
theorem dX8_march_79 : decode cX8_march 79 = .ok (.iconst 0, 1) := tb_d tk_X8_march_2 4 (79, .iconst 0, 1) rfl
theorem dX8_march_80 : decode cX8_march 80 = .ok (.istore 7, 2) := tb_d tk_X8_march_2 5 (80, .istore 7, 2) rfl
theorem dX8_march_82 : decode cX8_march 82 = .ok (.iload 7, 2) := tb_d tk_X8_march_2 6 (82, .iload 7, 2) rfl
theorem dX8_march_84 : decode cX8_march 84 = .ok (.iload_n 3, 1) := tb_d tk_X8_march_2 7 (84, .iload_n 3, 1) rfl
theorem dX8_march_85 : decode cX8_march 85 = .ok (.if_icmp .ge 91, 3) := tb_d tk_X8_march_2 8 (85, .if_icmp .ge 91, 3) rfl
theorem dX8_march_88 : decode cX8_march 88 = .ok (.iload 5, 2) := tb_d tk_X8_march_2 9 (88, .iload 5, 2) rfl
theorem dX8_march_90 : decode cX8_march 90 = .ok (.bipush 6, 2) := tb_d tk_X8_march_2 10 (90, .bipush 6, 2) rfl
theorem dX8_march_92 : decode cX8_march 92 = .ok (.if_icmp .ge 84, 3) := tb_d tk_X8_march_2 11 (92, .if_icmp .ge 84, 3) rfl
theorem dX8_march_95 : decode cX8_march 95 = .ok (.aload_n 0, 1) := tb_d tk_X8_march_2 12 (95, .aload_n 0, 1) rfl
theorem dX8_march_96 : decode cX8_march 96 = .ok (.getfield 16, 3) := tb_d tk_X8_march_2 13 (96, .getfield 16, 3) rfl
theorem dX8_march_99 : decode cX8_march 99 = .ok (.bipush 40, 2) := tb_d tk_X8_march_2 14 (99, .bipush 40, 2) rfl
theorem dX8_march_101 : decode cX8_march 101 = .ok (.iload_n 1, 1) := tb_d tk_X8_march_2 15 (101, .iload_n 1, 1) rfl
theorem dX8_march_102 : decode cX8_march 102 = .ok (.imul, 1) := tb_d tk_X8_march_2 16 (102, .imul, 1) rfl
theorem dX8_march_103 : decode cX8_march 103 = .ok (.iload_n 2, 1) := tb_d tk_X8_march_2 17 (103, .iload_n 2, 1) rfl
theorem dX8_march_104 : decode cX8_march 104 = .ok (.iadd, 1) := tb_d tk_X8_march_2 18 (104, .iadd, 1) rfl
theorem dX8_march_105 : decode cX8_march 105 = .ok (.iload 7, 2) := tb_d tk_X8_march_2 19 (105, .iload 7, 2) rfl
theorem dX8_march_107 : decode cX8_march 107 = .ok (.iadd, 1) := tb_d tk_X8_march_2 20 (107, .iadd, 1) rfl
theorem dX8_march_108 : decode cX8_march 108 = .ok (.iaload, 1) := tb_d tk_X8_march_2 21 (108, .iaload, 1) rfl
theorem dX8_march_109 : decode cX8_march 109 = .ok (.istore 8, 2) := tb_d tk_X8_march_2 22 (109, .istore 8, 2) rfl
theorem dX8_march_111 : decode cX8_march 111 = .ok (.iinc 5 1, 3) := tb_d tk_X8_march_2 23 (111, .iinc 5 1, 3) rfl
theorem dX8_march_114 : decode cX8_march 114 = .ok (.iload 5, 2) := tb_d tk_X8_march_2 24 (114, .iload 5, 2) rfl
theorem dX8_march_116 : decode cX8_march 116 = .ok (.bipush 6, 2) := tb_d tk_X8_march_2 25 (116, .bipush 6, 2) rfl
theorem dX8_march_118 : decode cX8_march 118 = .ok (.if_icmp .ge 30, 3) := tb_d tk_X8_march_2 26 (118, .if_icmp .ge 30, 3) rfl
theorem dX8_march_121 : decode cX8_march 121 = .ok (.aload_n 0, 1) := tb_d tk_X8_march_2 27 (121, .aload_n 0, 1) rfl
theorem dX8_march_122 : decode cX8_march 122 = .ok (.iload 8, 2) := tb_d tk_X8_march_2 28 (122, .iload 8, 2) rfl
theorem dX8_march_124 : decode cX8_march 124 = .ok (.invokevirtual 190, 3) := tb_d tk_X8_march_2 29 (124, .invokevirtual 190, 3) rfl
theorem dX8_march_127 : decode cX8_march 127 = .ok (.ifCond .eq 15, 3) := tb_d tk_X8_march_2 30 (127, .ifCond .eq 15, 3) rfl
theorem dX8_march_130 : decode cX8_march 130 = .ok (.aload_n 0, 1) := tb_d tk_X8_march_2 31 (130, .aload_n 0, 1) rfl
theorem dX8_march_131 : decode cX8_march 131 = .ok (.iload 8, 2) := tb_d tk_X8_march_2 32 (131, .iload 8, 2) rfl
theorem dX8_march_133 : decode cX8_march 133 = .ok (.iload 5, 2) := tb_d tk_X8_march_2 33 (133, .iload 5, 2) rfl
theorem dX8_march_135 : decode cX8_march 135 = .ok (.iconst 0, 1) := tb_d tk_X8_march_2 34 (135, .iconst 0, 1) rfl
theorem dX8_march_136 : decode cX8_march 136 = .ok (.invokevirtual 196, 3) := tb_d tk_X8_march_2 35 (136, .invokevirtual 196, 3) rfl
theorem dX8_march_139 : decode cX8_march 139 = .ok (.ifCond .eq 9, 3) := tb_d tk_X8_march_2 36 (139, .ifCond .eq 9, 3) rfl
theorem dX8_march_142 : decode cX8_march 142 = .ok (.iinc 5 1, 3) := tb_d tk_X8_march_2 37 (142, .iinc 5 1, 3) rfl
theorem dX8_march_145 : decode cX8_march 145 = .ok (.goto (-31), 3) := tb_d tk_X8_march_2 38 (145, .goto (-31), 3) rfl
theorem dX8_march_148 : decode cX8_march 148 = .ok (.iload 7, 2) := tb_d tk_X8_march_2 39 (148, .iload 7, 2) rfl
def tb_X8_march_3 : List (Nat × Instr × Nat) := [(150, .iload 4, 2), (152, .if_icmp .eq 9, 3), (155, .iload 4, 2), (157, .iconst (-1), 1), (158, .if_icmp .ne 8, 3), (161, .iload 5, 2), (163, .goto 5, 3), (166, .iload 6, 2), (168, .istore 6, 2), (170, .iinc 7 1, 3), (173, .goto (-91), 3), (176, .aload_n 0, 1), (177, .iload 5, 2), (179, .bipush 6, 2), (181, .if_icmp .ge 8, 3), (184, .iload 6, 2), (186, .goto 5, 3), (189, .ldc 50, 2), (191, .invokevirtual 69, 3), (194, .ireturn, 1)]
set_option maxRecDepth 100000 in
theorem tk_X8_march_3 : (tb_X8_march_3.all fun q => decide (decode cX8_march q.1 = .ok q.2)) = true := by decide +kernel
theorem dX8_march_150 : decode cX8_march 150 = .ok (.iload 4, 2) := tb_d tk_X8_march_3 0 (150, .iload 4, 2) rfl
theorem dX8_march_152 : decode cX8_march 152 = .ok (.if_icmp .eq 9, 3) := tb_d tk_X8_march_3 1 (152, .if_icmp .eq 9, 3) rfl
theorem dX8_march_155 : decode cX8_march 155 = .ok (.iload 4, 2) := tb_d tk_X8_march_3 2 (155, .iload 4, 2) rfl
theorem dX8_march_157 : decode cX8_march 157 = .ok (.iconst (-1), 1) := tb_d tk_X8_march_3 3 (157, .iconst (-1), 1) rfl
theorem dX8_march_158 : decode cX8_march 158 = .ok (.if_icmp .ne 8, 3) := tb_d tk_X8_march_3 4 (158, .if_icmp .ne 8, 3) rfl
theorem dX8_march_161 : decode cX8_march 161 = .ok (.iload 5, 2) := tb_d tk_X8_march_3 5 (161, .iload 5, 2) rfl
theorem dX8_march_163 : decode cX8_march 163 = .ok (.goto 5, 3) := tb_d tk_X8_march_3 6 (163, .goto 5, 3) rfl
theorem dX8_march_166 : decode cX8_march 166 = .ok (.iload 6, 2) := tb_d tk_X8_march_3 7 (166, .iload 6, 2) rfl
theorem dX8_march_168 : decode cX8_march 168 = .ok (.istore 6, 2) := tb_d tk_X8_march_3 8 (168, .istore 6, 2) rfl
theorem dX8_march_170 : decode cX8_march 170 = .ok (.iinc 7 1, 3) := tb_d tk_X8_march_3 9 (170, .iinc 7 1, 3) rfl
theorem dX8_march_173 : decode cX8_march 173 = .ok (.goto (-91), 3) := tb_d tk_X8_march_3 10 (173, .goto (-91), 3) rfl
theorem dX8_march_176 : decode cX8_march 176 = .ok (.aload_n 0, 1) := tb_d tk_X8_march_3 11 (176, .aload_n 0, 1) rfl
theorem dX8_march_177 : decode cX8_march 177 = .ok (.iload 5, 2) := tb_d tk_X8_march_3 12 (177, .iload 5, 2) rfl
theorem dX8_march_179 : decode cX8_march 179 = .ok (.bipush 6, 2) := tb_d tk_X8_march_3 13 (179, .bipush 6, 2) rfl
theorem dX8_march_181 : decode cX8_march 181 = .ok (.if_icmp .ge 8, 3) := tb_d tk_X8_march_3 14 (181, .if_icmp .ge 8, 3) rfl
theorem dX8_march_184 : decode cX8_march 184 = .ok (.iload 6, 2) := tb_d tk_X8_march_3 15 (184, .iload 6, 2) rfl
theorem dX8_march_186 : decode cX8_march 186 = .ok (.goto 5, 3) := tb_d tk_X8_march_3 16 (186, .goto 5, 3) rfl
theorem dX8_march_189 : decode cX8_march 189 = .ok (.ldc 50, 2) := tb_d tk_X8_march_3 17 (189, .ldc 50, 2) rfl
theorem dX8_march_191 : decode cX8_march 191 = .ok (.invokevirtual 69, 3) := tb_d tk_X8_march_3 18 (191, .invokevirtual 69, 3) rfl
theorem dX8_march_194 : decode cX8_march 194 = .ok (.ireturn, 1) := tb_d tk_X8_march_3 19 (194, .ireturn, 1) rfl
theorem ggX8_cheap_X8_isGate : GoodIn wsX8_cheap wsX8_isGate := fun w h => ⟨List.mem_cons_of_mem _ (List.mem_append_right _ (List.mem_append_right _ (List.mem_append_right _ (List.mem_append_right _ (List.mem_append_right _ (List.mem_append_right _ (List.mem_append_right _ (List.mem_append_right _ (List.mem_append_right _ (List.mem_append_left _ h)))))))))), good_of_word (gdX8_isGate w h)⟩
set_option maxRecDepth 20000 in
theorem gX8_cheap_X8_isGate : GoodIn wsX8_cheap (wsV RX8 180 RX8 yX8_isGate wsX8_isGate) := goodIn_app (a := bkV RX8 180 RX8 yX8_isGate) (fun w h => ⟨List.mem_cons_of_mem _ (List.mem_append_right _ (List.mem_append_left _ h)), good_of_word (gd_bV _ _ _ _ w h)⟩) ggX8_cheap_X8_isGate
theorem ggX8_cheap_X8_areWords : GoodIn wsX8_cheap wsX8_areWords := fun w h => ⟨List.mem_cons_of_mem _ (List.mem_append_right _ (List.mem_append_right _ (List.mem_append_right _ (List.mem_append_right _ (List.mem_append_right _ (List.mem_append_right _ (List.mem_append_right _ (List.mem_append_right _ (List.mem_append_right _ (List.mem_append_right _ (List.mem_append_left _ h))))))))))), good_of_word (gdX8_areWords w h)⟩
set_option maxRecDepth 20000 in
theorem gX8_cheap_X8_areWords : GoodIn wsX8_cheap (wsV RX8 208 RX8 yX8_areWords wsX8_areWords) := goodIn_app (a := bkV RX8 208 RX8 yX8_areWords) (fun w h => ⟨List.mem_cons_of_mem _ (List.mem_append_right _ (List.mem_append_right _ (List.mem_append_left _ h))), good_of_word (gd_bV _ _ _ _ w h)⟩) ggX8_cheap_X8_areWords
theorem ggX8_cheap_X8_isFar : GoodIn wsX8_cheap wsX8_isFar := fun w h => ⟨List.mem_cons_of_mem _ (List.mem_append_right _ (List.mem_append_right _ (List.mem_append_right _ (List.mem_append_right _ (List.mem_append_right _ (List.mem_append_right _ (List.mem_append_right _ (List.mem_append_right _ (List.mem_append_right _ (List.mem_append_right _ (List.mem_append_right _ (List.mem_append_left _ h)))))))))))), good_of_word (gdX8_isFar w h)⟩
set_option maxRecDepth 20000 in
theorem gX8_cheap_X8_isFar : GoodIn wsX8_cheap (va_wsS RX8 205 yX8_isFar wsX8_isFar) := goodIn_app (a := bkS RX8 205 yX8_isFar) (fun w h => ⟨List.mem_cons_of_mem _ (List.mem_append_right _ (List.mem_append_right _ (List.mem_append_right _ (List.mem_append_left _ h)))), good_of_word (gd_bS _ _ _ w h)⟩) ggX8_cheap_X8_isFar
theorem ggX8_cheap_X8_in : GoodIn wsX8_cheap wsX8_in := fun w h => ⟨List.mem_cons_of_mem _ (List.mem_append_right _ (List.mem_append_right _ (List.mem_append_right _ (List.mem_append_right _ (List.mem_append_right _ (List.mem_append_right _ (List.mem_append_right _ (List.mem_append_right _ (List.mem_append_right _ (List.mem_append_right _ (List.mem_append_right _ (List.mem_append_right _ (List.mem_append_left _ h))))))))))))), good_of_word (gdX8_in w h)⟩
set_option maxRecDepth 20000 in
theorem gX8_cheap_X8_in : GoodIn wsX8_cheap (va_wsS RX8 56 yX8_in wsX8_in) := goodIn_app (a := bkS RX8 56 yX8_in) (fun w h => ⟨List.mem_cons_of_mem _ (List.mem_append_right _ (List.mem_append_right _ (List.mem_append_right _ (List.mem_append_right _ (List.mem_append_left _ h))))), good_of_word (gd_bS _ _ _ w h)⟩) ggX8_cheap_X8_in
theorem ggX8_cheap_X8_has : GoodIn wsX8_cheap wsX8_has := fun w h => ⟨List.mem_cons_of_mem _ (List.mem_append_right _ (List.mem_append_right _ (List.mem_append_right _ (List.mem_append_right _ (List.mem_append_right _ (List.mem_append_right _ (List.mem_append_right _ (List.mem_append_right _ (List.mem_append_right _ (List.mem_append_right _ (List.mem_append_right _ (List.mem_append_right _ (List.mem_append_right _ (List.mem_append_left _ h)))))))))))))), good_of_word (gdX8_has w h)⟩
set_option maxRecDepth 20000 in
theorem gX8_cheap_X8_has : GoodIn wsX8_cheap (va_wsS RX8 161 yX8_has wsX8_has) := goodIn_app (a := bkS RX8 161 yX8_has) (fun w h => ⟨List.mem_cons_of_mem _ (List.mem_append_right _ (List.mem_append_right _ (List.mem_append_right _ (List.mem_append_right _ (List.mem_append_right _ (List.mem_append_left _ h)))))), good_of_word (gd_bS _ _ _ w h)⟩) ggX8_cheap_X8_has
theorem ggX8_cheap_X8_areIn : GoodIn wsX8_cheap wsX8_areIn := fun w h => ⟨List.mem_cons_of_mem _ (List.mem_append_right _ (List.mem_append_right _ (List.mem_append_right _ (List.mem_append_right _ (List.mem_append_right _ (List.mem_append_right _ (List.mem_append_right _ (List.mem_append_right _ (List.mem_append_right _ (List.mem_append_right _ (List.mem_append_right _ (List.mem_append_right _ (List.mem_append_right _ (List.mem_append_right _ (List.mem_append_left _ h))))))))))))))), good_of_word (gdX8_areIn w h)⟩
set_option maxRecDepth 20000 in
theorem gX8_cheap_X8_areIn : GoodIn wsX8_cheap (wsV RX8 211 RX8 yX8_areIn wsX8_areIn) := goodIn_app (a := bkV RX8 211 RX8 yX8_areIn) (fun w h => ⟨List.mem_cons_of_mem _ (List.mem_append_right _ (List.mem_append_right _ (List.mem_append_right _ (List.mem_append_right _ (List.mem_append_right _ (List.mem_append_right _ (List.mem_append_left _ h))))))), good_of_word (gd_bV _ _ _ _ w h)⟩) ggX8_cheap_X8_areIn
theorem ggX8_cheap_X8_ones : GoodIn wsX8_cheap wsX8_ones := fun w h => ⟨List.mem_cons_of_mem _ (List.mem_append_right _ (List.mem_append_right _ (List.mem_append_right _ (List.mem_append_right _ (List.mem_append_right _ (List.mem_append_right _ (List.mem_append_right _ (List.mem_append_right _ (List.mem_append_right _ (List.mem_append_right _ (List.mem_append_right _ (List.mem_append_right _ (List.mem_append_right _ (List.mem_append_right _ (List.mem_append_right _ (List.mem_append_left _ h)))))))))))))))), good_of_word (gdX8_ones w h)⟩
set_option maxRecDepth 20000 in
theorem gX8_cheap_X8_ones : GoodIn wsX8_cheap (va_wsS RX8 217 yX8_ones wsX8_ones) := goodIn_app (a := bkS RX8 217 yX8_ones) (fun w h => ⟨List.mem_cons_of_mem _ (List.mem_append_right _ (List.mem_append_right _ (List.mem_append_right _ (List.mem_append_right _ (List.mem_append_right _ (List.mem_append_right _ (List.mem_append_right _ (List.mem_append_left _ h)))))))), good_of_word (gd_bS _ _ _ w h)⟩) ggX8_cheap_X8_ones
def tb_X8_cheap_1 : List (Nat × Instr × Nat) := [(0, .aload_n 0, 1), (1, .invokevirtual 180, 3), (4, .ifCond .ne 6, 3), (7, .ldc 183, 2), (9, .ireturn, 1), (10, .aload_n 0, 1), (11, .iload_n 1, 1), (12, .invokevirtual 208, 3), (15, .ifCond .eq 19, 3), (18, .iload_n 2, 1), (19, .invokestatic 205, 3), (22, .ifCond .eq 12, 3), (25, .iload_n 3, 1), (26, .iconst 0, 1), (27, .iconst 1, 1), (28, .invokestatic 56, 3), (31, .ifCond .ne 6, 3), (34, .ldc 64, 2), (36, .ireturn, 1), (37, .ldc 50, 2), (39, .istore 4, 2), (41, .ldc 50, 2), (43, .istore 5, 2), (45, .iconst 0, 1), (46, .istore 6, 2), (48, .iload 6, 2), (50, .aload_n 0, 1), (51, .getfield 25, 3), (54, .bipush 6, 2), (56, .iaload, 1), (57, .if_icmp .gt 212, 3), (60, .iconst 0, 1), (61, .istore 7, 2), (63, .iload 6, 2), (65, .aload_n 0, 1), (66, .getfield 25, 3), (69, .bipush 6, 2), (71, .iaload, 1), (72, .iconst (-1), 1), (73, .ixor, 1)]
set_option maxRecDepth 100000 in
theorem tk_X8_cheap_1 : (tb_X8_cheap_1.all fun q => decide (decode cX8_cheap q.1 = .ok q.2)) = true := by decide +kernel
theorem dX8_cheap_0 : decode cX8_cheap 0 = .ok (.aload_n 0, 1) := tb_d tk_X8_cheap_1 0 (0, .aload_n 0, 1) rfl
theorem dX8_cheap_1 : decode cX8_cheap 1 = .ok (.invokevirtual 180, 3) := tb_d tk_X8_cheap_1 1 (1, .invokevirtual 180, 3) rfl
theorem dX8_cheap_4 : decode cX8_cheap 4 = .ok (.ifCond .ne 6, 3) := tb_d tk_X8_cheap_1 2 (4, .ifCond .ne 6, 3) rfl
theorem dX8_cheap_7 : decode cX8_cheap 7 = .ok (.ldc 183, 2) := tb_d tk_X8_cheap_1 3 (7, .ldc 183, 2) rfl
theorem dX8_cheap_9 : decode cX8_cheap 9 = .ok (.ireturn, 1) := tb_d tk_X8_cheap_1 4 (9, .ireturn, 1) rfl
theorem dX8_cheap_10 : decode cX8_cheap 10 = .ok (.aload_n 0, 1) := tb_d tk_X8_cheap_1 5 (10, .aload_n 0, 1) rfl
theorem dX8_cheap_11 : decode cX8_cheap 11 = .ok (.iload_n 1, 1) := tb_d tk_X8_cheap_1 6 (11, .iload_n 1, 1) rfl
theorem dX8_cheap_12 : decode cX8_cheap 12 = .ok (.invokevirtual 208, 3) := tb_d tk_X8_cheap_1 7 (12, .invokevirtual 208, 3) rfl
theorem dX8_cheap_15 : decode cX8_cheap 15 = .ok (.ifCond .eq 19, 3) := tb_d tk_X8_cheap_1 8 (15, .ifCond .eq 19, 3) rfl
theorem dX8_cheap_18 : decode cX8_cheap 18 = .ok (.iload_n 2, 1) := tb_d tk_X8_cheap_1 9 (18, .iload_n 2, 1) rfl
theorem dX8_cheap_19 : decode cX8_cheap 19 = .ok (.invokestatic 205, 3) := tb_d tk_X8_cheap_1 10 (19, .invokestatic 205, 3) rfl
theorem dX8_cheap_22 : decode cX8_cheap 22 = .ok (.ifCond .eq 12, 3) := tb_d tk_X8_cheap_1 11 (22, .ifCond .eq 12, 3) rfl
theorem dX8_cheap_25 : decode cX8_cheap 25 = .ok (.iload_n 3, 1) := tb_d tk_X8_cheap_1 12 (25, .iload_n 3, 1) rfl
theorem dX8_cheap_26 : decode cX8_cheap 26 = .ok (.iconst 0, 1) := tb_d tk_X8_cheap_1 13 (26, .iconst 0, 1) rfl
theorem dX8_cheap_27 : decode cX8_cheap 27 = .ok (.iconst 1, 1) := tb_d tk_X8_cheap_1 14 (27, .iconst 1, 1) rfl
theorem dX8_cheap_28 : decode cX8_cheap 28 = .ok (.invokestatic 56, 3) := tb_d tk_X8_cheap_1 15 (28, .invokestatic 56, 3) rfl
theorem dX8_cheap_31 : decode cX8_cheap 31 = .ok (.ifCond .ne 6, 3) := tb_d tk_X8_cheap_1 16 (31, .ifCond .ne 6, 3) rfl
theorem dX8_cheap_34 : decode cX8_cheap 34 = .ok (.ldc 64, 2) := tb_d tk_X8_cheap_1 17 (34, .ldc 64, 2) rfl
theorem dX8_cheap_36 : decode cX8_cheap 36 = .ok (.ireturn, 1) := tb_d tk_X8_cheap_1 18 (36, .ireturn, 1) rfl
theorem dX8_cheap_37 : decode cX8_cheap 37 = .ok (.ldc 50, 2) := tb_d tk_X8_cheap_1 19 (37, .ldc 50, 2) rfl
theorem dX8_cheap_39 : decode cX8_cheap 39 = .ok (.istore 4, 2) := tb_d tk_X8_cheap_1 20 (39, .istore 4, 2) rfl
theorem dX8_cheap_41 : decode cX8_cheap 41 = .ok (.ldc 50, 2) := tb_d tk_X8_cheap_1 21 (41, .ldc 50, 2) rfl
theorem dX8_cheap_43 : decode cX8_cheap 43 = .ok (.istore 5, 2) := tb_d tk_X8_cheap_1 22 (43, .istore 5, 2) rfl
theorem dX8_cheap_45 : decode cX8_cheap 45 = .ok (.iconst 0, 1) := tb_d tk_X8_cheap_1 23 (45, .iconst 0, 1) rfl
theorem dX8_cheap_46 : decode cX8_cheap 46 = .ok (.istore 6, 2) := tb_d tk_X8_cheap_1 24 (46, .istore 6, 2) rfl
theorem dX8_cheap_48 : decode cX8_cheap 48 = .ok (.iload 6, 2) := tb_d tk_X8_cheap_1 25 (48, .iload 6, 2) rfl
theorem dX8_cheap_50 : decode cX8_cheap 50 = .ok (.aload_n 0, 1) := tb_d tk_X8_cheap_1 26 (50, .aload_n 0, 1) rfl
theorem dX8_cheap_51 : decode cX8_cheap 51 = .ok (.getfield 25, 3) := tb_d tk_X8_cheap_1 27 (51, .getfield 25, 3) rfl
theorem dX8_cheap_54 : decode cX8_cheap 54 = .ok (.bipush 6, 2) := tb_d tk_X8_cheap_1 28 (54, .bipush 6, 2) rfl
theorem dX8_cheap_56 : decode cX8_cheap 56 = .ok (.iaload, 1) := tb_d tk_X8_cheap_1 29 (56, .iaload, 1) rfl
theorem dX8_cheap_57 : decode cX8_cheap 57 = .ok (.if_icmp .gt 212, 3) := tb_d tk_X8_cheap_1 30 (57, .if_icmp .gt 212, 3) rfl
theorem dX8_cheap_60 : decode cX8_cheap 60 = .ok (.iconst 0, 1) := tb_d tk_X8_cheap_1 31 (60, .iconst 0, 1) rfl
theorem dX8_cheap_61 : decode cX8_cheap 61 = .ok (.istore 7, 2) := tb_d tk_X8_cheap_1 32 (61, .istore 7, 2) rfl
theorem dX8_cheap_63 : decode cX8_cheap 63 = .ok (.iload 6, 2) := tb_d tk_X8_cheap_1 33 (63, .iload 6, 2) rfl
theorem dX8_cheap_65 : decode cX8_cheap 65 = .ok (.aload_n 0, 1) := tb_d tk_X8_cheap_1 34 (65, .aload_n 0, 1) rfl
theorem dX8_cheap_66 : decode cX8_cheap 66 = .ok (.getfield 25, 3) := tb_d tk_X8_cheap_1 35 (66, .getfield 25, 3) rfl
theorem dX8_cheap_69 : decode cX8_cheap 69 = .ok (.bipush 6, 2) := tb_d tk_X8_cheap_1 36 (69, .bipush 6, 2) rfl
theorem dX8_cheap_71 : decode cX8_cheap 71 = .ok (.iaload, 1) := tb_d tk_X8_cheap_1 37 (71, .iaload, 1) rfl
theorem dX8_cheap_72 : decode cX8_cheap 72 = .ok (.iconst (-1), 1) := tb_d tk_X8_cheap_1 38 (72, .iconst (-1), 1) rfl
theorem dX8_cheap_73 : decode cX8_cheap 73 = .ok (.ixor, 1) := tb_d tk_X8_cheap_1 39 (73, .ixor, 1) rfl
def tb_X8_cheap_2 : List (Nat × Instr × Nat) := [(74, .iand, 1), (75, .ifCond .ne 7, 3), (78, .iconst 1, 1), (79, .goto 4, 3), (82, .iconst 0, 1), (83, .istore 8, 2), (85, .iconst 0, 1), (86, .istore 9, 2), (88, .iload 9, 2), (90, .aload_n 0, 1), (91, .getfield 25, 3), (94, .iconst 4, 1), (95, .iaload, 1), (96, .if_icmp .ge 42, 3), (99, .iload 7, 2), (101, .iload 6, 2), (103, .iload 9, 2), (105, .invokestatic 161, 3), (108, .ifCond .eq 20, 3), (111, .aload_n 0, 1), (112, .getfield 25, 3), (115, .bipush 26, 2), (117, .iconst 3, 1), (118, .iload 9, 2), (120, .imul, 1), (121, .iadd, 1), (122, .iconst 1, 1), (123, .iadd, 1), (124, .iaload, 1), (125, .goto 4, 3), (128, .iconst 0, 1), (129, .iadd, 1), (130, .istore 7, 2), (132, .iinc 9 1, 3), (135, .goto (-47), 3), (138, .iconst 0, 1), (139, .istore 9, 2), (141, .iload 9, 2), (143, .bipush 6, 2), (145, .if_icmp .ge 44, 3)]
set_option maxRecDepth 100000 in
theorem tk_X8_cheap_2 : (tb_X8_cheap_2.all fun q => decide (decode cX8_cheap q.1 = .ok q.2)) = true := by decide +kernel
theorem dX8_cheap_74 : decode cX8_cheap 74 = .ok (.iand, 1) := tb_d tk_X8_cheap_2 0 (74, .iand, 1) rfl
theorem dX8_cheap_75 : decode cX8_cheap 75 = .ok (.ifCond .ne 7, 3) := tb_d tk_X8_cheap_2 1 (75, .ifCond .ne 7, 3) rfl
theorem dX8_cheap_78 : decode cX8_cheap 78 = .ok (.iconst 1, 1) := tb_d tk_X8_cheap_2 2 (78, .iconst 1, 1) rfl
theorem dX8_cheap_79 : decode cX8_cheap 79 = .ok (.goto 4, 3) := tb_d tk_X8_cheap_2 3 (79, .goto 4, 3) rfl
theorem dX8_cheap_82 : decode cX8_cheap 82 = .ok (.iconst 0, 1) := tb_d tk_X8_cheap_2 4 (82, .iconst 0, 1) rfl
theorem dX8_cheap_83 : decode cX8_cheap 83 = .ok (.istore 8, 2) := tb_d tk_X8_cheap_2 5 (83, .istore 8, 2) rfl
theorem dX8_cheap_85 : decode cX8_cheap 85 = .ok (.iconst 0, 1) := tb_d tk_X8_cheap_2 6 (85, .iconst 0, 1) rfl
theorem dX8_cheap_86 : decode cX8_cheap 86 = .ok (.istore 9, 2) := tb_d tk_X8_cheap_2 7 (86, .istore 9, 2) rfl
theorem dX8_cheap_88 : decode cX8_cheap 88 = .ok (.iload 9, 2) := tb_d tk_X8_cheap_2 8 (88, .iload 9, 2) rfl
theorem dX8_cheap_90 : decode cX8_cheap 90 = .ok (.aload_n 0, 1) := tb_d tk_X8_cheap_2 9 (90, .aload_n 0, 1) rfl
theorem dX8_cheap_91 : decode cX8_cheap 91 = .ok (.getfield 25, 3) := tb_d tk_X8_cheap_2 10 (91, .getfield 25, 3) rfl
theorem dX8_cheap_94 : decode cX8_cheap 94 = .ok (.iconst 4, 1) := tb_d tk_X8_cheap_2 11 (94, .iconst 4, 1) rfl
theorem dX8_cheap_95 : decode cX8_cheap 95 = .ok (.iaload, 1) := tb_d tk_X8_cheap_2 12 (95, .iaload, 1) rfl
theorem dX8_cheap_96 : decode cX8_cheap 96 = .ok (.if_icmp .ge 42, 3) := tb_d tk_X8_cheap_2 13 (96, .if_icmp .ge 42, 3) rfl
theorem dX8_cheap_99 : decode cX8_cheap 99 = .ok (.iload 7, 2) := tb_d tk_X8_cheap_2 14 (99, .iload 7, 2) rfl
theorem dX8_cheap_101 : decode cX8_cheap 101 = .ok (.iload 6, 2) := tb_d tk_X8_cheap_2 15 (101, .iload 6, 2) rfl
theorem dX8_cheap_103 : decode cX8_cheap 103 = .ok (.iload 9, 2) := tb_d tk_X8_cheap_2 16 (103, .iload 9, 2) rfl
theorem dX8_cheap_105 : decode cX8_cheap 105 = .ok (.invokestatic 161, 3) := tb_d tk_X8_cheap_2 17 (105, .invokestatic 161, 3) rfl
theorem dX8_cheap_108 : decode cX8_cheap 108 = .ok (.ifCond .eq 20, 3) := tb_d tk_X8_cheap_2 18 (108, .ifCond .eq 20, 3) rfl
theorem dX8_cheap_111 : decode cX8_cheap 111 = .ok (.aload_n 0, 1) := tb_d tk_X8_cheap_2 19 (111, .aload_n 0, 1) rfl
theorem dX8_cheap_112 : decode cX8_cheap 112 = .ok (.getfield 25, 3) := tb_d tk_X8_cheap_2 20 (112, .getfield 25, 3) rfl
theorem dX8_cheap_115 : decode cX8_cheap 115 = .ok (.bipush 26, 2) := tb_d tk_X8_cheap_2 21 (115, .bipush 26, 2) rfl
theorem dX8_cheap_117 : decode cX8_cheap 117 = .ok (.iconst 3, 1) := tb_d tk_X8_cheap_2 22 (117, .iconst 3, 1) rfl
theorem dX8_cheap_118 : decode cX8_cheap 118 = .ok (.iload 9, 2) := tb_d tk_X8_cheap_2 23 (118, .iload 9, 2) rfl
theorem dX8_cheap_120 : decode cX8_cheap 120 = .ok (.imul, 1) := tb_d tk_X8_cheap_2 24 (120, .imul, 1) rfl
theorem dX8_cheap_121 : decode cX8_cheap 121 = .ok (.iadd, 1) := tb_d tk_X8_cheap_2 25 (121, .iadd, 1) rfl
theorem dX8_cheap_122 : decode cX8_cheap 122 = .ok (.iconst 1, 1) := tb_d tk_X8_cheap_2 26 (122, .iconst 1, 1) rfl
theorem dX8_cheap_123 : decode cX8_cheap 123 = .ok (.iadd, 1) := tb_d tk_X8_cheap_2 27 (123, .iadd, 1) rfl
theorem dX8_cheap_124 : decode cX8_cheap 124 = .ok (.iaload, 1) := tb_d tk_X8_cheap_2 28 (124, .iaload, 1) rfl
theorem dX8_cheap_125 : decode cX8_cheap 125 = .ok (.goto 4, 3) := tb_d tk_X8_cheap_2 29 (125, .goto 4, 3) rfl
theorem dX8_cheap_128 : decode cX8_cheap 128 = .ok (.iconst 0, 1) := tb_d tk_X8_cheap_2 30 (128, .iconst 0, 1) rfl
theorem dX8_cheap_129 : decode cX8_cheap 129 = .ok (.iadd, 1) := tb_d tk_X8_cheap_2 31 (129, .iadd, 1) rfl
theorem dX8_cheap_130 : decode cX8_cheap 130 = .ok (.istore 7, 2) := tb_d tk_X8_cheap_2 32 (130, .istore 7, 2) rfl
theorem dX8_cheap_132 : decode cX8_cheap 132 = .ok (.iinc 9 1, 3) := tb_d tk_X8_cheap_2 33 (132, .iinc 9 1, 3) rfl
theorem dX8_cheap_135 : decode cX8_cheap 135 = .ok (.goto (-47), 3) := tb_d tk_X8_cheap_2 34 (135, .goto (-47), 3) rfl
theorem dX8_cheap_138 : decode cX8_cheap 138 = .ok (.iconst 0, 1) := tb_d tk_X8_cheap_2 35 (138, .iconst 0, 1) rfl
theorem dX8_cheap_139 : decode cX8_cheap 139 = .ok (.istore 9, 2) := tb_d tk_X8_cheap_2 36 (139, .istore 9, 2) rfl
theorem dX8_cheap_141 : decode cX8_cheap 141 = .ok (.iload 9, 2) := tb_d tk_X8_cheap_2 37 (141, .iload 9, 2) rfl
theorem dX8_cheap_143 : decode cX8_cheap 143 = .ok (.bipush 6, 2) := tb_d tk_X8_cheap_2 38 (143, .bipush 6, 2) rfl
theorem dX8_cheap_145 : decode cX8_cheap 145 = .ok (.if_icmp .ge 44, 3) := tb_d tk_X8_cheap_2 39 (145, .if_icmp .ge 44, 3) rfl
def tb_X8_cheap_3 : List (Nat × Instr × Nat) := [(148, .iload 8, 2), (150, .ifCond .eq 30, 3), (153, .aload_n 0, 1), (154, .iload_n 1, 1), (155, .iload 9, 2), (157, .iload_n 2, 1), (158, .aload_n 0, 1), (159, .getfield 25, 3), (162, .bipush 6, 2), (164, .iaload, 1), (165, .iload 6, 2), (167, .iconst (-1), 1), (168, .ixor, 1), (169, .iand, 1), (170, .invokevirtual 211, 3), (173, .ifCond .eq 7, 3), (176, .iconst 1, 1), (177, .goto 4, 3), (180, .iconst 0, 1), (181, .istore 8, 2), (183, .iinc 9 1, 3), (186, .goto (-45), 3), (189, .iload 8, 2), (191, .ifCond .eq 41, 3), (194, .iload 4, 2), (196, .ldc 50, 2), (198, .if_icmp .eq 30, 3), (201, .iload 7, 2), (203, .iload 5, 2), (205, .if_icmp .lt 23, 3), (208, .iload 7, 2), (210, .iload 5, 2), (212, .if_icmp .ne 20, 3), (215, .iload 6, 2), (217, .invokestatic 217, 3), (220, .iload 4, 2), (222, .invokestatic 217, 3), (225, .if_icmp .ge 7, 3), (228, .iconst 1, 1), (229, .goto 4, 3)]
set_option maxRecDepth 100000 in
theorem tk_X8_cheap_3 : (tb_X8_cheap_3.all fun q => decide (decode cX8_cheap q.1 = .ok q.2)) = true := by decide +kernel
theorem dX8_cheap_148 : decode cX8_cheap 148 = .ok (.iload 8, 2) := tb_d tk_X8_cheap_3 0 (148, .iload 8, 2) rfl
theorem dX8_cheap_150 : decode cX8_cheap 150 = .ok (.ifCond .eq 30, 3) := tb_d tk_X8_cheap_3 1 (150, .ifCond .eq 30, 3) rfl
theorem dX8_cheap_153 : decode cX8_cheap 153 = .ok (.aload_n 0, 1) := tb_d tk_X8_cheap_3 2 (153, .aload_n 0, 1) rfl
theorem dX8_cheap_154 : decode cX8_cheap 154 = .ok (.iload_n 1, 1) := tb_d tk_X8_cheap_3 3 (154, .iload_n 1, 1) rfl
theorem dX8_cheap_155 : decode cX8_cheap 155 = .ok (.iload 9, 2) := tb_d tk_X8_cheap_3 4 (155, .iload 9, 2) rfl
theorem dX8_cheap_157 : decode cX8_cheap 157 = .ok (.iload_n 2, 1) := tb_d tk_X8_cheap_3 5 (157, .iload_n 2, 1) rfl
theorem dX8_cheap_158 : decode cX8_cheap 158 = .ok (.aload_n 0, 1) := tb_d tk_X8_cheap_3 6 (158, .aload_n 0, 1) rfl
theorem dX8_cheap_159 : decode cX8_cheap 159 = .ok (.getfield 25, 3) := tb_d tk_X8_cheap_3 7 (159, .getfield 25, 3) rfl
theorem dX8_cheap_162 : decode cX8_cheap 162 = .ok (.bipush 6, 2) := tb_d tk_X8_cheap_3 8 (162, .bipush 6, 2) rfl
theorem dX8_cheap_164 : decode cX8_cheap 164 = .ok (.iaload, 1) := tb_d tk_X8_cheap_3 9 (164, .iaload, 1) rfl
theorem dX8_cheap_165 : decode cX8_cheap 165 = .ok (.iload 6, 2) := tb_d tk_X8_cheap_3 10 (165, .iload 6, 2) rfl
theorem dX8_cheap_167 : decode cX8_cheap 167 = .ok (.iconst (-1), 1) := tb_d tk_X8_cheap_3 11 (167, .iconst (-1), 1) rfl
theorem dX8_cheap_168 : decode cX8_cheap 168 = .ok (.ixor, 1) := tb_d tk_X8_cheap_3 12 (168, .ixor, 1) rfl
theorem dX8_cheap_169 : decode cX8_cheap 169 = .ok (.iand, 1) := tb_d tk_X8_cheap_3 13 (169, .iand, 1) rfl
theorem dX8_cheap_170 : decode cX8_cheap 170 = .ok (.invokevirtual 211, 3) := tb_d tk_X8_cheap_3 14 (170, .invokevirtual 211, 3) rfl
theorem dX8_cheap_173 : decode cX8_cheap 173 = .ok (.ifCond .eq 7, 3) := tb_d tk_X8_cheap_3 15 (173, .ifCond .eq 7, 3) rfl
theorem dX8_cheap_176 : decode cX8_cheap 176 = .ok (.iconst 1, 1) := tb_d tk_X8_cheap_3 16 (176, .iconst 1, 1) rfl
theorem dX8_cheap_177 : decode cX8_cheap 177 = .ok (.goto 4, 3) := tb_d tk_X8_cheap_3 17 (177, .goto 4, 3) rfl
theorem dX8_cheap_180 : decode cX8_cheap 180 = .ok (.iconst 0, 1) := tb_d tk_X8_cheap_3 18 (180, .iconst 0, 1) rfl
theorem dX8_cheap_181 : decode cX8_cheap 181 = .ok (.istore 8, 2) := tb_d tk_X8_cheap_3 19 (181, .istore 8, 2) rfl
theorem dX8_cheap_183 : decode cX8_cheap 183 = .ok (.iinc 9 1, 3) := tb_d tk_X8_cheap_3 20 (183, .iinc 9 1, 3) rfl
theorem dX8_cheap_186 : decode cX8_cheap 186 = .ok (.goto (-45), 3) := tb_d tk_X8_cheap_3 21 (186, .goto (-45), 3) rfl
theorem dX8_cheap_189 : decode cX8_cheap 189 = .ok (.iload 8, 2) := tb_d tk_X8_cheap_3 22 (189, .iload 8, 2) rfl
theorem dX8_cheap_191 : decode cX8_cheap 191 = .ok (.ifCond .eq 41, 3) := tb_d tk_X8_cheap_3 23 (191, .ifCond .eq 41, 3) rfl
theorem dX8_cheap_194 : decode cX8_cheap 194 = .ok (.iload 4, 2) := tb_d tk_X8_cheap_3 24 (194, .iload 4, 2) rfl
theorem dX8_cheap_196 : decode cX8_cheap 196 = .ok (.ldc 50, 2) := tb_d tk_X8_cheap_3 25 (196, .ldc 50, 2) rfl
theorem dX8_cheap_198 : decode cX8_cheap 198 = .ok (.if_icmp .eq 30, 3) := tb_d tk_X8_cheap_3 26 (198, .if_icmp .eq 30, 3) rfl
theorem dX8_cheap_201 : decode cX8_cheap 201 = .ok (.iload 7, 2) := tb_d tk_X8_cheap_3 27 (201, .iload 7, 2) rfl
theorem dX8_cheap_203 : decode cX8_cheap 203 = .ok (.iload 5, 2) := tb_d tk_X8_cheap_3 28 (203, .iload 5, 2) rfl
theorem dX8_cheap_205 : decode cX8_cheap 205 = .ok (.if_icmp .lt 23, 3) := tb_d tk_X8_cheap_3 29 (205, .if_icmp .lt 23, 3) rfl
theorem dX8_cheap_208 : decode cX8_cheap 208 = .ok (.iload 7, 2) := tb_d tk_X8_cheap_3 30 (208, .iload 7, 2) rfl
theorem dX8_cheap_210 : decode cX8_cheap 210 = .ok (.iload 5, 2) := tb_d tk_X8_cheap_3 31 (210, .iload 5, 2) rfl
theorem dX8_cheap_212 : decode cX8_cheap 212 = .ok (.if_icmp .ne 20, 3) := tb_d tk_X8_cheap_3 32 (212, .if_icmp .ne 20, 3) rfl
theorem dX8_cheap_215 : decode cX8_cheap 215 = .ok (.iload 6, 2) := tb_d tk_X8_cheap_3 33 (215, .iload 6, 2) rfl
theorem dX8_cheap_217 : decode cX8_cheap 217 = .ok (.invokestatic 217, 3) := tb_d tk_X8_cheap_3 34 (217, .invokestatic 217, 3) rfl
theorem dX8_cheap_220 : decode cX8_cheap 220 = .ok (.iload 4, 2) := tb_d tk_X8_cheap_3 35 (220, .iload 4, 2) rfl
theorem dX8_cheap_222 : decode cX8_cheap 222 = .ok (.invokestatic 217, 3) := tb_d tk_X8_cheap_3 36 (222, .invokestatic 217, 3) rfl
theorem dX8_cheap_225 : decode cX8_cheap 225 = .ok (.if_icmp .ge 7, 3) := tb_d tk_X8_cheap_3 37 (225, .if_icmp .ge 7, 3) rfl
theorem dX8_cheap_228 : decode cX8_cheap 228 = .ok (.iconst 1, 1) := tb_d tk_X8_cheap_3 38 (228, .iconst 1, 1) rfl
theorem dX8_cheap_229 : decode cX8_cheap 229 = .ok (.goto 4, 3) := tb_d tk_X8_cheap_3 39 (229, .goto 4, 3) rfl
def tb_X8_cheap_4 : List (Nat × Instr × Nat) := [(232, .iconst 0, 1), (233, .istore 9, 2), (235, .iload 9, 2), (237, .ifCond .eq 8, 3), (240, .iload 6, 2), (242, .goto 5, 3), (245, .iload 4, 2), (247, .istore 4, 2), (249, .iload 9, 2), (251, .ifCond .eq 8, 3), (254, .iload 7, 2), (256, .goto 5, 3), (259, .iload 5, 2), (261, .istore 5, 2), (263, .iinc 6 1, 3), (266, .goto (-218), 3), (269, .iload_n 3, 1), (270, .ifCond .ne 8, 3), (273, .iload 5, 2), (275, .goto 5, 3), (278, .iload 4, 2), (280, .ireturn, 1)]
set_option maxRecDepth 100000 in
theorem tk_X8_cheap_4 : (tb_X8_cheap_4.all fun q => decide (decode cX8_cheap q.1 = .ok q.2)) = true := by decide +kernel
theorem dX8_cheap_232 : decode cX8_cheap 232 = .ok (.iconst 0, 1) := tb_d tk_X8_cheap_4 0 (232, .iconst 0, 1) rfl
theorem dX8_cheap_233 : decode cX8_cheap 233 = .ok (.istore 9, 2) := tb_d tk_X8_cheap_4 1 (233, .istore 9, 2) rfl
theorem dX8_cheap_235 : decode cX8_cheap 235 = .ok (.iload 9, 2) := tb_d tk_X8_cheap_4 2 (235, .iload 9, 2) rfl
theorem dX8_cheap_237 : decode cX8_cheap 237 = .ok (.ifCond .eq 8, 3) := tb_d tk_X8_cheap_4 3 (237, .ifCond .eq 8, 3) rfl
theorem dX8_cheap_240 : decode cX8_cheap 240 = .ok (.iload 6, 2) := tb_d tk_X8_cheap_4 4 (240, .iload 6, 2) rfl
theorem dX8_cheap_242 : decode cX8_cheap 242 = .ok (.goto 5, 3) := tb_d tk_X8_cheap_4 5 (242, .goto 5, 3) rfl
theorem dX8_cheap_245 : decode cX8_cheap 245 = .ok (.iload 4, 2) := tb_d tk_X8_cheap_4 6 (245, .iload 4, 2) rfl
theorem dX8_cheap_247 : decode cX8_cheap 247 = .ok (.istore 4, 2) := tb_d tk_X8_cheap_4 7 (247, .istore 4, 2) rfl
theorem dX8_cheap_249 : decode cX8_cheap 249 = .ok (.iload 9, 2) := tb_d tk_X8_cheap_4 8 (249, .iload 9, 2) rfl
theorem dX8_cheap_251 : decode cX8_cheap 251 = .ok (.ifCond .eq 8, 3) := tb_d tk_X8_cheap_4 9 (251, .ifCond .eq 8, 3) rfl
theorem dX8_cheap_254 : decode cX8_cheap 254 = .ok (.iload 7, 2) := tb_d tk_X8_cheap_4 10 (254, .iload 7, 2) rfl
theorem dX8_cheap_256 : decode cX8_cheap 256 = .ok (.goto 5, 3) := tb_d tk_X8_cheap_4 11 (256, .goto 5, 3) rfl
theorem dX8_cheap_259 : decode cX8_cheap 259 = .ok (.iload 5, 2) := tb_d tk_X8_cheap_4 12 (259, .iload 5, 2) rfl
theorem dX8_cheap_261 : decode cX8_cheap 261 = .ok (.istore 5, 2) := tb_d tk_X8_cheap_4 13 (261, .istore 5, 2) rfl
theorem dX8_cheap_263 : decode cX8_cheap 263 = .ok (.iinc 6 1, 3) := tb_d tk_X8_cheap_4 14 (263, .iinc 6 1, 3) rfl
theorem dX8_cheap_266 : decode cX8_cheap 266 = .ok (.goto (-218), 3) := tb_d tk_X8_cheap_4 15 (266, .goto (-218), 3) rfl
theorem dX8_cheap_269 : decode cX8_cheap 269 = .ok (.iload_n 3, 1) := tb_d tk_X8_cheap_4 16 (269, .iload_n 3, 1) rfl
theorem dX8_cheap_270 : decode cX8_cheap 270 = .ok (.ifCond .ne 8, 3) := tb_d tk_X8_cheap_4 17 (270, .ifCond .ne 8, 3) rfl
theorem dX8_cheap_273 : decode cX8_cheap 273 = .ok (.iload 5, 2) := tb_d tk_X8_cheap_4 18 (273, .iload 5, 2) rfl
theorem dX8_cheap_275 : decode cX8_cheap 275 = .ok (.goto 5, 3) := tb_d tk_X8_cheap_4 19 (275, .goto 5, 3) rfl
theorem dX8_cheap_278 : decode cX8_cheap 278 = .ok (.iload 4, 2) := tb_d tk_X8_cheap_4 20 (278, .iload 4, 2) rfl
theorem dX8_cheap_280 : decode cX8_cheap 280 = .ok (.ireturn, 1) := tb_d tk_X8_cheap_4 21 (280, .ireturn, 1) rfl
theorem ggX8_near_X8_isWord : GoodIn wsX8_near wsX8_isWord := fun w h => ⟨List.mem_cons_of_mem _ (List.mem_append_right _ (List.mem_append_right _ (List.mem_append_right _ (List.mem_append_right _ (List.mem_append_right _ (List.mem_append_left _ h)))))), good_of_word (gdX8_isWord w h)⟩
set_option maxRecDepth 20000 in
theorem gX8_near_X8_isWord : GoodIn wsX8_near (wsV RX8 190 RX8 yX8_isWord wsX8_isWord) := goodIn_app (a := bkV RX8 190 RX8 yX8_isWord) (fun w h => ⟨List.mem_cons_of_mem _ (List.mem_append_right _ (List.mem_append_left _ h)), good_of_word (gd_bV _ _ _ _ w h)⟩) ggX8_near_X8_isWord
theorem ggX8_near_X8_in : GoodIn wsX8_near wsX8_in := fun w h => ⟨List.mem_cons_of_mem _ (List.mem_append_right _ (List.mem_append_right _ (List.mem_append_right _ (List.mem_append_right _ (List.mem_append_right _ (List.mem_append_right _ (List.mem_append_left _ h))))))), good_of_word (gdX8_in w h)⟩
set_option maxRecDepth 20000 in
theorem gX8_near_X8_in : GoodIn wsX8_near (va_wsS RX8 56 yX8_in wsX8_in) := goodIn_app (a := bkS RX8 56 yX8_in) (fun w h => ⟨List.mem_cons_of_mem _ (List.mem_append_right _ (List.mem_append_right _ (List.mem_append_left _ h))), good_of_word (gd_bS _ _ _ w h)⟩) ggX8_near_X8_in
theorem ggX8_near_X8_distance : GoodIn wsX8_near wsX8_distance := fun w h => ⟨List.mem_cons_of_mem _ (List.mem_append_right _ (List.mem_append_right _ (List.mem_append_right _ (List.mem_append_right _ (List.mem_append_right _ (List.mem_append_right _ (List.mem_append_right _ (List.mem_append_left _ h)))))))), good_of_word (gdX8_distance w h)⟩
set_option maxRecDepth 20000 in
theorem gX8_near_X8_distance : GoodIn wsX8_near (wsV RX8 152 RX8 yX8_distance wsX8_distance) := goodIn_app (a := bkV RX8 152 RX8 yX8_distance) (fun w h => ⟨List.mem_cons_of_mem _ (List.mem_append_right _ (List.mem_append_right _ (List.mem_append_right _ (List.mem_append_left _ h)))), good_of_word (gd_bV _ _ _ _ w h)⟩) ggX8_near_X8_distance
def tb_X8_near_1 : List (Nat × Instr × Nat) := [(0, .aload_n 0, 1), (1, .iload_n 1, 1), (2, .invokevirtual 190, 3), (5, .ifCond .eq 12, 3), (8, .iload_n 2, 1), (9, .iconst 0, 1), (10, .iconst 1, 1), (11, .invokestatic 56, 3), (14, .ifCond .ne 6, 3), (17, .ldc 64, 2), (19, .ireturn, 1), (20, .ldc 50, 2), (22, .istore_n 3, 1), (23, .iconst 0, 1), (24, .istore 4, 2), (26, .iload 4, 2), (28, .aload_n 0, 1), (29, .getfield 25, 3), (32, .iconst 3, 1), (33, .iaload, 1), (34, .if_icmp .ge 44, 3), (37, .iload 4, 2), (39, .iload_n 1, 1), (40, .if_icmp .eq 30, 3), (43, .iload_n 3, 1), (44, .ldc 50, 2), (46, .if_icmp .eq 19, 3), (49, .aload_n 0, 1), (50, .iload 4, 2), (52, .iload_n 1, 1), (53, .invokevirtual 152, 3), (56, .aload_n 0, 1), (57, .iload_n 3, 1), (58, .iload_n 1, 1), (59, .invokevirtual 152, 3), (62, .if_icmp .ge 8, 3), (65, .iload 4, 2), (67, .goto 4, 3), (70, .iload_n 3, 1), (71, .istore_n 3, 1)]
set_option maxRecDepth 100000 in
theorem tk_X8_near_1 : (tb_X8_near_1.all fun q => decide (decode cX8_near q.1 = .ok q.2)) = true := by decide +kernel
theorem dX8_near_0 : decode cX8_near 0 = .ok (.aload_n 0, 1) := tb_d tk_X8_near_1 0 (0, .aload_n 0, 1) rfl
theorem dX8_near_1 : decode cX8_near 1 = .ok (.iload_n 1, 1) := tb_d tk_X8_near_1 1 (1, .iload_n 1, 1) rfl
theorem dX8_near_2 : decode cX8_near 2 = .ok (.invokevirtual 190, 3) := tb_d tk_X8_near_1 2 (2, .invokevirtual 190, 3) rfl
theorem dX8_near_5 : decode cX8_near 5 = .ok (.ifCond .eq 12, 3) := tb_d tk_X8_near_1 3 (5, .ifCond .eq 12, 3) rfl
theorem dX8_near_8 : decode cX8_near 8 = .ok (.iload_n 2, 1) := tb_d tk_X8_near_1 4 (8, .iload_n 2, 1) rfl
theorem dX8_near_9 : decode cX8_near 9 = .ok (.iconst 0, 1) := tb_d tk_X8_near_1 5 (9, .iconst 0, 1) rfl
theorem dX8_near_10 : decode cX8_near 10 = .ok (.iconst 1, 1) := tb_d tk_X8_near_1 6 (10, .iconst 1, 1) rfl
theorem dX8_near_11 : decode cX8_near 11 = .ok (.invokestatic 56, 3) := tb_d tk_X8_near_1 7 (11, .invokestatic 56, 3) rfl
theorem dX8_near_14 : decode cX8_near 14 = .ok (.ifCond .ne 6, 3) := tb_d tk_X8_near_1 8 (14, .ifCond .ne 6, 3) rfl
theorem dX8_near_17 : decode cX8_near 17 = .ok (.ldc 64, 2) := tb_d tk_X8_near_1 9 (17, .ldc 64, 2) rfl
theorem dX8_near_19 : decode cX8_near 19 = .ok (.ireturn, 1) := tb_d tk_X8_near_1 10 (19, .ireturn, 1) rfl
theorem dX8_near_20 : decode cX8_near 20 = .ok (.ldc 50, 2) := tb_d tk_X8_near_1 11 (20, .ldc 50, 2) rfl
theorem dX8_near_22 : decode cX8_near 22 = .ok (.istore_n 3, 1) := tb_d tk_X8_near_1 12 (22, .istore_n 3, 1) rfl
theorem dX8_near_23 : decode cX8_near 23 = .ok (.iconst 0, 1) := tb_d tk_X8_near_1 13 (23, .iconst 0, 1) rfl
theorem dX8_near_24 : decode cX8_near 24 = .ok (.istore 4, 2) := tb_d tk_X8_near_1 14 (24, .istore 4, 2) rfl
theorem dX8_near_26 : decode cX8_near 26 = .ok (.iload 4, 2) := tb_d tk_X8_near_1 15 (26, .iload 4, 2) rfl
theorem dX8_near_28 : decode cX8_near 28 = .ok (.aload_n 0, 1) := tb_d tk_X8_near_1 16 (28, .aload_n 0, 1) rfl
theorem dX8_near_29 : decode cX8_near 29 = .ok (.getfield 25, 3) := tb_d tk_X8_near_1 17 (29, .getfield 25, 3) rfl
theorem dX8_near_32 : decode cX8_near 32 = .ok (.iconst 3, 1) := tb_d tk_X8_near_1 18 (32, .iconst 3, 1) rfl
theorem dX8_near_33 : decode cX8_near 33 = .ok (.iaload, 1) := tb_d tk_X8_near_1 19 (33, .iaload, 1) rfl
theorem dX8_near_34 : decode cX8_near 34 = .ok (.if_icmp .ge 44, 3) := tb_d tk_X8_near_1 20 (34, .if_icmp .ge 44, 3) rfl
theorem dX8_near_37 : decode cX8_near 37 = .ok (.iload 4, 2) := tb_d tk_X8_near_1 21 (37, .iload 4, 2) rfl
theorem dX8_near_39 : decode cX8_near 39 = .ok (.iload_n 1, 1) := tb_d tk_X8_near_1 22 (39, .iload_n 1, 1) rfl
theorem dX8_near_40 : decode cX8_near 40 = .ok (.if_icmp .eq 30, 3) := tb_d tk_X8_near_1 23 (40, .if_icmp .eq 30, 3) rfl
theorem dX8_near_43 : decode cX8_near 43 = .ok (.iload_n 3, 1) := tb_d tk_X8_near_1 24 (43, .iload_n 3, 1) rfl
theorem dX8_near_44 : decode cX8_near 44 = .ok (.ldc 50, 2) := tb_d tk_X8_near_1 25 (44, .ldc 50, 2) rfl
theorem dX8_near_46 : decode cX8_near 46 = .ok (.if_icmp .eq 19, 3) := tb_d tk_X8_near_1 26 (46, .if_icmp .eq 19, 3) rfl
theorem dX8_near_49 : decode cX8_near 49 = .ok (.aload_n 0, 1) := tb_d tk_X8_near_1 27 (49, .aload_n 0, 1) rfl
theorem dX8_near_50 : decode cX8_near 50 = .ok (.iload 4, 2) := tb_d tk_X8_near_1 28 (50, .iload 4, 2) rfl
theorem dX8_near_52 : decode cX8_near 52 = .ok (.iload_n 1, 1) := tb_d tk_X8_near_1 29 (52, .iload_n 1, 1) rfl
theorem dX8_near_53 : decode cX8_near 53 = .ok (.invokevirtual 152, 3) := tb_d tk_X8_near_1 30 (53, .invokevirtual 152, 3) rfl
theorem dX8_near_56 : decode cX8_near 56 = .ok (.aload_n 0, 1) := tb_d tk_X8_near_1 31 (56, .aload_n 0, 1) rfl
theorem dX8_near_57 : decode cX8_near 57 = .ok (.iload_n 3, 1) := tb_d tk_X8_near_1 32 (57, .iload_n 3, 1) rfl
theorem dX8_near_58 : decode cX8_near 58 = .ok (.iload_n 1, 1) := tb_d tk_X8_near_1 33 (58, .iload_n 1, 1) rfl
theorem dX8_near_59 : decode cX8_near 59 = .ok (.invokevirtual 152, 3) := tb_d tk_X8_near_1 34 (59, .invokevirtual 152, 3) rfl
theorem dX8_near_62 : decode cX8_near 62 = .ok (.if_icmp .ge 8, 3) := tb_d tk_X8_near_1 35 (62, .if_icmp .ge 8, 3) rfl
theorem dX8_near_65 : decode cX8_near 65 = .ok (.iload 4, 2) := tb_d tk_X8_near_1 36 (65, .iload 4, 2) rfl
theorem dX8_near_67 : decode cX8_near 67 = .ok (.goto 4, 3) := tb_d tk_X8_near_1 37 (67, .goto 4, 3) rfl
theorem dX8_near_70 : decode cX8_near 70 = .ok (.iload_n 3, 1) := tb_d tk_X8_near_1 38 (70, .iload_n 3, 1) rfl
theorem dX8_near_71 : decode cX8_near 71 = .ok (.istore_n 3, 1) := tb_d tk_X8_near_1 39 (71, .istore_n 3, 1) rfl
def tb_X8_near_2 : List (Nat × Instr × Nat) := [(72, .iinc 4 1, 3), (75, .goto (-49), 3), (78, .iload_n 3, 1), (79, .ldc 50, 2), (81, .if_icmp .eq 7, 3), (84, .iload_n 2, 1), (85, .ifCond .ne 7, 3), (88, .iload_n 3, 1), (89, .goto 9, 3), (92, .aload_n 0, 1), (93, .iload_n 3, 1), (94, .iload_n 1, 1), (95, .invokevirtual 152, 3), (98, .ireturn, 1)]
set_option maxRecDepth 100000 in
theorem tk_X8_near_2 : (tb_X8_near_2.all fun q => decide (decode cX8_near q.1 = .ok q.2)) = true := by decide +kernel
theorem dX8_near_72 : decode cX8_near 72 = .ok (.iinc 4 1, 3) := tb_d tk_X8_near_2 0 (72, .iinc 4 1, 3) rfl
theorem dX8_near_75 : decode cX8_near 75 = .ok (.goto (-49), 3) := tb_d tk_X8_near_2 1 (75, .goto (-49), 3) rfl
theorem dX8_near_78 : decode cX8_near 78 = .ok (.iload_n 3, 1) := tb_d tk_X8_near_2 2 (78, .iload_n 3, 1) rfl
theorem dX8_near_79 : decode cX8_near 79 = .ok (.ldc 50, 2) := tb_d tk_X8_near_2 3 (79, .ldc 50, 2) rfl
theorem dX8_near_81 : decode cX8_near 81 = .ok (.if_icmp .eq 7, 3) := tb_d tk_X8_near_2 4 (81, .if_icmp .eq 7, 3) rfl
theorem dX8_near_84 : decode cX8_near 84 = .ok (.iload_n 2, 1) := tb_d tk_X8_near_2 5 (84, .iload_n 2, 1) rfl
theorem dX8_near_85 : decode cX8_near 85 = .ok (.ifCond .ne 7, 3) := tb_d tk_X8_near_2 6 (85, .ifCond .ne 7, 3) rfl
theorem dX8_near_88 : decode cX8_near 88 = .ok (.iload_n 3, 1) := tb_d tk_X8_near_2 7 (88, .iload_n 3, 1) rfl
theorem dX8_near_89 : decode cX8_near 89 = .ok (.goto 9, 3) := tb_d tk_X8_near_2 8 (89, .goto 9, 3) rfl
theorem dX8_near_92 : decode cX8_near 92 = .ok (.aload_n 0, 1) := tb_d tk_X8_near_2 9 (92, .aload_n 0, 1) rfl
theorem dX8_near_93 : decode cX8_near 93 = .ok (.iload_n 3, 1) := tb_d tk_X8_near_2 10 (93, .iload_n 3, 1) rfl
theorem dX8_near_94 : decode cX8_near 94 = .ok (.iload_n 1, 1) := tb_d tk_X8_near_2 11 (94, .iload_n 1, 1) rfl
theorem dX8_near_95 : decode cX8_near 95 = .ok (.invokevirtual 152, 3) := tb_d tk_X8_near_2 12 (95, .invokevirtual 152, 3) rfl
theorem dX8_near_98 : decode cX8_near 98 = .ok (.ireturn, 1) := tb_d tk_X8_near_2 13 (98, .ireturn, 1) rfl
theorem ggX8_rules_X8_isGate : GoodIn wsX8_rules wsX8_isGate := fun w h => ⟨List.mem_cons_of_mem _ (List.mem_append_right _ (List.mem_append_right _ (List.mem_append_right _ (List.mem_append_right _ (List.mem_append_right _ (List.mem_append_right _ (List.mem_append_right _ (List.mem_append_right _ (List.mem_append_right _ (List.mem_append_right _ (List.mem_append_right _ (List.mem_append_left _ h)))))))))))), good_of_word (gdX8_isGate w h)⟩
set_option maxRecDepth 20000 in
theorem gX8_rules_X8_isGate : GoodIn wsX8_rules (wsV RX8 180 RX8 yX8_isGate wsX8_isGate) := goodIn_app (a := bkV RX8 180 RX8 yX8_isGate) (fun w h => ⟨List.mem_cons_of_mem _ (List.mem_append_right _ (List.mem_append_left _ h)), good_of_word (gd_bV _ _ _ _ w h)⟩) ggX8_rules_X8_isGate
theorem ggX8_rules_X8_isRow : GoodIn wsX8_rules wsX8_isRow := fun w h => ⟨List.mem_cons_of_mem _ (List.mem_append_right _ (List.mem_append_right _ (List.mem_append_right _ (List.mem_append_right _ (List.mem_append_right _ (List.mem_append_right _ (List.mem_append_right _ (List.mem_append_right _ (List.mem_append_right _ (List.mem_append_right _ (List.mem_append_right _ (List.mem_append_right _ (List.mem_append_left _ h))))))))))))), good_of_word (gdX8_isRow w h)⟩
set_option maxRecDepth 20000 in
theorem gX8_rules_X8_isRow : GoodIn wsX8_rules (va_wsS RX8 60 yX8_isRow wsX8_isRow) := goodIn_app (a := bkS RX8 60 yX8_isRow) (fun w h => ⟨List.mem_cons_of_mem _ (List.mem_append_right _ (List.mem_append_right _ (List.mem_append_left _ h))), good_of_word (gd_bS _ _ _ w h)⟩) ggX8_rules_X8_isRow
theorem ggX8_rules_X8_in : GoodIn wsX8_rules wsX8_in := fun w h => ⟨List.mem_cons_of_mem _ (List.mem_append_right _ (List.mem_append_right _ (List.mem_append_right _ (List.mem_append_right _ (List.mem_append_right _ (List.mem_append_right _ (List.mem_append_right _ (List.mem_append_right _ (List.mem_append_right _ (List.mem_append_right _ (List.mem_append_right _ (List.mem_append_right _ (List.mem_append_right _ (List.mem_append_left _ h)))))))))))))), good_of_word (gdX8_in w h)⟩
set_option maxRecDepth 20000 in
theorem gX8_rules_X8_in : GoodIn wsX8_rules (va_wsS RX8 56 yX8_in wsX8_in) := goodIn_app (a := bkS RX8 56 yX8_in) (fun w h => ⟨List.mem_cons_of_mem _ (List.mem_append_right _ (List.mem_append_right _ (List.mem_append_right _ (List.mem_append_left _ h)))), good_of_word (gd_bS _ _ _ w h)⟩) ggX8_rules_X8_in
theorem ggX8_rules_X8_isMissing : GoodIn wsX8_rules wsX8_isMissing := fun w h => ⟨List.mem_cons_of_mem _ (List.mem_append_right _ (List.mem_append_right _ (List.mem_append_right _ (List.mem_append_right _ (List.mem_append_right _ (List.mem_append_right _ (List.mem_append_right _ (List.mem_append_right _ (List.mem_append_right _ (List.mem_append_right _ (List.mem_append_right _ (List.mem_append_right _ (List.mem_append_right _ (List.mem_append_right _ (List.mem_append_left _ h))))))))))))))), good_of_word (gdX8_isMissing w h)⟩
set_option maxRecDepth 20000 in
theorem gX8_rules_X8_isMissing : GoodIn wsX8_rules (wsV RX8 72 RX8 yX8_isMissing wsX8_isMissing) := goodIn_app (a := bkV RX8 72 RX8 yX8_isMissing) (fun w h => ⟨List.mem_cons_of_mem _ (List.mem_append_right _ (List.mem_append_right _ (List.mem_append_right _ (List.mem_append_right _ (List.mem_append_left _ h))))), good_of_word (gd_bV _ _ _ _ w h)⟩) ggX8_rules_X8_isMissing
theorem ggX8_rules_X8_found : GoodIn wsX8_rules wsX8_found := fun w h => ⟨List.mem_cons_of_mem _ (List.mem_append_right _ (List.mem_append_right _ (List.mem_append_right _ (List.mem_append_right _ (List.mem_append_right _ (List.mem_append_right _ (List.mem_append_right _ (List.mem_append_right _ (List.mem_append_right _ (List.mem_append_right _ (List.mem_append_right _ (List.mem_append_right _ (List.mem_append_right _ (List.mem_append_right _ (List.mem_append_right _ (List.mem_append_left _ h)))))))))))))))), good_of_word (gdX8_found w h)⟩
set_option maxRecDepth 20000 in
theorem gX8_rules_X8_found : GoodIn wsX8_rules (wsV RX8 65 RX8 yX8_found wsX8_found) := goodIn_app (a := bkV RX8 65 RX8 yX8_found) (fun w h => ⟨List.mem_cons_of_mem _ (List.mem_append_right _ (List.mem_append_right _ (List.mem_append_right _ (List.mem_append_right _ (List.mem_append_right _ (List.mem_append_left _ h)))))), good_of_word (gd_bV _ _ _ _ w h)⟩) ggX8_rules_X8_found
theorem ggX8_rules_X8_isPart : GoodIn wsX8_rules wsX8_isPart := fun w h => ⟨List.mem_cons_of_mem _ (List.mem_append_right _ (List.mem_append_right _ (List.mem_append_right _ (List.mem_append_right _ (List.mem_append_right _ (List.mem_append_right _ (List.mem_append_right _ (List.mem_append_right _ (List.mem_append_right _ (List.mem_append_right _ (List.mem_append_right _ (List.mem_append_right _ (List.mem_append_right _ (List.mem_append_right _ (List.mem_append_right _ (List.mem_append_right _ (List.mem_append_left _ h))))))))))))))))), good_of_word (gdX8_isPart w h)⟩
set_option maxRecDepth 20000 in
theorem gX8_rules_X8_isPart : GoodIn wsX8_rules (wsV RX8 79 RX8 yX8_isPart wsX8_isPart) := goodIn_app (a := bkV RX8 79 RX8 yX8_isPart) (fun w h => ⟨List.mem_cons_of_mem _ (List.mem_append_right _ (List.mem_append_right _ (List.mem_append_right _ (List.mem_append_right _ (List.mem_append_right _ (List.mem_append_right _ (List.mem_append_left _ h))))))), good_of_word (gd_bV _ _ _ _ w h)⟩) ggX8_rules_X8_isPart
theorem ggX8_rules_X8_copies : GoodIn wsX8_rules wsX8_copies := fun w h => ⟨List.mem_cons_of_mem _ (List.mem_append_right _ (List.mem_append_right _ (List.mem_append_right _ (List.mem_append_right _ (List.mem_append_right _ (List.mem_append_right _ (List.mem_append_right _ (List.mem_append_right _ (List.mem_append_right _ (List.mem_append_right _ (List.mem_append_right _ (List.mem_append_right _ (List.mem_append_right _ (List.mem_append_right _ (List.mem_append_right _ (List.mem_append_right _ (List.mem_append_right _ (List.mem_append_left _ h)))))))))))))))))), good_of_word (gdX8_copies w h)⟩
set_option maxRecDepth 20000 in
theorem gX8_rules_X8_copies : GoodIn wsX8_rules (va_wsS RX8 145 yX8_copies wsX8_copies) := goodIn_app (a := bkS RX8 145 yX8_copies) (fun w h => ⟨List.mem_cons_of_mem _ (List.mem_append_right _ (List.mem_append_right _ (List.mem_append_right _ (List.mem_append_right _ (List.mem_append_right _ (List.mem_append_right _ (List.mem_append_right _ (List.mem_append_left _ h)))))))), good_of_word (gd_bS _ _ _ w h)⟩) ggX8_rules_X8_copies
theorem ggX8_rules_X8_secretOf : GoodIn wsX8_rules wsX8_secretOf := fun w h => ⟨List.mem_cons_of_mem _ (List.mem_append_right _ (List.mem_append_right _ (List.mem_append_right _ (List.mem_append_right _ (List.mem_append_right _ (List.mem_append_right _ (List.mem_append_right _ (List.mem_append_right _ (List.mem_append_right _ (List.mem_append_right _ (List.mem_append_right _ (List.mem_append_right _ (List.mem_append_right _ (List.mem_append_right _ (List.mem_append_right _ (List.mem_append_right _ (List.mem_append_right _ (List.mem_append_right _ (List.mem_append_left _ h))))))))))))))))))), good_of_word (gdX8_secretOf w h)⟩
set_option maxRecDepth 20000 in
theorem gX8_rules_X8_secretOf : GoodIn wsX8_rules (va_wsS RX8 172 yX8_secretOf wsX8_secretOf) := goodIn_app (a := bkS RX8 172 yX8_secretOf) (fun w h => ⟨List.mem_cons_of_mem _ (List.mem_append_right _ (List.mem_append_right _ (List.mem_append_right _ (List.mem_append_right _ (List.mem_append_right _ (List.mem_append_right _ (List.mem_append_right _ (List.mem_append_right _ (List.mem_append_left _ h))))))))), good_of_word (gd_bS _ _ _ w h)⟩) ggX8_rules_X8_secretOf
theorem ggX8_rules_X8_well : GoodIn wsX8_rules wsX8_well := fun w h => ⟨List.mem_cons_of_mem _ (List.mem_append_right _ (List.mem_append_right _ (List.mem_append_right _ (List.mem_append_right _ (List.mem_append_right _ (List.mem_append_right _ (List.mem_append_right _ (List.mem_append_right _ (List.mem_append_right _ (List.mem_append_right _ (List.mem_append_right _ (List.mem_append_right _ (List.mem_append_right _ (List.mem_append_right _ (List.mem_append_right _ (List.mem_append_right _ (List.mem_append_right _ (List.mem_append_right _ (List.mem_append_right _ (List.mem_append_left _ h)))))))))))))))))))), good_of_word (gdX8_well w h)⟩
set_option maxRecDepth 20000 in
theorem gX8_rules_X8_well : GoodIn wsX8_rules (wsV RX8 69 RX8 yX8_well wsX8_well) := goodIn_app (a := bkV RX8 69 RX8 yX8_well) (fun w h => ⟨List.mem_cons_of_mem _ (List.mem_append_right _ (List.mem_append_right _ (List.mem_append_right _ (List.mem_append_right _ (List.mem_append_right _ (List.mem_append_right _ (List.mem_append_right _ (List.mem_append_right _ (List.mem_append_right _ (List.mem_append_left _ h)))))))))), good_of_word (gd_bV _ _ _ _ w h)⟩) ggX8_rules_X8_well
def tb_X8_rules_1 : List (Nat × Instr × Nat) := [(0, .aload_n 0, 1), (1, .invokevirtual 180, 3), (4, .ifCond .ne 6, 3), (7, .ldc 183, 2), (9, .ireturn, 1), (10, .iload_n 1, 1), (11, .invokestatic 60, 3), (14, .ifCond .eq 23, 3), (17, .iload_n 3, 1), (18, .iconst 1, 1), (19, .bipush 16, 2), (21, .invokestatic 56, 3), (24, .ifCond .eq 13, 3), (27, .iload 4, 2), (29, .iconst 0, 1), (30, .iconst 2, 1), (31, .invokestatic 56, 3), (34, .ifCond .ne 6, 3), (37, .ldc 64, 2), (39, .ireturn, 1), (40, .aload_n 0, 1), (41, .iload_n 1, 1), (42, .invokevirtual 72, 3), (45, .ifCond .eq 9, 3), (48, .aload_n 0, 1), (49, .iconst 1, 1), (50, .invokevirtual 65, 3), (53, .ireturn, 1), (54, .aload_n 0, 1), (55, .iload_n 1, 1), (56, .iload_n 2, 1), (57, .iload_n 3, 1), (58, .invokevirtual 79, 3), (61, .ifCond .ne 9, 3), (64, .aload_n 0, 1), (65, .iconst 2, 1), (66, .invokevirtual 65, 3), (69, .ireturn, 1), (70, .iconst 0, 1), (71, .istore 5, 2)]
set_option maxRecDepth 100000 in
theorem tk_X8_rules_1 : (tb_X8_rules_1.all fun q => decide (decode cX8_rules q.1 = .ok q.2)) = true := by decide +kernel
theorem dX8_rules_0 : decode cX8_rules 0 = .ok (.aload_n 0, 1) := tb_d tk_X8_rules_1 0 (0, .aload_n 0, 1) rfl
theorem dX8_rules_1 : decode cX8_rules 1 = .ok (.invokevirtual 180, 3) := tb_d tk_X8_rules_1 1 (1, .invokevirtual 180, 3) rfl
theorem dX8_rules_4 : decode cX8_rules 4 = .ok (.ifCond .ne 6, 3) := tb_d tk_X8_rules_1 2 (4, .ifCond .ne 6, 3) rfl
theorem dX8_rules_7 : decode cX8_rules 7 = .ok (.ldc 183, 2) := tb_d tk_X8_rules_1 3 (7, .ldc 183, 2) rfl
theorem dX8_rules_9 : decode cX8_rules 9 = .ok (.ireturn, 1) := tb_d tk_X8_rules_1 4 (9, .ireturn, 1) rfl
theorem dX8_rules_10 : decode cX8_rules 10 = .ok (.iload_n 1, 1) := tb_d tk_X8_rules_1 5 (10, .iload_n 1, 1) rfl
theorem dX8_rules_11 : decode cX8_rules 11 = .ok (.invokestatic 60, 3) := tb_d tk_X8_rules_1 6 (11, .invokestatic 60, 3) rfl
theorem dX8_rules_14 : decode cX8_rules 14 = .ok (.ifCond .eq 23, 3) := tb_d tk_X8_rules_1 7 (14, .ifCond .eq 23, 3) rfl
theorem dX8_rules_17 : decode cX8_rules 17 = .ok (.iload_n 3, 1) := tb_d tk_X8_rules_1 8 (17, .iload_n 3, 1) rfl
theorem dX8_rules_18 : decode cX8_rules 18 = .ok (.iconst 1, 1) := tb_d tk_X8_rules_1 9 (18, .iconst 1, 1) rfl
theorem dX8_rules_19 : decode cX8_rules 19 = .ok (.bipush 16, 2) := tb_d tk_X8_rules_1 10 (19, .bipush 16, 2) rfl
theorem dX8_rules_21 : decode cX8_rules 21 = .ok (.invokestatic 56, 3) := tb_d tk_X8_rules_1 11 (21, .invokestatic 56, 3) rfl
theorem dX8_rules_24 : decode cX8_rules 24 = .ok (.ifCond .eq 13, 3) := tb_d tk_X8_rules_1 12 (24, .ifCond .eq 13, 3) rfl
theorem dX8_rules_27 : decode cX8_rules 27 = .ok (.iload 4, 2) := tb_d tk_X8_rules_1 13 (27, .iload 4, 2) rfl
theorem dX8_rules_29 : decode cX8_rules 29 = .ok (.iconst 0, 1) := tb_d tk_X8_rules_1 14 (29, .iconst 0, 1) rfl
theorem dX8_rules_30 : decode cX8_rules 30 = .ok (.iconst 2, 1) := tb_d tk_X8_rules_1 15 (30, .iconst 2, 1) rfl
theorem dX8_rules_31 : decode cX8_rules 31 = .ok (.invokestatic 56, 3) := tb_d tk_X8_rules_1 16 (31, .invokestatic 56, 3) rfl
theorem dX8_rules_34 : decode cX8_rules 34 = .ok (.ifCond .ne 6, 3) := tb_d tk_X8_rules_1 17 (34, .ifCond .ne 6, 3) rfl
theorem dX8_rules_37 : decode cX8_rules 37 = .ok (.ldc 64, 2) := tb_d tk_X8_rules_1 18 (37, .ldc 64, 2) rfl
theorem dX8_rules_39 : decode cX8_rules 39 = .ok (.ireturn, 1) := tb_d tk_X8_rules_1 19 (39, .ireturn, 1) rfl
theorem dX8_rules_40 : decode cX8_rules 40 = .ok (.aload_n 0, 1) := tb_d tk_X8_rules_1 20 (40, .aload_n 0, 1) rfl
theorem dX8_rules_41 : decode cX8_rules 41 = .ok (.iload_n 1, 1) := tb_d tk_X8_rules_1 21 (41, .iload_n 1, 1) rfl
theorem dX8_rules_42 : decode cX8_rules 42 = .ok (.invokevirtual 72, 3) := tb_d tk_X8_rules_1 22 (42, .invokevirtual 72, 3) rfl
theorem dX8_rules_45 : decode cX8_rules 45 = .ok (.ifCond .eq 9, 3) := tb_d tk_X8_rules_1 23 (45, .ifCond .eq 9, 3) rfl
theorem dX8_rules_48 : decode cX8_rules 48 = .ok (.aload_n 0, 1) := tb_d tk_X8_rules_1 24 (48, .aload_n 0, 1) rfl
theorem dX8_rules_49 : decode cX8_rules 49 = .ok (.iconst 1, 1) := tb_d tk_X8_rules_1 25 (49, .iconst 1, 1) rfl
theorem dX8_rules_50 : decode cX8_rules 50 = .ok (.invokevirtual 65, 3) := tb_d tk_X8_rules_1 26 (50, .invokevirtual 65, 3) rfl
theorem dX8_rules_53 : decode cX8_rules 53 = .ok (.ireturn, 1) := tb_d tk_X8_rules_1 27 (53, .ireturn, 1) rfl
theorem dX8_rules_54 : decode cX8_rules 54 = .ok (.aload_n 0, 1) := tb_d tk_X8_rules_1 28 (54, .aload_n 0, 1) rfl
theorem dX8_rules_55 : decode cX8_rules 55 = .ok (.iload_n 1, 1) := tb_d tk_X8_rules_1 29 (55, .iload_n 1, 1) rfl
theorem dX8_rules_56 : decode cX8_rules 56 = .ok (.iload_n 2, 1) := tb_d tk_X8_rules_1 30 (56, .iload_n 2, 1) rfl
theorem dX8_rules_57 : decode cX8_rules 57 = .ok (.iload_n 3, 1) := tb_d tk_X8_rules_1 31 (57, .iload_n 3, 1) rfl
theorem dX8_rules_58 : decode cX8_rules 58 = .ok (.invokevirtual 79, 3) := tb_d tk_X8_rules_1 32 (58, .invokevirtual 79, 3) rfl
theorem dX8_rules_61 : decode cX8_rules 61 = .ok (.ifCond .ne 9, 3) := tb_d tk_X8_rules_1 33 (61, .ifCond .ne 9, 3) rfl
theorem dX8_rules_64 : decode cX8_rules 64 = .ok (.aload_n 0, 1) := tb_d tk_X8_rules_1 34 (64, .aload_n 0, 1) rfl
theorem dX8_rules_65 : decode cX8_rules 65 = .ok (.iconst 2, 1) := tb_d tk_X8_rules_1 35 (65, .iconst 2, 1) rfl
theorem dX8_rules_66 : decode cX8_rules 66 = .ok (.invokevirtual 65, 3) := tb_d tk_X8_rules_1 36 (66, .invokevirtual 65, 3) rfl
theorem dX8_rules_69 : decode cX8_rules 69 = .ok (.ireturn, 1) := tb_d tk_X8_rules_1 37 (69, .ireturn, 1) rfl
theorem dX8_rules_70 : decode cX8_rules 70 = .ok (.iconst 0, 1) := tb_d tk_X8_rules_1 38 (70, .iconst 0, 1) rfl
theorem dX8_rules_71 : decode cX8_rules 71 = .ok (.istore 5, 2) := tb_d tk_X8_rules_1 39 (71, .istore 5, 2) rfl
def tb_X8_rules_2 : List (Nat × Instr × Nat) := [(73, .iconst 0, 1), (74, .istore 6, 2), (76, .iload 6, 2), (78, .iload 4, 2), (80, .iconst 2, 1), (81, .if_icmp .ne 8, 3), (84, .bipush 6, 2), (86, .goto 5, 3), (89, .bipush 9, 2), (91, .if_icmp .gt 112, 3), (94, .aload_n 0, 1), (95, .getfield 25, 3), (98, .iconst 0, 1), (99, .aload_n 0, 1), (100, .getfield 31, 3), (103, .iconst 0, 1), (104, .invokestatic 145, 3), (107, .aload_n 0, 1), (108, .getfield 31, 3), (111, .iload 4, 2), (113, .iload 6, 2), (115, .iastore, 1), (116, .iconst 1, 1), (117, .istore 7, 2), (119, .iconst 0, 1), (120, .istore 8, 2), (122, .iload 8, 2), (124, .iload_n 3, 1), (125, .if_icmp .ge 54, 3), (128, .iload 7, 2), (130, .ifCond .eq 40, 3), (133, .aload_n 0, 1), (134, .getfield 31, 3), (137, .aload_n 0, 1), (138, .getfield 25, 3), (141, .iconst 5, 1), (142, .iaload, 1), (143, .iload 8, 2), (145, .iadd, 1), (146, .invokestatic 172, 3)]
set_option maxRecDepth 100000 in
theorem tk_X8_rules_2 : (tb_X8_rules_2.all fun q => decide (decode cX8_rules q.1 = .ok q.2)) = true := by decide +kernel
theorem dX8_rules_73 : decode cX8_rules 73 = .ok (.iconst 0, 1) := tb_d tk_X8_rules_2 0 (73, .iconst 0, 1) rfl
theorem dX8_rules_74 : decode cX8_rules 74 = .ok (.istore 6, 2) := tb_d tk_X8_rules_2 1 (74, .istore 6, 2) rfl
theorem dX8_rules_76 : decode cX8_rules 76 = .ok (.iload 6, 2) := tb_d tk_X8_rules_2 2 (76, .iload 6, 2) rfl
theorem dX8_rules_78 : decode cX8_rules 78 = .ok (.iload 4, 2) := tb_d tk_X8_rules_2 3 (78, .iload 4, 2) rfl
theorem dX8_rules_80 : decode cX8_rules 80 = .ok (.iconst 2, 1) := tb_d tk_X8_rules_2 4 (80, .iconst 2, 1) rfl
theorem dX8_rules_81 : decode cX8_rules 81 = .ok (.if_icmp .ne 8, 3) := tb_d tk_X8_rules_2 5 (81, .if_icmp .ne 8, 3) rfl
theorem dX8_rules_84 : decode cX8_rules 84 = .ok (.bipush 6, 2) := tb_d tk_X8_rules_2 6 (84, .bipush 6, 2) rfl
theorem dX8_rules_86 : decode cX8_rules 86 = .ok (.goto 5, 3) := tb_d tk_X8_rules_2 7 (86, .goto 5, 3) rfl
theorem dX8_rules_89 : decode cX8_rules 89 = .ok (.bipush 9, 2) := tb_d tk_X8_rules_2 8 (89, .bipush 9, 2) rfl
theorem dX8_rules_91 : decode cX8_rules 91 = .ok (.if_icmp .gt 112, 3) := tb_d tk_X8_rules_2 9 (91, .if_icmp .gt 112, 3) rfl
theorem dX8_rules_94 : decode cX8_rules 94 = .ok (.aload_n 0, 1) := tb_d tk_X8_rules_2 10 (94, .aload_n 0, 1) rfl
theorem dX8_rules_95 : decode cX8_rules 95 = .ok (.getfield 25, 3) := tb_d tk_X8_rules_2 11 (95, .getfield 25, 3) rfl
theorem dX8_rules_98 : decode cX8_rules 98 = .ok (.iconst 0, 1) := tb_d tk_X8_rules_2 12 (98, .iconst 0, 1) rfl
theorem dX8_rules_99 : decode cX8_rules 99 = .ok (.aload_n 0, 1) := tb_d tk_X8_rules_2 13 (99, .aload_n 0, 1) rfl
theorem dX8_rules_100 : decode cX8_rules 100 = .ok (.getfield 31, 3) := tb_d tk_X8_rules_2 14 (100, .getfield 31, 3) rfl
theorem dX8_rules_103 : decode cX8_rules 103 = .ok (.iconst 0, 1) := tb_d tk_X8_rules_2 15 (103, .iconst 0, 1) rfl
theorem dX8_rules_104 : decode cX8_rules 104 = .ok (.invokestatic 145, 3) := tb_d tk_X8_rules_2 16 (104, .invokestatic 145, 3) rfl
theorem dX8_rules_107 : decode cX8_rules 107 = .ok (.aload_n 0, 1) := tb_d tk_X8_rules_2 17 (107, .aload_n 0, 1) rfl
theorem dX8_rules_108 : decode cX8_rules 108 = .ok (.getfield 31, 3) := tb_d tk_X8_rules_2 18 (108, .getfield 31, 3) rfl
theorem dX8_rules_111 : decode cX8_rules 111 = .ok (.iload 4, 2) := tb_d tk_X8_rules_2 19 (111, .iload 4, 2) rfl
theorem dX8_rules_113 : decode cX8_rules 113 = .ok (.iload 6, 2) := tb_d tk_X8_rules_2 20 (113, .iload 6, 2) rfl
theorem dX8_rules_115 : decode cX8_rules 115 = .ok (.iastore, 1) := tb_d tk_X8_rules_2 21 (115, .iastore, 1) rfl
theorem dX8_rules_116 : decode cX8_rules 116 = .ok (.iconst 1, 1) := tb_d tk_X8_rules_2 22 (116, .iconst 1, 1) rfl
theorem dX8_rules_117 : decode cX8_rules 117 = .ok (.istore 7, 2) := tb_d tk_X8_rules_2 23 (117, .istore 7, 2) rfl
theorem dX8_rules_119 : decode cX8_rules 119 = .ok (.iconst 0, 1) := tb_d tk_X8_rules_2 24 (119, .iconst 0, 1) rfl
theorem dX8_rules_120 : decode cX8_rules 120 = .ok (.istore 8, 2) := tb_d tk_X8_rules_2 25 (120, .istore 8, 2) rfl
theorem dX8_rules_122 : decode cX8_rules 122 = .ok (.iload 8, 2) := tb_d tk_X8_rules_2 26 (122, .iload 8, 2) rfl
theorem dX8_rules_124 : decode cX8_rules 124 = .ok (.iload_n 3, 1) := tb_d tk_X8_rules_2 27 (124, .iload_n 3, 1) rfl
theorem dX8_rules_125 : decode cX8_rules 125 = .ok (.if_icmp .ge 54, 3) := tb_d tk_X8_rules_2 28 (125, .if_icmp .ge 54, 3) rfl
theorem dX8_rules_128 : decode cX8_rules 128 = .ok (.iload 7, 2) := tb_d tk_X8_rules_2 29 (128, .iload 7, 2) rfl
theorem dX8_rules_130 : decode cX8_rules 130 = .ok (.ifCond .eq 40, 3) := tb_d tk_X8_rules_2 30 (130, .ifCond .eq 40, 3) rfl
theorem dX8_rules_133 : decode cX8_rules 133 = .ok (.aload_n 0, 1) := tb_d tk_X8_rules_2 31 (133, .aload_n 0, 1) rfl
theorem dX8_rules_134 : decode cX8_rules 134 = .ok (.getfield 31, 3) := tb_d tk_X8_rules_2 32 (134, .getfield 31, 3) rfl
theorem dX8_rules_137 : decode cX8_rules 137 = .ok (.aload_n 0, 1) := tb_d tk_X8_rules_2 33 (137, .aload_n 0, 1) rfl
theorem dX8_rules_138 : decode cX8_rules 138 = .ok (.getfield 25, 3) := tb_d tk_X8_rules_2 34 (138, .getfield 25, 3) rfl
theorem dX8_rules_141 : decode cX8_rules 141 = .ok (.iconst 5, 1) := tb_d tk_X8_rules_2 35 (141, .iconst 5, 1) rfl
theorem dX8_rules_142 : decode cX8_rules 142 = .ok (.iaload, 1) := tb_d tk_X8_rules_2 36 (142, .iaload, 1) rfl
theorem dX8_rules_143 : decode cX8_rules 143 = .ok (.iload 8, 2) := tb_d tk_X8_rules_2 37 (143, .iload 8, 2) rfl
theorem dX8_rules_145 : decode cX8_rules 145 = .ok (.iadd, 1) := tb_d tk_X8_rules_2 38 (145, .iadd, 1) rfl
theorem dX8_rules_146 : decode cX8_rules 146 = .ok (.invokestatic 172, 3) := tb_d tk_X8_rules_2 39 (146, .invokestatic 172, 3) rfl
def tb_X8_rules_3 : List (Nat × Instr × Nat) := [(149, .aload_n 0, 1), (150, .getfield 16, 3), (153, .bipush 40, 2), (155, .iload_n 1, 1), (156, .imul, 1), (157, .iload_n 2, 1), (158, .iadd, 1), (159, .iload 8, 2), (161, .iadd, 1), (162, .iaload, 1), (163, .if_icmp .ne 7, 3), (166, .iconst 1, 1), (167, .goto 4, 3), (170, .iconst 0, 1), (171, .istore 7, 2), (173, .iinc 8 1, 3), (176, .goto (-54), 3), (179, .iload 5, 2), (181, .iload 7, 2), (183, .ifCond .eq 10, 3), (186, .iconst 1, 1), (187, .iload 6, 2), (189, .ishl, 1), (190, .goto 4, 3), (193, .iconst 0, 1), (194, .ior, 1), (195, .istore 5, 2), (197, .iinc 6 1, 3), (200, .goto (-124), 3), (203, .aload_n 0, 1), (204, .iload 5, 2), (206, .invokevirtual 69, 3), (209, .ireturn, 1)]
set_option maxRecDepth 100000 in
theorem tk_X8_rules_3 : (tb_X8_rules_3.all fun q => decide (decode cX8_rules q.1 = .ok q.2)) = true := by decide +kernel
theorem dX8_rules_149 : decode cX8_rules 149 = .ok (.aload_n 0, 1) := tb_d tk_X8_rules_3 0 (149, .aload_n 0, 1) rfl
theorem dX8_rules_150 : decode cX8_rules 150 = .ok (.getfield 16, 3) := tb_d tk_X8_rules_3 1 (150, .getfield 16, 3) rfl
theorem dX8_rules_153 : decode cX8_rules 153 = .ok (.bipush 40, 2) := tb_d tk_X8_rules_3 2 (153, .bipush 40, 2) rfl
theorem dX8_rules_155 : decode cX8_rules 155 = .ok (.iload_n 1, 1) := tb_d tk_X8_rules_3 3 (155, .iload_n 1, 1) rfl
theorem dX8_rules_156 : decode cX8_rules 156 = .ok (.imul, 1) := tb_d tk_X8_rules_3 4 (156, .imul, 1) rfl
theorem dX8_rules_157 : decode cX8_rules 157 = .ok (.iload_n 2, 1) := tb_d tk_X8_rules_3 5 (157, .iload_n 2, 1) rfl
theorem dX8_rules_158 : decode cX8_rules 158 = .ok (.iadd, 1) := tb_d tk_X8_rules_3 6 (158, .iadd, 1) rfl
theorem dX8_rules_159 : decode cX8_rules 159 = .ok (.iload 8, 2) := tb_d tk_X8_rules_3 7 (159, .iload 8, 2) rfl
theorem dX8_rules_161 : decode cX8_rules 161 = .ok (.iadd, 1) := tb_d tk_X8_rules_3 8 (161, .iadd, 1) rfl
theorem dX8_rules_162 : decode cX8_rules 162 = .ok (.iaload, 1) := tb_d tk_X8_rules_3 9 (162, .iaload, 1) rfl
theorem dX8_rules_163 : decode cX8_rules 163 = .ok (.if_icmp .ne 7, 3) := tb_d tk_X8_rules_3 10 (163, .if_icmp .ne 7, 3) rfl
theorem dX8_rules_166 : decode cX8_rules 166 = .ok (.iconst 1, 1) := tb_d tk_X8_rules_3 11 (166, .iconst 1, 1) rfl
theorem dX8_rules_167 : decode cX8_rules 167 = .ok (.goto 4, 3) := tb_d tk_X8_rules_3 12 (167, .goto 4, 3) rfl
theorem dX8_rules_170 : decode cX8_rules 170 = .ok (.iconst 0, 1) := tb_d tk_X8_rules_3 13 (170, .iconst 0, 1) rfl
theorem dX8_rules_171 : decode cX8_rules 171 = .ok (.istore 7, 2) := tb_d tk_X8_rules_3 14 (171, .istore 7, 2) rfl
theorem dX8_rules_173 : decode cX8_rules 173 = .ok (.iinc 8 1, 3) := tb_d tk_X8_rules_3 15 (173, .iinc 8 1, 3) rfl
theorem dX8_rules_176 : decode cX8_rules 176 = .ok (.goto (-54), 3) := tb_d tk_X8_rules_3 16 (176, .goto (-54), 3) rfl
theorem dX8_rules_179 : decode cX8_rules 179 = .ok (.iload 5, 2) := tb_d tk_X8_rules_3 17 (179, .iload 5, 2) rfl
theorem dX8_rules_181 : decode cX8_rules 181 = .ok (.iload 7, 2) := tb_d tk_X8_rules_3 18 (181, .iload 7, 2) rfl
theorem dX8_rules_183 : decode cX8_rules 183 = .ok (.ifCond .eq 10, 3) := tb_d tk_X8_rules_3 19 (183, .ifCond .eq 10, 3) rfl
theorem dX8_rules_186 : decode cX8_rules 186 = .ok (.iconst 1, 1) := tb_d tk_X8_rules_3 20 (186, .iconst 1, 1) rfl
theorem dX8_rules_187 : decode cX8_rules 187 = .ok (.iload 6, 2) := tb_d tk_X8_rules_3 21 (187, .iload 6, 2) rfl
theorem dX8_rules_189 : decode cX8_rules 189 = .ok (.ishl, 1) := tb_d tk_X8_rules_3 22 (189, .ishl, 1) rfl
theorem dX8_rules_190 : decode cX8_rules 190 = .ok (.goto 4, 3) := tb_d tk_X8_rules_3 23 (190, .goto 4, 3) rfl
theorem dX8_rules_193 : decode cX8_rules 193 = .ok (.iconst 0, 1) := tb_d tk_X8_rules_3 24 (193, .iconst 0, 1) rfl
theorem dX8_rules_194 : decode cX8_rules 194 = .ok (.ior, 1) := tb_d tk_X8_rules_3 25 (194, .ior, 1) rfl
theorem dX8_rules_195 : decode cX8_rules 195 = .ok (.istore 5, 2) := tb_d tk_X8_rules_3 26 (195, .istore 5, 2) rfl
theorem dX8_rules_197 : decode cX8_rules 197 = .ok (.iinc 6 1, 3) := tb_d tk_X8_rules_3 27 (197, .iinc 6 1, 3) rfl
theorem dX8_rules_200 : decode cX8_rules 200 = .ok (.goto (-124), 3) := tb_d tk_X8_rules_3 28 (200, .goto (-124), 3) rfl
theorem dX8_rules_203 : decode cX8_rules 203 = .ok (.aload_n 0, 1) := tb_d tk_X8_rules_3 29 (203, .aload_n 0, 1) rfl
theorem dX8_rules_204 : decode cX8_rules 204 = .ok (.iload 5, 2) := tb_d tk_X8_rules_3 30 (204, .iload 5, 2) rfl
theorem dX8_rules_206 : decode cX8_rules 206 = .ok (.invokevirtual 69, 3) := tb_d tk_X8_rules_3 31 (206, .invokevirtual 69, 3) rfl
theorem dX8_rules_209 : decode cX8_rules 209 = .ok (.ireturn, 1) := tb_d tk_X8_rules_3 32 (209, .ireturn, 1) rfl
theorem ggX8_takesSo_X8_takesBy : GoodIn wsX8_takesSo wsX8_takesBy := fun w h => ⟨List.mem_cons_of_mem _ (List.mem_append_right _ (List.mem_append_right _ (List.mem_append_right _ (List.mem_append_left _ h)))), good_of_word (gdX8_takesBy w h)⟩
set_option maxRecDepth 20000 in
theorem gX8_takesSo_X8_takesBy : GoodIn wsX8_takesSo (wsV RX8 168 RX8 yX8_takesBy wsX8_takesBy) := goodIn_app (a := bkV RX8 168 RX8 yX8_takesBy) (fun w h => ⟨List.mem_cons_of_mem _ (List.mem_append_right _ (List.mem_append_left _ h)), good_of_word (gd_bV _ _ _ _ w h)⟩) ggX8_takesSo_X8_takesBy
def tb_X8_takesSo_1 : List (Nat × Instr × Nat) := [(0, .iconst 1, 1), (1, .istore 4, 2), (3, .iconst 0, 1), (4, .istore 5, 2), (6, .iload 5, 2), (8, .aload_n 0, 1), (9, .getfield 25, 3), (12, .iconst 3, 1), (13, .iaload, 1), (14, .if_icmp .ge 55, 3), (17, .iload 4, 2), (19, .ifCond .eq 41, 3), (22, .aload_n 0, 1), (23, .iload_n 1, 1), (24, .iload 5, 2), (26, .iload_n 2, 1), (27, .aload_n 0, 1), (28, .getfield 25, 3), (31, .iconst 5, 1), (32, .iaload, 1), (33, .invokevirtual 168, 3), (36, .ifCond .eq 7, 3), (39, .iconst 1, 1), (40, .goto 4, 3), (43, .iconst 0, 1), (44, .aload_n 0, 1), (45, .getfield 16, 3), (48, .iload_n 3, 1), (49, .iload 5, 2), (51, .iadd, 1), (52, .iaload, 1), (53, .if_icmp .ne 7, 3), (56, .iconst 1, 1), (57, .goto 4, 3), (60, .iconst 0, 1), (61, .istore 4, 2), (63, .iinc 5 1, 3), (66, .goto (-60), 3), (69, .iload 4, 2), (71, .ireturn, 1)]
set_option maxRecDepth 100000 in
theorem tk_X8_takesSo_1 : (tb_X8_takesSo_1.all fun q => decide (decode cX8_takesSo q.1 = .ok q.2)) = true := by decide +kernel
theorem dX8_takesSo_0 : decode cX8_takesSo 0 = .ok (.iconst 1, 1) := tb_d tk_X8_takesSo_1 0 (0, .iconst 1, 1) rfl
theorem dX8_takesSo_1 : decode cX8_takesSo 1 = .ok (.istore 4, 2) := tb_d tk_X8_takesSo_1 1 (1, .istore 4, 2) rfl
theorem dX8_takesSo_3 : decode cX8_takesSo 3 = .ok (.iconst 0, 1) := tb_d tk_X8_takesSo_1 2 (3, .iconst 0, 1) rfl
theorem dX8_takesSo_4 : decode cX8_takesSo 4 = .ok (.istore 5, 2) := tb_d tk_X8_takesSo_1 3 (4, .istore 5, 2) rfl
theorem dX8_takesSo_6 : decode cX8_takesSo 6 = .ok (.iload 5, 2) := tb_d tk_X8_takesSo_1 4 (6, .iload 5, 2) rfl
theorem dX8_takesSo_8 : decode cX8_takesSo 8 = .ok (.aload_n 0, 1) := tb_d tk_X8_takesSo_1 5 (8, .aload_n 0, 1) rfl
theorem dX8_takesSo_9 : decode cX8_takesSo 9 = .ok (.getfield 25, 3) := tb_d tk_X8_takesSo_1 6 (9, .getfield 25, 3) rfl
theorem dX8_takesSo_12 : decode cX8_takesSo 12 = .ok (.iconst 3, 1) := tb_d tk_X8_takesSo_1 7 (12, .iconst 3, 1) rfl
theorem dX8_takesSo_13 : decode cX8_takesSo 13 = .ok (.iaload, 1) := tb_d tk_X8_takesSo_1 8 (13, .iaload, 1) rfl
theorem dX8_takesSo_14 : decode cX8_takesSo 14 = .ok (.if_icmp .ge 55, 3) := tb_d tk_X8_takesSo_1 9 (14, .if_icmp .ge 55, 3) rfl
theorem dX8_takesSo_17 : decode cX8_takesSo 17 = .ok (.iload 4, 2) := tb_d tk_X8_takesSo_1 10 (17, .iload 4, 2) rfl
theorem dX8_takesSo_19 : decode cX8_takesSo 19 = .ok (.ifCond .eq 41, 3) := tb_d tk_X8_takesSo_1 11 (19, .ifCond .eq 41, 3) rfl
theorem dX8_takesSo_22 : decode cX8_takesSo 22 = .ok (.aload_n 0, 1) := tb_d tk_X8_takesSo_1 12 (22, .aload_n 0, 1) rfl
theorem dX8_takesSo_23 : decode cX8_takesSo 23 = .ok (.iload_n 1, 1) := tb_d tk_X8_takesSo_1 13 (23, .iload_n 1, 1) rfl
theorem dX8_takesSo_24 : decode cX8_takesSo 24 = .ok (.iload 5, 2) := tb_d tk_X8_takesSo_1 14 (24, .iload 5, 2) rfl
theorem dX8_takesSo_26 : decode cX8_takesSo 26 = .ok (.iload_n 2, 1) := tb_d tk_X8_takesSo_1 15 (26, .iload_n 2, 1) rfl
theorem dX8_takesSo_27 : decode cX8_takesSo 27 = .ok (.aload_n 0, 1) := tb_d tk_X8_takesSo_1 16 (27, .aload_n 0, 1) rfl
theorem dX8_takesSo_28 : decode cX8_takesSo 28 = .ok (.getfield 25, 3) := tb_d tk_X8_takesSo_1 17 (28, .getfield 25, 3) rfl
theorem dX8_takesSo_31 : decode cX8_takesSo 31 = .ok (.iconst 5, 1) := tb_d tk_X8_takesSo_1 18 (31, .iconst 5, 1) rfl
theorem dX8_takesSo_32 : decode cX8_takesSo 32 = .ok (.iaload, 1) := tb_d tk_X8_takesSo_1 19 (32, .iaload, 1) rfl
theorem dX8_takesSo_33 : decode cX8_takesSo 33 = .ok (.invokevirtual 168, 3) := tb_d tk_X8_takesSo_1 20 (33, .invokevirtual 168, 3) rfl
theorem dX8_takesSo_36 : decode cX8_takesSo 36 = .ok (.ifCond .eq 7, 3) := tb_d tk_X8_takesSo_1 21 (36, .ifCond .eq 7, 3) rfl
theorem dX8_takesSo_39 : decode cX8_takesSo 39 = .ok (.iconst 1, 1) := tb_d tk_X8_takesSo_1 22 (39, .iconst 1, 1) rfl
theorem dX8_takesSo_40 : decode cX8_takesSo 40 = .ok (.goto 4, 3) := tb_d tk_X8_takesSo_1 23 (40, .goto 4, 3) rfl
theorem dX8_takesSo_43 : decode cX8_takesSo 43 = .ok (.iconst 0, 1) := tb_d tk_X8_takesSo_1 24 (43, .iconst 0, 1) rfl
theorem dX8_takesSo_44 : decode cX8_takesSo 44 = .ok (.aload_n 0, 1) := tb_d tk_X8_takesSo_1 25 (44, .aload_n 0, 1) rfl
theorem dX8_takesSo_45 : decode cX8_takesSo 45 = .ok (.getfield 16, 3) := tb_d tk_X8_takesSo_1 26 (45, .getfield 16, 3) rfl
theorem dX8_takesSo_48 : decode cX8_takesSo 48 = .ok (.iload_n 3, 1) := tb_d tk_X8_takesSo_1 27 (48, .iload_n 3, 1) rfl
theorem dX8_takesSo_49 : decode cX8_takesSo 49 = .ok (.iload 5, 2) := tb_d tk_X8_takesSo_1 28 (49, .iload 5, 2) rfl
theorem dX8_takesSo_51 : decode cX8_takesSo 51 = .ok (.iadd, 1) := tb_d tk_X8_takesSo_1 29 (51, .iadd, 1) rfl
theorem dX8_takesSo_52 : decode cX8_takesSo 52 = .ok (.iaload, 1) := tb_d tk_X8_takesSo_1 30 (52, .iaload, 1) rfl
theorem dX8_takesSo_53 : decode cX8_takesSo 53 = .ok (.if_icmp .ne 7, 3) := tb_d tk_X8_takesSo_1 31 (53, .if_icmp .ne 7, 3) rfl
theorem dX8_takesSo_56 : decode cX8_takesSo 56 = .ok (.iconst 1, 1) := tb_d tk_X8_takesSo_1 32 (56, .iconst 1, 1) rfl
theorem dX8_takesSo_57 : decode cX8_takesSo 57 = .ok (.goto 4, 3) := tb_d tk_X8_takesSo_1 33 (57, .goto 4, 3) rfl
theorem dX8_takesSo_60 : decode cX8_takesSo 60 = .ok (.iconst 0, 1) := tb_d tk_X8_takesSo_1 34 (60, .iconst 0, 1) rfl
theorem dX8_takesSo_61 : decode cX8_takesSo 61 = .ok (.istore 4, 2) := tb_d tk_X8_takesSo_1 35 (61, .istore 4, 2) rfl
theorem dX8_takesSo_63 : decode cX8_takesSo 63 = .ok (.iinc 5 1, 3) := tb_d tk_X8_takesSo_1 36 (63, .iinc 5 1, 3) rfl
theorem dX8_takesSo_66 : decode cX8_takesSo 66 = .ok (.goto (-60), 3) := tb_d tk_X8_takesSo_1 37 (66, .goto (-60), 3) rfl
theorem dX8_takesSo_69 : decode cX8_takesSo 69 = .ok (.iload 4, 2) := tb_d tk_X8_takesSo_1 38 (69, .iload 4, 2) rfl
theorem dX8_takesSo_71 : decode cX8_takesSo 71 = .ok (.ireturn, 1) := tb_d tk_X8_takesSo_1 39 (71, .ireturn, 1) rfl
theorem ggX8_fits_X8_isGuard : GoodIn wsX8_fits wsX8_isGuard := fun w h => ⟨List.mem_cons_of_mem _ (List.mem_append_right _ (List.mem_append_right _ (List.mem_append_right _ (List.mem_append_right _ (List.mem_append_right _ (List.mem_append_right _ (List.mem_append_right _ (List.mem_append_right _ (List.mem_append_right _ (List.mem_append_right _ (List.mem_append_right _ (List.mem_append_right _ (List.mem_append_left _ h))))))))))))), good_of_word (gdX8_isGuard w h)⟩
set_option maxRecDepth 20000 in
theorem gX8_fits_X8_isGuard : GoodIn wsX8_fits (wsV RX8 199 RX8 yX8_isGuard wsX8_isGuard) := goodIn_app (a := bkV RX8 199 RX8 yX8_isGuard) (fun w h => ⟨List.mem_cons_of_mem _ (List.mem_append_right _ (List.mem_append_left _ h)), good_of_word (gd_bV _ _ _ _ w h)⟩) ggX8_fits_X8_isGuard
theorem ggX8_fits_X8_isRow : GoodIn wsX8_fits wsX8_isRow := fun w h => ⟨List.mem_cons_of_mem _ (List.mem_append_right _ (List.mem_append_right _ (List.mem_append_right _ (List.mem_append_right _ (List.mem_append_right _ (List.mem_append_right _ (List.mem_append_right _ (List.mem_append_right _ (List.mem_append_right _ (List.mem_append_right _ (List.mem_append_right _ (List.mem_append_right _ (List.mem_append_right _ (List.mem_append_left _ h)))))))))))))), good_of_word (gdX8_isRow w h)⟩
set_option maxRecDepth 20000 in
theorem gX8_fits_X8_isRow : GoodIn wsX8_fits (va_wsS RX8 60 yX8_isRow wsX8_isRow) := goodIn_app (a := bkS RX8 60 yX8_isRow) (fun w h => ⟨List.mem_cons_of_mem _ (List.mem_append_right _ (List.mem_append_right _ (List.mem_append_left _ h))), good_of_word (gd_bS _ _ _ w h)⟩) ggX8_fits_X8_isRow
theorem ggX8_fits_X8_in : GoodIn wsX8_fits wsX8_in := fun w h => ⟨List.mem_cons_of_mem _ (List.mem_append_right _ (List.mem_append_right _ (List.mem_append_right _ (List.mem_append_right _ (List.mem_append_right _ (List.mem_append_right _ (List.mem_append_right _ (List.mem_append_right _ (List.mem_append_right _ (List.mem_append_right _ (List.mem_append_right _ (List.mem_append_right _ (List.mem_append_right _ (List.mem_append_right _ (List.mem_append_left _ h))))))))))))))), good_of_word (gdX8_in w h)⟩
set_option maxRecDepth 20000 in
theorem gX8_fits_X8_in : GoodIn wsX8_fits (va_wsS RX8 56 yX8_in wsX8_in) := goodIn_app (a := bkS RX8 56 yX8_in) (fun w h => ⟨List.mem_cons_of_mem _ (List.mem_append_right _ (List.mem_append_right _ (List.mem_append_right _ (List.mem_append_left _ h)))), good_of_word (gd_bS _ _ _ w h)⟩) ggX8_fits_X8_in
theorem ggX8_fits_X8_isMissing : GoodIn wsX8_fits wsX8_isMissing := fun w h => ⟨List.mem_cons_of_mem _ (List.mem_append_right _ (List.mem_append_right _ (List.mem_append_right _ (List.mem_append_right _ (List.mem_append_right _ (List.mem_append_right _ (List.mem_append_right _ (List.mem_append_right _ (List.mem_append_right _ (List.mem_append_right _ (List.mem_append_right _ (List.mem_append_right _ (List.mem_append_right _ (List.mem_append_right _ (List.mem_append_right _ (List.mem_append_left _ h)))))))))))))))), good_of_word (gdX8_isMissing w h)⟩
set_option maxRecDepth 20000 in
theorem gX8_fits_X8_isMissing : GoodIn wsX8_fits (wsV RX8 72 RX8 yX8_isMissing wsX8_isMissing) := goodIn_app (a := bkV RX8 72 RX8 yX8_isMissing) (fun w h => ⟨List.mem_cons_of_mem _ (List.mem_append_right _ (List.mem_append_right _ (List.mem_append_right _ (List.mem_append_right _ (List.mem_append_left _ h))))), good_of_word (gd_bV _ _ _ _ w h)⟩) ggX8_fits_X8_isMissing
theorem ggX8_fits_X8_found : GoodIn wsX8_fits wsX8_found := fun w h => ⟨List.mem_cons_of_mem _ (List.mem_append_right _ (List.mem_append_right _ (List.mem_append_right _ (List.mem_append_right _ (List.mem_append_right _ (List.mem_append_right _ (List.mem_append_right _ (List.mem_append_right _ (List.mem_append_right _ (List.mem_append_right _ (List.mem_append_right _ (List.mem_append_right _ (List.mem_append_right _ (List.mem_append_right _ (List.mem_append_right _ (List.mem_append_right _ (List.mem_append_left _ h))))))))))))))))), good_of_word (gdX8_found w h)⟩
set_option maxRecDepth 20000 in
theorem gX8_fits_X8_found : GoodIn wsX8_fits (wsV RX8 65 RX8 yX8_found wsX8_found) := goodIn_app (a := bkV RX8 65 RX8 yX8_found) (fun w h => ⟨List.mem_cons_of_mem _ (List.mem_append_right _ (List.mem_append_right _ (List.mem_append_right _ (List.mem_append_right _ (List.mem_append_right _ (List.mem_append_left _ h)))))), good_of_word (gd_bV _ _ _ _ w h)⟩) ggX8_fits_X8_found
theorem ggX8_fits_X8_isPart : GoodIn wsX8_fits wsX8_isPart := fun w h => ⟨List.mem_cons_of_mem _ (List.mem_append_right _ (List.mem_append_right _ (List.mem_append_right _ (List.mem_append_right _ (List.mem_append_right _ (List.mem_append_right _ (List.mem_append_right _ (List.mem_append_right _ (List.mem_append_right _ (List.mem_append_right _ (List.mem_append_right _ (List.mem_append_right _ (List.mem_append_right _ (List.mem_append_right _ (List.mem_append_right _ (List.mem_append_right _ (List.mem_append_right _ (List.mem_append_left _ h)))))))))))))))))), good_of_word (gdX8_isPart w h)⟩
set_option maxRecDepth 20000 in
theorem gX8_fits_X8_isPart : GoodIn wsX8_fits (wsV RX8 79 RX8 yX8_isPart wsX8_isPart) := goodIn_app (a := bkV RX8 79 RX8 yX8_isPart) (fun w h => ⟨List.mem_cons_of_mem _ (List.mem_append_right _ (List.mem_append_right _ (List.mem_append_right _ (List.mem_append_right _ (List.mem_append_right _ (List.mem_append_right _ (List.mem_append_left _ h))))))), good_of_word (gd_bV _ _ _ _ w h)⟩) ggX8_fits_X8_isPart
theorem ggX8_fits_X8_secretOf : GoodIn wsX8_fits wsX8_secretOf := fun w h => ⟨List.mem_cons_of_mem _ (List.mem_append_right _ (List.mem_append_right _ (List.mem_append_right _ (List.mem_append_right _ (List.mem_append_right _ (List.mem_append_right _ (List.mem_append_right _ (List.mem_append_right _ (List.mem_append_right _ (List.mem_append_right _ (List.mem_append_right _ (List.mem_append_right _ (List.mem_append_right _ (List.mem_append_right _ (List.mem_append_right _ (List.mem_append_right _ (List.mem_append_right _ (List.mem_append_right _ (List.mem_append_left _ h))))))))))))))))))), good_of_word (gdX8_secretOf w h)⟩
set_option maxRecDepth 20000 in
theorem gX8_fits_X8_secretOf : GoodIn wsX8_fits (va_wsS RX8 172 yX8_secretOf wsX8_secretOf) := goodIn_app (a := bkS RX8 172 yX8_secretOf) (fun w h => ⟨List.mem_cons_of_mem _ (List.mem_append_right _ (List.mem_append_right _ (List.mem_append_right _ (List.mem_append_right _ (List.mem_append_right _ (List.mem_append_right _ (List.mem_append_right _ (List.mem_append_left _ h)))))))), good_of_word (gd_bS _ _ _ w h)⟩) ggX8_fits_X8_secretOf
theorem ggX8_fits_X8_takesSo : GoodIn wsX8_fits wsX8_takesSo := fun w h => ⟨List.mem_cons_of_mem _ (List.mem_append_right _ (List.mem_append_right _ (List.mem_append_right _ (List.mem_append_right _ (List.mem_append_right _ (List.mem_append_right _ (List.mem_append_right _ (List.mem_append_right _ (List.mem_append_right _ (List.mem_append_right _ (List.mem_append_right _ (List.mem_append_right _ (List.mem_append_right _ (List.mem_append_right _ (List.mem_append_right _ (List.mem_append_right _ (List.mem_append_right _ (List.mem_append_right _ (List.mem_append_right _ (List.mem_append_left _ h)))))))))))))))))))), good_of_word (gdX8_takesSo w h)⟩
set_option maxRecDepth 20000 in
theorem gX8_fits_X8_takesSo : GoodIn wsX8_fits (wsV RX8 227 RX8 yX8_takesSo wsX8_takesSo) := goodIn_app (a := bkV RX8 227 RX8 yX8_takesSo) (fun w h => ⟨List.mem_cons_of_mem _ (List.mem_append_right _ (List.mem_append_right _ (List.mem_append_right _ (List.mem_append_right _ (List.mem_append_right _ (List.mem_append_right _ (List.mem_append_right _ (List.mem_append_right _ (List.mem_append_left _ h))))))))), good_of_word (gd_bV _ _ _ _ w h)⟩) ggX8_fits_X8_takesSo
theorem ggX8_fits_X8_kindIn : GoodIn wsX8_fits wsX8_kindIn := fun w h => ⟨List.mem_cons_of_mem _ (List.mem_append_right _ (List.mem_append_right _ (List.mem_append_right _ (List.mem_append_right _ (List.mem_append_right _ (List.mem_append_right _ (List.mem_append_right _ (List.mem_append_right _ (List.mem_append_right _ (List.mem_append_right _ (List.mem_append_right _ (List.mem_append_right _ (List.mem_append_right _ (List.mem_append_right _ (List.mem_append_right _ (List.mem_append_right _ (List.mem_append_right _ (List.mem_append_right _ (List.mem_append_right _ (List.mem_append_right _ (List.mem_append_left _ h))))))))))))))))))))), good_of_word (gdX8_kindIn w h)⟩
set_option maxRecDepth 20000 in
theorem gX8_fits_X8_kindIn : GoodIn wsX8_fits (wsV RX8 165 RX8 yX8_kindIn wsX8_kindIn) := goodIn_app (a := bkV RX8 165 RX8 yX8_kindIn) (fun w h => ⟨List.mem_cons_of_mem _ (List.mem_append_right _ (List.mem_append_right _ (List.mem_append_right _ (List.mem_append_right _ (List.mem_append_right _ (List.mem_append_right _ (List.mem_append_right _ (List.mem_append_right _ (List.mem_append_right _ (List.mem_append_left _ h)))))))))), good_of_word (gd_bV _ _ _ _ w h)⟩) ggX8_fits_X8_kindIn
theorem ggX8_fits_X8_well : GoodIn wsX8_fits wsX8_well := fun w h => ⟨List.mem_cons_of_mem _ (List.mem_append_right _ (List.mem_append_right _ (List.mem_append_right _ (List.mem_append_right _ (List.mem_append_right _ (List.mem_append_right _ (List.mem_append_right _ (List.mem_append_right _ (List.mem_append_right _ (List.mem_append_right _ (List.mem_append_right _ (List.mem_append_right _ (List.mem_append_right _ (List.mem_append_right _ (List.mem_append_right _ (List.mem_append_right _ (List.mem_append_right _ (List.mem_append_right _ (List.mem_append_right _ (List.mem_append_right _ (List.mem_append_right _ (List.mem_append_left _ h)))))))))))))))))))))), good_of_word (gdX8_well w h)⟩
set_option maxRecDepth 20000 in
theorem gX8_fits_X8_well : GoodIn wsX8_fits (wsV RX8 69 RX8 yX8_well wsX8_well) := goodIn_app (a := bkV RX8 69 RX8 yX8_well) (fun w h => ⟨List.mem_cons_of_mem _ (List.mem_append_right _ (List.mem_append_right _ (List.mem_append_right _ (List.mem_append_right _ (List.mem_append_right _ (List.mem_append_right _ (List.mem_append_right _ (List.mem_append_right _ (List.mem_append_right _ (List.mem_append_right _ (List.mem_append_left _ h))))))))))), good_of_word (gd_bV _ _ _ _ w h)⟩) ggX8_fits_X8_well
def tb_X8_fits_1 : List (Nat × Instr × Nat) := [(0, .aload_n 0, 1), (1, .iload_n 1, 1), (2, .invokevirtual 199, 3), (5, .ifCond .eq 20, 3), (8, .iload_n 2, 1), (9, .invokestatic 60, 3), (12, .ifCond .eq 13, 3), (15, .iload 4, 2), (17, .iconst 0, 1), (18, .iconst 1, 1), (19, .invokestatic 56, 3), (22, .ifCond .ne 6, 3), (25, .ldc 64, 2), (27, .ireturn, 1), (28, .aload_n 0, 1), (29, .iload_n 2, 1), (30, .invokevirtual 72, 3), (33, .ifCond .eq 9, 3), (36, .aload_n 0, 1), (37, .iconst 1, 1), (38, .invokevirtual 65, 3), (41, .ireturn, 1), (42, .aload_n 0, 1), (43, .iload_n 2, 1), (44, .iload_n 3, 1), (45, .aload_n 0, 1), (46, .getfield 25, 3), (49, .iconst 3, 1), (50, .iaload, 1), (51, .invokevirtual 79, 3), (54, .ifCond .ne 9, 3), (57, .aload_n 0, 1), (58, .iconst 2, 1), (59, .invokevirtual 65, 3), (62, .ireturn, 1), (63, .bipush 40, 2), (65, .iload_n 2, 1), (66, .imul, 1), (67, .iload_n 3, 1), (68, .iadd, 1)]
set_option maxRecDepth 100000 in
theorem tk_X8_fits_1 : (tb_X8_fits_1.all fun q => decide (decode cX8_fits q.1 = .ok q.2)) = true := by decide +kernel
theorem dX8_fits_0 : decode cX8_fits 0 = .ok (.aload_n 0, 1) := tb_d tk_X8_fits_1 0 (0, .aload_n 0, 1) rfl
theorem dX8_fits_1 : decode cX8_fits 1 = .ok (.iload_n 1, 1) := tb_d tk_X8_fits_1 1 (1, .iload_n 1, 1) rfl
theorem dX8_fits_2 : decode cX8_fits 2 = .ok (.invokevirtual 199, 3) := tb_d tk_X8_fits_1 2 (2, .invokevirtual 199, 3) rfl
theorem dX8_fits_5 : decode cX8_fits 5 = .ok (.ifCond .eq 20, 3) := tb_d tk_X8_fits_1 3 (5, .ifCond .eq 20, 3) rfl
theorem dX8_fits_8 : decode cX8_fits 8 = .ok (.iload_n 2, 1) := tb_d tk_X8_fits_1 4 (8, .iload_n 2, 1) rfl
theorem dX8_fits_9 : decode cX8_fits 9 = .ok (.invokestatic 60, 3) := tb_d tk_X8_fits_1 5 (9, .invokestatic 60, 3) rfl
theorem dX8_fits_12 : decode cX8_fits 12 = .ok (.ifCond .eq 13, 3) := tb_d tk_X8_fits_1 6 (12, .ifCond .eq 13, 3) rfl
theorem dX8_fits_15 : decode cX8_fits 15 = .ok (.iload 4, 2) := tb_d tk_X8_fits_1 7 (15, .iload 4, 2) rfl
theorem dX8_fits_17 : decode cX8_fits 17 = .ok (.iconst 0, 1) := tb_d tk_X8_fits_1 8 (17, .iconst 0, 1) rfl
theorem dX8_fits_18 : decode cX8_fits 18 = .ok (.iconst 1, 1) := tb_d tk_X8_fits_1 9 (18, .iconst 1, 1) rfl
theorem dX8_fits_19 : decode cX8_fits 19 = .ok (.invokestatic 56, 3) := tb_d tk_X8_fits_1 10 (19, .invokestatic 56, 3) rfl
theorem dX8_fits_22 : decode cX8_fits 22 = .ok (.ifCond .ne 6, 3) := tb_d tk_X8_fits_1 11 (22, .ifCond .ne 6, 3) rfl
theorem dX8_fits_25 : decode cX8_fits 25 = .ok (.ldc 64, 2) := tb_d tk_X8_fits_1 12 (25, .ldc 64, 2) rfl
theorem dX8_fits_27 : decode cX8_fits 27 = .ok (.ireturn, 1) := tb_d tk_X8_fits_1 13 (27, .ireturn, 1) rfl
theorem dX8_fits_28 : decode cX8_fits 28 = .ok (.aload_n 0, 1) := tb_d tk_X8_fits_1 14 (28, .aload_n 0, 1) rfl
theorem dX8_fits_29 : decode cX8_fits 29 = .ok (.iload_n 2, 1) := tb_d tk_X8_fits_1 15 (29, .iload_n 2, 1) rfl
theorem dX8_fits_30 : decode cX8_fits 30 = .ok (.invokevirtual 72, 3) := tb_d tk_X8_fits_1 16 (30, .invokevirtual 72, 3) rfl
theorem dX8_fits_33 : decode cX8_fits 33 = .ok (.ifCond .eq 9, 3) := tb_d tk_X8_fits_1 17 (33, .ifCond .eq 9, 3) rfl
theorem dX8_fits_36 : decode cX8_fits 36 = .ok (.aload_n 0, 1) := tb_d tk_X8_fits_1 18 (36, .aload_n 0, 1) rfl
theorem dX8_fits_37 : decode cX8_fits 37 = .ok (.iconst 1, 1) := tb_d tk_X8_fits_1 19 (37, .iconst 1, 1) rfl
theorem dX8_fits_38 : decode cX8_fits 38 = .ok (.invokevirtual 65, 3) := tb_d tk_X8_fits_1 20 (38, .invokevirtual 65, 3) rfl
theorem dX8_fits_41 : decode cX8_fits 41 = .ok (.ireturn, 1) := tb_d tk_X8_fits_1 21 (41, .ireturn, 1) rfl
theorem dX8_fits_42 : decode cX8_fits 42 = .ok (.aload_n 0, 1) := tb_d tk_X8_fits_1 22 (42, .aload_n 0, 1) rfl
theorem dX8_fits_43 : decode cX8_fits 43 = .ok (.iload_n 2, 1) := tb_d tk_X8_fits_1 23 (43, .iload_n 2, 1) rfl
theorem dX8_fits_44 : decode cX8_fits 44 = .ok (.iload_n 3, 1) := tb_d tk_X8_fits_1 24 (44, .iload_n 3, 1) rfl
theorem dX8_fits_45 : decode cX8_fits 45 = .ok (.aload_n 0, 1) := tb_d tk_X8_fits_1 25 (45, .aload_n 0, 1) rfl
theorem dX8_fits_46 : decode cX8_fits 46 = .ok (.getfield 25, 3) := tb_d tk_X8_fits_1 26 (46, .getfield 25, 3) rfl
theorem dX8_fits_49 : decode cX8_fits 49 = .ok (.iconst 3, 1) := tb_d tk_X8_fits_1 27 (49, .iconst 3, 1) rfl
theorem dX8_fits_50 : decode cX8_fits 50 = .ok (.iaload, 1) := tb_d tk_X8_fits_1 28 (50, .iaload, 1) rfl
theorem dX8_fits_51 : decode cX8_fits 51 = .ok (.invokevirtual 79, 3) := tb_d tk_X8_fits_1 29 (51, .invokevirtual 79, 3) rfl
theorem dX8_fits_54 : decode cX8_fits 54 = .ok (.ifCond .ne 9, 3) := tb_d tk_X8_fits_1 30 (54, .ifCond .ne 9, 3) rfl
theorem dX8_fits_57 : decode cX8_fits 57 = .ok (.aload_n 0, 1) := tb_d tk_X8_fits_1 31 (57, .aload_n 0, 1) rfl
theorem dX8_fits_58 : decode cX8_fits 58 = .ok (.iconst 2, 1) := tb_d tk_X8_fits_1 32 (58, .iconst 2, 1) rfl
theorem dX8_fits_59 : decode cX8_fits 59 = .ok (.invokevirtual 65, 3) := tb_d tk_X8_fits_1 33 (59, .invokevirtual 65, 3) rfl
theorem dX8_fits_62 : decode cX8_fits 62 = .ok (.ireturn, 1) := tb_d tk_X8_fits_1 34 (62, .ireturn, 1) rfl
theorem dX8_fits_63 : decode cX8_fits 63 = .ok (.bipush 40, 2) := tb_d tk_X8_fits_1 35 (63, .bipush 40, 2) rfl
theorem dX8_fits_65 : decode cX8_fits 65 = .ok (.iload_n 2, 1) := tb_d tk_X8_fits_1 36 (65, .iload_n 2, 1) rfl
theorem dX8_fits_66 : decode cX8_fits 66 = .ok (.imul, 1) := tb_d tk_X8_fits_1 37 (66, .imul, 1) rfl
theorem dX8_fits_67 : decode cX8_fits 67 = .ok (.iload_n 3, 1) := tb_d tk_X8_fits_1 38 (67, .iload_n 3, 1) rfl
theorem dX8_fits_68 : decode cX8_fits 68 = .ok (.iadd, 1) := tb_d tk_X8_fits_1 39 (68, .iadd, 1) rfl
def tb_X8_fits_2 : List (Nat × Instr × Nat) := [(69, .istore 5, 2), (71, .iconst 0, 1), (72, .istore 6, 2), (74, .iconst 1, 1), (75, .istore 7, 2), (77, .iload 7, 2), (79, .bipush 6, 2), (81, .if_icmp .ge 51, 3), (84, .iload 4, 2), (86, .ifCond .ne 46, 3), (89, .iload 6, 2), (91, .aload_n 0, 1), (92, .iload 7, 2), (94, .aload_n 0, 1), (95, .getfield 25, 3), (98, .aload_n 0, 1), (99, .getfield 25, 3), (102, .iconst 5, 1), (103, .iaload, 1), (104, .invokestatic 172, 3), (107, .iload 5, 2), (109, .invokevirtual 227, 3), (112, .ifCond .eq 10, 3), (115, .iconst 1, 1), (116, .iload 7, 2), (118, .ishl, 1), (119, .goto 4, 3), (122, .iconst 0, 1), (123, .ior, 1), (124, .istore 6, 2), (126, .iinc 7 1, 3), (129, .goto (-52), 3), (132, .iconst 0, 1), (133, .istore 7, 2), (135, .iload 7, 2), (137, .aload_n 0, 1), (138, .getfield 25, 3), (141, .iconst 3, 1), (142, .iaload, 1), (143, .if_icmp .ge 44, 3)]
set_option maxRecDepth 100000 in
theorem tk_X8_fits_2 : (tb_X8_fits_2.all fun q => decide (decode cX8_fits q.1 = .ok q.2)) = true := by decide +kernel
theorem dX8_fits_69 : decode cX8_fits 69 = .ok (.istore 5, 2) := tb_d tk_X8_fits_2 0 (69, .istore 5, 2) rfl
theorem dX8_fits_71 : decode cX8_fits 71 = .ok (.iconst 0, 1) := tb_d tk_X8_fits_2 1 (71, .iconst 0, 1) rfl
theorem dX8_fits_72 : decode cX8_fits 72 = .ok (.istore 6, 2) := tb_d tk_X8_fits_2 2 (72, .istore 6, 2) rfl
theorem dX8_fits_74 : decode cX8_fits 74 = .ok (.iconst 1, 1) := tb_d tk_X8_fits_2 3 (74, .iconst 1, 1) rfl
theorem dX8_fits_75 : decode cX8_fits 75 = .ok (.istore 7, 2) := tb_d tk_X8_fits_2 4 (75, .istore 7, 2) rfl
theorem dX8_fits_77 : decode cX8_fits 77 = .ok (.iload 7, 2) := tb_d tk_X8_fits_2 5 (77, .iload 7, 2) rfl
theorem dX8_fits_79 : decode cX8_fits 79 = .ok (.bipush 6, 2) := tb_d tk_X8_fits_2 6 (79, .bipush 6, 2) rfl
theorem dX8_fits_81 : decode cX8_fits 81 = .ok (.if_icmp .ge 51, 3) := tb_d tk_X8_fits_2 7 (81, .if_icmp .ge 51, 3) rfl
theorem dX8_fits_84 : decode cX8_fits 84 = .ok (.iload 4, 2) := tb_d tk_X8_fits_2 8 (84, .iload 4, 2) rfl
theorem dX8_fits_86 : decode cX8_fits 86 = .ok (.ifCond .ne 46, 3) := tb_d tk_X8_fits_2 9 (86, .ifCond .ne 46, 3) rfl
theorem dX8_fits_89 : decode cX8_fits 89 = .ok (.iload 6, 2) := tb_d tk_X8_fits_2 10 (89, .iload 6, 2) rfl
theorem dX8_fits_91 : decode cX8_fits 91 = .ok (.aload_n 0, 1) := tb_d tk_X8_fits_2 11 (91, .aload_n 0, 1) rfl
theorem dX8_fits_92 : decode cX8_fits 92 = .ok (.iload 7, 2) := tb_d tk_X8_fits_2 12 (92, .iload 7, 2) rfl
theorem dX8_fits_94 : decode cX8_fits 94 = .ok (.aload_n 0, 1) := tb_d tk_X8_fits_2 13 (94, .aload_n 0, 1) rfl
theorem dX8_fits_95 : decode cX8_fits 95 = .ok (.getfield 25, 3) := tb_d tk_X8_fits_2 14 (95, .getfield 25, 3) rfl
theorem dX8_fits_98 : decode cX8_fits 98 = .ok (.aload_n 0, 1) := tb_d tk_X8_fits_2 15 (98, .aload_n 0, 1) rfl
theorem dX8_fits_99 : decode cX8_fits 99 = .ok (.getfield 25, 3) := tb_d tk_X8_fits_2 16 (99, .getfield 25, 3) rfl
theorem dX8_fits_102 : decode cX8_fits 102 = .ok (.iconst 5, 1) := tb_d tk_X8_fits_2 17 (102, .iconst 5, 1) rfl
theorem dX8_fits_103 : decode cX8_fits 103 = .ok (.iaload, 1) := tb_d tk_X8_fits_2 18 (103, .iaload, 1) rfl
theorem dX8_fits_104 : decode cX8_fits 104 = .ok (.invokestatic 172, 3) := tb_d tk_X8_fits_2 19 (104, .invokestatic 172, 3) rfl
theorem dX8_fits_107 : decode cX8_fits 107 = .ok (.iload 5, 2) := tb_d tk_X8_fits_2 20 (107, .iload 5, 2) rfl
theorem dX8_fits_109 : decode cX8_fits 109 = .ok (.invokevirtual 227, 3) := tb_d tk_X8_fits_2 21 (109, .invokevirtual 227, 3) rfl
theorem dX8_fits_112 : decode cX8_fits 112 = .ok (.ifCond .eq 10, 3) := tb_d tk_X8_fits_2 22 (112, .ifCond .eq 10, 3) rfl
theorem dX8_fits_115 : decode cX8_fits 115 = .ok (.iconst 1, 1) := tb_d tk_X8_fits_2 23 (115, .iconst 1, 1) rfl
theorem dX8_fits_116 : decode cX8_fits 116 = .ok (.iload 7, 2) := tb_d tk_X8_fits_2 24 (116, .iload 7, 2) rfl
theorem dX8_fits_118 : decode cX8_fits 118 = .ok (.ishl, 1) := tb_d tk_X8_fits_2 25 (118, .ishl, 1) rfl
theorem dX8_fits_119 : decode cX8_fits 119 = .ok (.goto 4, 3) := tb_d tk_X8_fits_2 26 (119, .goto 4, 3) rfl
theorem dX8_fits_122 : decode cX8_fits 122 = .ok (.iconst 0, 1) := tb_d tk_X8_fits_2 27 (122, .iconst 0, 1) rfl
theorem dX8_fits_123 : decode cX8_fits 123 = .ok (.ior, 1) := tb_d tk_X8_fits_2 28 (123, .ior, 1) rfl
theorem dX8_fits_124 : decode cX8_fits 124 = .ok (.istore 6, 2) := tb_d tk_X8_fits_2 29 (124, .istore 6, 2) rfl
theorem dX8_fits_126 : decode cX8_fits 126 = .ok (.iinc 7 1, 3) := tb_d tk_X8_fits_2 30 (126, .iinc 7 1, 3) rfl
theorem dX8_fits_129 : decode cX8_fits 129 = .ok (.goto (-52), 3) := tb_d tk_X8_fits_2 31 (129, .goto (-52), 3) rfl
theorem dX8_fits_132 : decode cX8_fits 132 = .ok (.iconst 0, 1) := tb_d tk_X8_fits_2 32 (132, .iconst 0, 1) rfl
theorem dX8_fits_133 : decode cX8_fits 133 = .ok (.istore 7, 2) := tb_d tk_X8_fits_2 33 (133, .istore 7, 2) rfl
theorem dX8_fits_135 : decode cX8_fits 135 = .ok (.iload 7, 2) := tb_d tk_X8_fits_2 34 (135, .iload 7, 2) rfl
theorem dX8_fits_137 : decode cX8_fits 137 = .ok (.aload_n 0, 1) := tb_d tk_X8_fits_2 35 (137, .aload_n 0, 1) rfl
theorem dX8_fits_138 : decode cX8_fits 138 = .ok (.getfield 25, 3) := tb_d tk_X8_fits_2 36 (138, .getfield 25, 3) rfl
theorem dX8_fits_141 : decode cX8_fits 141 = .ok (.iconst 3, 1) := tb_d tk_X8_fits_2 37 (141, .iconst 3, 1) rfl
theorem dX8_fits_142 : decode cX8_fits 142 = .ok (.iaload, 1) := tb_d tk_X8_fits_2 38 (142, .iaload, 1) rfl
theorem dX8_fits_143 : decode cX8_fits 143 = .ok (.if_icmp .ge 44, 3) := tb_d tk_X8_fits_2 39 (143, .if_icmp .ge 44, 3) rfl
def tb_X8_fits_3 : List (Nat × Instr × Nat) := [(146, .iload 4, 2), (148, .iconst 1, 1), (149, .if_icmp .ne 38, 3), (152, .iload 6, 2), (154, .aload_n 0, 1), (155, .aload_n 0, 1), (156, .iload_n 1, 1), (157, .invokevirtual 165, 3), (160, .iload 7, 2), (162, .iload 5, 2), (164, .invokevirtual 227, 3), (167, .ifCond .eq 10, 3), (170, .iconst 1, 1), (171, .iload 7, 2), (173, .ishl, 1), (174, .goto 4, 3), (177, .iconst 0, 1), (178, .ior, 1), (179, .istore 6, 2), (181, .iinc 7 1, 3), (184, .goto (-49), 3), (187, .aload_n 0, 1), (188, .iload 6, 2), (190, .invokevirtual 69, 3), (193, .ireturn, 1)]
set_option maxRecDepth 100000 in
theorem tk_X8_fits_3 : (tb_X8_fits_3.all fun q => decide (decode cX8_fits q.1 = .ok q.2)) = true := by decide +kernel
theorem dX8_fits_146 : decode cX8_fits 146 = .ok (.iload 4, 2) := tb_d tk_X8_fits_3 0 (146, .iload 4, 2) rfl
theorem dX8_fits_148 : decode cX8_fits 148 = .ok (.iconst 1, 1) := tb_d tk_X8_fits_3 1 (148, .iconst 1, 1) rfl
theorem dX8_fits_149 : decode cX8_fits 149 = .ok (.if_icmp .ne 38, 3) := tb_d tk_X8_fits_3 2 (149, .if_icmp .ne 38, 3) rfl
theorem dX8_fits_152 : decode cX8_fits 152 = .ok (.iload 6, 2) := tb_d tk_X8_fits_3 3 (152, .iload 6, 2) rfl
theorem dX8_fits_154 : decode cX8_fits 154 = .ok (.aload_n 0, 1) := tb_d tk_X8_fits_3 4 (154, .aload_n 0, 1) rfl
theorem dX8_fits_155 : decode cX8_fits 155 = .ok (.aload_n 0, 1) := tb_d tk_X8_fits_3 5 (155, .aload_n 0, 1) rfl
theorem dX8_fits_156 : decode cX8_fits 156 = .ok (.iload_n 1, 1) := tb_d tk_X8_fits_3 6 (156, .iload_n 1, 1) rfl
theorem dX8_fits_157 : decode cX8_fits 157 = .ok (.invokevirtual 165, 3) := tb_d tk_X8_fits_3 7 (157, .invokevirtual 165, 3) rfl
theorem dX8_fits_160 : decode cX8_fits 160 = .ok (.iload 7, 2) := tb_d tk_X8_fits_3 8 (160, .iload 7, 2) rfl
theorem dX8_fits_162 : decode cX8_fits 162 = .ok (.iload 5, 2) := tb_d tk_X8_fits_3 9 (162, .iload 5, 2) rfl
theorem dX8_fits_164 : decode cX8_fits 164 = .ok (.invokevirtual 227, 3) := tb_d tk_X8_fits_3 10 (164, .invokevirtual 227, 3) rfl
theorem dX8_fits_167 : decode cX8_fits 167 = .ok (.ifCond .eq 10, 3) := tb_d tk_X8_fits_3 11 (167, .ifCond .eq 10, 3) rfl
theorem dX8_fits_170 : decode cX8_fits 170 = .ok (.iconst 1, 1) := tb_d tk_X8_fits_3 12 (170, .iconst 1, 1) rfl
theorem dX8_fits_171 : decode cX8_fits 171 = .ok (.iload 7, 2) := tb_d tk_X8_fits_3 13 (171, .iload 7, 2) rfl
theorem dX8_fits_173 : decode cX8_fits 173 = .ok (.ishl, 1) := tb_d tk_X8_fits_3 14 (173, .ishl, 1) rfl
theorem dX8_fits_174 : decode cX8_fits 174 = .ok (.goto 4, 3) := tb_d tk_X8_fits_3 15 (174, .goto 4, 3) rfl
theorem dX8_fits_177 : decode cX8_fits 177 = .ok (.iconst 0, 1) := tb_d tk_X8_fits_3 16 (177, .iconst 0, 1) rfl
theorem dX8_fits_178 : decode cX8_fits 178 = .ok (.ior, 1) := tb_d tk_X8_fits_3 17 (178, .ior, 1) rfl
theorem dX8_fits_179 : decode cX8_fits 179 = .ok (.istore 6, 2) := tb_d tk_X8_fits_3 18 (179, .istore 6, 2) rfl
theorem dX8_fits_181 : decode cX8_fits 181 = .ok (.iinc 7 1, 3) := tb_d tk_X8_fits_3 19 (181, .iinc 7 1, 3) rfl
theorem dX8_fits_184 : decode cX8_fits 184 = .ok (.goto (-49), 3) := tb_d tk_X8_fits_3 20 (184, .goto (-49), 3) rfl
theorem dX8_fits_187 : decode cX8_fits 187 = .ok (.aload_n 0, 1) := tb_d tk_X8_fits_3 21 (187, .aload_n 0, 1) rfl
theorem dX8_fits_188 : decode cX8_fits 188 = .ok (.iload 6, 2) := tb_d tk_X8_fits_3 22 (188, .iload 6, 2) rfl
theorem dX8_fits_190 : decode cX8_fits 190 = .ok (.invokevirtual 69, 3) := tb_d tk_X8_fits_3 23 (190, .invokevirtual 69, 3) rfl
theorem dX8_fits_193 : decode cX8_fits 193 = .ok (.ireturn, 1) := tb_d tk_X8_fits_3 24 (193, .ireturn, 1) rfl
theorem ggX8_sure_X8_isWord : GoodIn wsX8_sure wsX8_isWord := fun w h => ⟨List.mem_cons_of_mem _ (List.mem_append_right _ (List.mem_append_right _ (List.mem_append_right _ (List.mem_append_right _ (List.mem_append_right _ (List.mem_append_right _ (List.mem_append_right _ (List.mem_append_right _ (List.mem_append_left _ h))))))))), good_of_word (gdX8_isWord w h)⟩
set_option maxRecDepth 20000 in
theorem gX8_sure_X8_isWord : GoodIn wsX8_sure (wsV RX8 190 RX8 yX8_isWord wsX8_isWord) := goodIn_app (a := bkV RX8 190 RX8 yX8_isWord) (fun w h => ⟨List.mem_cons_of_mem _ (List.mem_append_right _ (List.mem_append_left _ h)), good_of_word (gd_bV _ _ _ _ w h)⟩) ggX8_sure_X8_isWord
theorem ggX8_sure_X8_isHour : GoodIn wsX8_sure wsX8_isHour := fun w h => ⟨List.mem_cons_of_mem _ (List.mem_append_right _ (List.mem_append_right _ (List.mem_append_right _ (List.mem_append_right _ (List.mem_append_right _ (List.mem_append_right _ (List.mem_append_right _ (List.mem_append_right _ (List.mem_append_right _ (List.mem_append_left _ h)))))))))), good_of_word (gdX8_isHour w h)⟩
set_option maxRecDepth 20000 in
theorem gX8_sure_X8_isHour : GoodIn wsX8_sure (va_wsS RX8 193 yX8_isHour wsX8_isHour) := goodIn_app (a := bkS RX8 193 yX8_isHour) (fun w h => ⟨List.mem_cons_of_mem _ (List.mem_append_right _ (List.mem_append_right _ (List.mem_append_left _ h))), good_of_word (gd_bS _ _ _ w h)⟩) ggX8_sure_X8_isHour
theorem ggX8_sure_X8_in : GoodIn wsX8_sure wsX8_in := fun w h => ⟨List.mem_cons_of_mem _ (List.mem_append_right _ (List.mem_append_right _ (List.mem_append_right _ (List.mem_append_right _ (List.mem_append_right _ (List.mem_append_right _ (List.mem_append_right _ (List.mem_append_right _ (List.mem_append_right _ (List.mem_append_right _ (List.mem_append_left _ h))))))))))), good_of_word (gdX8_in w h)⟩
set_option maxRecDepth 20000 in
theorem gX8_sure_X8_in : GoodIn wsX8_sure (va_wsS RX8 56 yX8_in wsX8_in) := goodIn_app (a := bkS RX8 56 yX8_in) (fun w h => ⟨List.mem_cons_of_mem _ (List.mem_append_right _ (List.mem_append_right _ (List.mem_append_right _ (List.mem_append_left _ h)))), good_of_word (gd_bS _ _ _ w h)⟩) ggX8_sure_X8_in
theorem ggX8_sure_X8_agreeing : GoodIn wsX8_sure wsX8_agreeing := fun w h => ⟨List.mem_cons_of_mem _ (List.mem_append_right _ (List.mem_append_right _ (List.mem_append_right _ (List.mem_append_right _ (List.mem_append_right _ (List.mem_append_right _ (List.mem_append_right _ (List.mem_append_right _ (List.mem_append_right _ (List.mem_append_right _ (List.mem_append_right _ (List.mem_append_left _ h)))))))))))), good_of_word (gdX8_agreeing w h)⟩
set_option maxRecDepth 20000 in
theorem gX8_sure_X8_agreeing : GoodIn wsX8_sure (wsV RX8 214 RX8 yX8_agreeing wsX8_agreeing) := goodIn_app (a := bkV RX8 214 RX8 yX8_agreeing) (fun w h => ⟨List.mem_cons_of_mem _ (List.mem_append_right _ (List.mem_append_right _ (List.mem_append_right _ (List.mem_append_right _ (List.mem_append_left _ h))))), good_of_word (gd_bV _ _ _ _ w h)⟩) ggX8_sure_X8_agreeing
theorem ggX8_sure_X8_takenOf : GoodIn wsX8_sure wsX8_takenOf := fun w h => ⟨List.mem_cons_of_mem _ (List.mem_append_right _ (List.mem_append_right _ (List.mem_append_right _ (List.mem_append_right _ (List.mem_append_right _ (List.mem_append_right _ (List.mem_append_right _ (List.mem_append_right _ (List.mem_append_right _ (List.mem_append_right _ (List.mem_append_right _ (List.mem_append_right _ (List.mem_append_left _ h))))))))))))), good_of_word (gdX8_takenOf w h)⟩
set_option maxRecDepth 20000 in
theorem gX8_sure_X8_takenOf : GoodIn wsX8_sure (wsV RX8 220 RX8 yX8_takenOf wsX8_takenOf) := goodIn_app (a := bkV RX8 220 RX8 yX8_takenOf) (fun w h => ⟨List.mem_cons_of_mem _ (List.mem_append_right _ (List.mem_append_right _ (List.mem_append_right _ (List.mem_append_right _ (List.mem_append_right _ (List.mem_append_left _ h)))))), good_of_word (gd_bV _ _ _ _ w h)⟩) ggX8_sure_X8_takenOf
theorem ggX8_sure_X8_ones : GoodIn wsX8_sure wsX8_ones := fun w h => ⟨List.mem_cons_of_mem _ (List.mem_append_right _ (List.mem_append_right _ (List.mem_append_right _ (List.mem_append_right _ (List.mem_append_right _ (List.mem_append_right _ (List.mem_append_right _ (List.mem_append_right _ (List.mem_append_right _ (List.mem_append_right _ (List.mem_append_right _ (List.mem_append_right _ (List.mem_append_right _ (List.mem_append_left _ h)))))))))))))), good_of_word (gdX8_ones w h)⟩
set_option maxRecDepth 20000 in
theorem gX8_sure_X8_ones : GoodIn wsX8_sure (va_wsS RX8 217 yX8_ones wsX8_ones) := goodIn_app (a := bkS RX8 217 yX8_ones) (fun w h => ⟨List.mem_cons_of_mem _ (List.mem_append_right _ (List.mem_append_right _ (List.mem_append_right _ (List.mem_append_right _ (List.mem_append_right _ (List.mem_append_right _ (List.mem_append_left _ h))))))), good_of_word (gd_bS _ _ _ w h)⟩) ggX8_sure_X8_ones
def tb_X8_sure_1 : List (Nat × Instr × Nat) := [(0, .aload_n 0, 1), (1, .iload_n 1, 1), (2, .invokevirtual 190, 3), (5, .ifCond .eq 30, 3), (8, .iload_n 2, 1), (9, .invokestatic 193, 3), (12, .ifCond .eq 23, 3), (15, .iload_n 3, 1), (16, .iconst 0, 1), (17, .bipush 10, 2), (19, .invokestatic 56, 3), (22, .ifCond .eq 13, 3), (25, .iload 4, 2), (27, .iconst 0, 1), (28, .iconst 1, 1), (29, .invokestatic 56, 3), (32, .ifCond .ne 6, 3), (35, .ldc 64, 2), (37, .ireturn, 1), (38, .aload_n 0, 1), (39, .invokevirtual 214, 3), (42, .istore 5, 2), (44, .aload_n 0, 1), (45, .iload 5, 2), (47, .iload_n 1, 1), (48, .iload_n 2, 1), (49, .invokevirtual 220, 3), (52, .invokestatic 217, 3), (55, .istore 6, 2), (57, .iload 6, 2), (59, .iload_n 3, 1), (60, .imul, 1), (61, .iload 5, 2), (63, .invokestatic 217, 3), (66, .iload 6, 2), (68, .isub, 1), (69, .bipush 10, 2), (71, .imul, 1), (72, .iadd, 1), (73, .istore 7, 2)]
set_option maxRecDepth 100000 in
theorem tk_X8_sure_1 : (tb_X8_sure_1.all fun q => decide (decode cX8_sure q.1 = .ok q.2)) = true := by decide +kernel
theorem dX8_sure_0 : decode cX8_sure 0 = .ok (.aload_n 0, 1) := tb_d tk_X8_sure_1 0 (0, .aload_n 0, 1) rfl
theorem dX8_sure_1 : decode cX8_sure 1 = .ok (.iload_n 1, 1) := tb_d tk_X8_sure_1 1 (1, .iload_n 1, 1) rfl
theorem dX8_sure_2 : decode cX8_sure 2 = .ok (.invokevirtual 190, 3) := tb_d tk_X8_sure_1 2 (2, .invokevirtual 190, 3) rfl
theorem dX8_sure_5 : decode cX8_sure 5 = .ok (.ifCond .eq 30, 3) := tb_d tk_X8_sure_1 3 (5, .ifCond .eq 30, 3) rfl
theorem dX8_sure_8 : decode cX8_sure 8 = .ok (.iload_n 2, 1) := tb_d tk_X8_sure_1 4 (8, .iload_n 2, 1) rfl
theorem dX8_sure_9 : decode cX8_sure 9 = .ok (.invokestatic 193, 3) := tb_d tk_X8_sure_1 5 (9, .invokestatic 193, 3) rfl
theorem dX8_sure_12 : decode cX8_sure 12 = .ok (.ifCond .eq 23, 3) := tb_d tk_X8_sure_1 6 (12, .ifCond .eq 23, 3) rfl
theorem dX8_sure_15 : decode cX8_sure 15 = .ok (.iload_n 3, 1) := tb_d tk_X8_sure_1 7 (15, .iload_n 3, 1) rfl
theorem dX8_sure_16 : decode cX8_sure 16 = .ok (.iconst 0, 1) := tb_d tk_X8_sure_1 8 (16, .iconst 0, 1) rfl
theorem dX8_sure_17 : decode cX8_sure 17 = .ok (.bipush 10, 2) := tb_d tk_X8_sure_1 9 (17, .bipush 10, 2) rfl
theorem dX8_sure_19 : decode cX8_sure 19 = .ok (.invokestatic 56, 3) := tb_d tk_X8_sure_1 10 (19, .invokestatic 56, 3) rfl
theorem dX8_sure_22 : decode cX8_sure 22 = .ok (.ifCond .eq 13, 3) := tb_d tk_X8_sure_1 11 (22, .ifCond .eq 13, 3) rfl
theorem dX8_sure_25 : decode cX8_sure 25 = .ok (.iload 4, 2) := tb_d tk_X8_sure_1 12 (25, .iload 4, 2) rfl
theorem dX8_sure_27 : decode cX8_sure 27 = .ok (.iconst 0, 1) := tb_d tk_X8_sure_1 13 (27, .iconst 0, 1) rfl
theorem dX8_sure_28 : decode cX8_sure 28 = .ok (.iconst 1, 1) := tb_d tk_X8_sure_1 14 (28, .iconst 1, 1) rfl
theorem dX8_sure_29 : decode cX8_sure 29 = .ok (.invokestatic 56, 3) := tb_d tk_X8_sure_1 15 (29, .invokestatic 56, 3) rfl
theorem dX8_sure_32 : decode cX8_sure 32 = .ok (.ifCond .ne 6, 3) := tb_d tk_X8_sure_1 16 (32, .ifCond .ne 6, 3) rfl
theorem dX8_sure_35 : decode cX8_sure 35 = .ok (.ldc 64, 2) := tb_d tk_X8_sure_1 17 (35, .ldc 64, 2) rfl
theorem dX8_sure_37 : decode cX8_sure 37 = .ok (.ireturn, 1) := tb_d tk_X8_sure_1 18 (37, .ireturn, 1) rfl
theorem dX8_sure_38 : decode cX8_sure 38 = .ok (.aload_n 0, 1) := tb_d tk_X8_sure_1 19 (38, .aload_n 0, 1) rfl
theorem dX8_sure_39 : decode cX8_sure 39 = .ok (.invokevirtual 214, 3) := tb_d tk_X8_sure_1 20 (39, .invokevirtual 214, 3) rfl
theorem dX8_sure_42 : decode cX8_sure 42 = .ok (.istore 5, 2) := tb_d tk_X8_sure_1 21 (42, .istore 5, 2) rfl
theorem dX8_sure_44 : decode cX8_sure 44 = .ok (.aload_n 0, 1) := tb_d tk_X8_sure_1 22 (44, .aload_n 0, 1) rfl
theorem dX8_sure_45 : decode cX8_sure 45 = .ok (.iload 5, 2) := tb_d tk_X8_sure_1 23 (45, .iload 5, 2) rfl
theorem dX8_sure_47 : decode cX8_sure 47 = .ok (.iload_n 1, 1) := tb_d tk_X8_sure_1 24 (47, .iload_n 1, 1) rfl
theorem dX8_sure_48 : decode cX8_sure 48 = .ok (.iload_n 2, 1) := tb_d tk_X8_sure_1 25 (48, .iload_n 2, 1) rfl
theorem dX8_sure_49 : decode cX8_sure 49 = .ok (.invokevirtual 220, 3) := tb_d tk_X8_sure_1 26 (49, .invokevirtual 220, 3) rfl
theorem dX8_sure_52 : decode cX8_sure 52 = .ok (.invokestatic 217, 3) := tb_d tk_X8_sure_1 27 (52, .invokestatic 217, 3) rfl
theorem dX8_sure_55 : decode cX8_sure 55 = .ok (.istore 6, 2) := tb_d tk_X8_sure_1 28 (55, .istore 6, 2) rfl
theorem dX8_sure_57 : decode cX8_sure 57 = .ok (.iload 6, 2) := tb_d tk_X8_sure_1 29 (57, .iload 6, 2) rfl
theorem dX8_sure_59 : decode cX8_sure 59 = .ok (.iload_n 3, 1) := tb_d tk_X8_sure_1 30 (59, .iload_n 3, 1) rfl
theorem dX8_sure_60 : decode cX8_sure 60 = .ok (.imul, 1) := tb_d tk_X8_sure_1 31 (60, .imul, 1) rfl
theorem dX8_sure_61 : decode cX8_sure 61 = .ok (.iload 5, 2) := tb_d tk_X8_sure_1 32 (61, .iload 5, 2) rfl
theorem dX8_sure_63 : decode cX8_sure 63 = .ok (.invokestatic 217, 3) := tb_d tk_X8_sure_1 33 (63, .invokestatic 217, 3) rfl
theorem dX8_sure_66 : decode cX8_sure 66 = .ok (.iload 6, 2) := tb_d tk_X8_sure_1 34 (66, .iload 6, 2) rfl
theorem dX8_sure_68 : decode cX8_sure 68 = .ok (.isub, 1) := tb_d tk_X8_sure_1 35 (68, .isub, 1) rfl
theorem dX8_sure_69 : decode cX8_sure 69 = .ok (.bipush 10, 2) := tb_d tk_X8_sure_1 36 (69, .bipush 10, 2) rfl
theorem dX8_sure_71 : decode cX8_sure 71 = .ok (.imul, 1) := tb_d tk_X8_sure_1 37 (71, .imul, 1) rfl
theorem dX8_sure_72 : decode cX8_sure 72 = .ok (.iadd, 1) := tb_d tk_X8_sure_1 38 (72, .iadd, 1) rfl
theorem dX8_sure_73 : decode cX8_sure 73 = .ok (.istore 7, 2) := tb_d tk_X8_sure_1 39 (73, .istore 7, 2) rfl
def tb_X8_sure_2 : List (Nat × Instr × Nat) := [(75, .iload 5, 2), (77, .ifCond .ne 7, 3), (80, .iconst 1, 1), (81, .goto 11, 3), (84, .bipush 10, 2), (86, .iload 5, 2), (88, .invokestatic 217, 3), (91, .imul, 1), (92, .istore 8, 2), (94, .iload 7, 2), (96, .istore 9, 2), (98, .iload 8, 2), (100, .istore 10, 2), (102, .iload 10, 2), (104, .ifCond .eq 21, 3), (107, .iload 9, 2), (109, .iload 10, 2), (111, .irem, 1), (112, .istore 11, 2), (114, .iload 10, 2), (116, .istore 9, 2), (118, .iload 11, 2), (120, .istore 10, 2), (122, .goto (-20), 3), (125, .iload 4, 2), (127, .ifCond .ne 8, 3), (130, .iload 7, 2), (132, .goto 5, 3), (135, .iload 8, 2), (137, .iload 9, 2), (139, .idiv, 1), (140, .ireturn, 1)]
set_option maxRecDepth 100000 in
theorem tk_X8_sure_2 : (tb_X8_sure_2.all fun q => decide (decode cX8_sure q.1 = .ok q.2)) = true := by decide +kernel
theorem dX8_sure_75 : decode cX8_sure 75 = .ok (.iload 5, 2) := tb_d tk_X8_sure_2 0 (75, .iload 5, 2) rfl
theorem dX8_sure_77 : decode cX8_sure 77 = .ok (.ifCond .ne 7, 3) := tb_d tk_X8_sure_2 1 (77, .ifCond .ne 7, 3) rfl
theorem dX8_sure_80 : decode cX8_sure 80 = .ok (.iconst 1, 1) := tb_d tk_X8_sure_2 2 (80, .iconst 1, 1) rfl
theorem dX8_sure_81 : decode cX8_sure 81 = .ok (.goto 11, 3) := tb_d tk_X8_sure_2 3 (81, .goto 11, 3) rfl
theorem dX8_sure_84 : decode cX8_sure 84 = .ok (.bipush 10, 2) := tb_d tk_X8_sure_2 4 (84, .bipush 10, 2) rfl
theorem dX8_sure_86 : decode cX8_sure 86 = .ok (.iload 5, 2) := tb_d tk_X8_sure_2 5 (86, .iload 5, 2) rfl
theorem dX8_sure_88 : decode cX8_sure 88 = .ok (.invokestatic 217, 3) := tb_d tk_X8_sure_2 6 (88, .invokestatic 217, 3) rfl
theorem dX8_sure_91 : decode cX8_sure 91 = .ok (.imul, 1) := tb_d tk_X8_sure_2 7 (91, .imul, 1) rfl
theorem dX8_sure_92 : decode cX8_sure 92 = .ok (.istore 8, 2) := tb_d tk_X8_sure_2 8 (92, .istore 8, 2) rfl
theorem dX8_sure_94 : decode cX8_sure 94 = .ok (.iload 7, 2) := tb_d tk_X8_sure_2 9 (94, .iload 7, 2) rfl
theorem dX8_sure_96 : decode cX8_sure 96 = .ok (.istore 9, 2) := tb_d tk_X8_sure_2 10 (96, .istore 9, 2) rfl
theorem dX8_sure_98 : decode cX8_sure 98 = .ok (.iload 8, 2) := tb_d tk_X8_sure_2 11 (98, .iload 8, 2) rfl
theorem dX8_sure_100 : decode cX8_sure 100 = .ok (.istore 10, 2) := tb_d tk_X8_sure_2 12 (100, .istore 10, 2) rfl
theorem dX8_sure_102 : decode cX8_sure 102 = .ok (.iload 10, 2) := tb_d tk_X8_sure_2 13 (102, .iload 10, 2) rfl
theorem dX8_sure_104 : decode cX8_sure 104 = .ok (.ifCond .eq 21, 3) := tb_d tk_X8_sure_2 14 (104, .ifCond .eq 21, 3) rfl
theorem dX8_sure_107 : decode cX8_sure 107 = .ok (.iload 9, 2) := tb_d tk_X8_sure_2 15 (107, .iload 9, 2) rfl
theorem dX8_sure_109 : decode cX8_sure 109 = .ok (.iload 10, 2) := tb_d tk_X8_sure_2 16 (109, .iload 10, 2) rfl
theorem dX8_sure_111 : decode cX8_sure 111 = .ok (.irem, 1) := tb_d tk_X8_sure_2 17 (111, .irem, 1) rfl
theorem dX8_sure_112 : decode cX8_sure 112 = .ok (.istore 11, 2) := tb_d tk_X8_sure_2 18 (112, .istore 11, 2) rfl
theorem dX8_sure_114 : decode cX8_sure 114 = .ok (.iload 10, 2) := tb_d tk_X8_sure_2 19 (114, .iload 10, 2) rfl
theorem dX8_sure_116 : decode cX8_sure 116 = .ok (.istore 9, 2) := tb_d tk_X8_sure_2 20 (116, .istore 9, 2) rfl
theorem dX8_sure_118 : decode cX8_sure 118 = .ok (.iload 11, 2) := tb_d tk_X8_sure_2 21 (118, .iload 11, 2) rfl
theorem dX8_sure_120 : decode cX8_sure 120 = .ok (.istore 10, 2) := tb_d tk_X8_sure_2 22 (120, .istore 10, 2) rfl
theorem dX8_sure_122 : decode cX8_sure 122 = .ok (.goto (-20), 3) := tb_d tk_X8_sure_2 23 (122, .goto (-20), 3) rfl
theorem dX8_sure_125 : decode cX8_sure 125 = .ok (.iload 4, 2) := tb_d tk_X8_sure_2 24 (125, .iload 4, 2) rfl
theorem dX8_sure_127 : decode cX8_sure 127 = .ok (.ifCond .ne 8, 3) := tb_d tk_X8_sure_2 25 (127, .ifCond .ne 8, 3) rfl
theorem dX8_sure_130 : decode cX8_sure 130 = .ok (.iload 7, 2) := tb_d tk_X8_sure_2 26 (130, .iload 7, 2) rfl
theorem dX8_sure_132 : decode cX8_sure 132 = .ok (.goto 5, 3) := tb_d tk_X8_sure_2 27 (132, .goto 5, 3) rfl
theorem dX8_sure_135 : decode cX8_sure 135 = .ok (.iload 8, 2) := tb_d tk_X8_sure_2 28 (135, .iload 8, 2) rfl
theorem dX8_sure_137 : decode cX8_sure 137 = .ok (.iload 9, 2) := tb_d tk_X8_sure_2 29 (137, .iload 9, 2) rfl
theorem dX8_sure_139 : decode cX8_sure 139 = .ok (.idiv, 1) := tb_d tk_X8_sure_2 30 (139, .idiv, 1) rfl
theorem dX8_sure_140 : decode cX8_sure 140 = .ok (.ireturn, 1) := tb_d tk_X8_sure_2 31 (140, .ireturn, 1) rfl
theorem ggX8_drawn_X8_isGate : GoodIn wsX8_drawn wsX8_isGate := fun w h => ⟨List.mem_cons_of_mem _ (List.mem_append_right _ (List.mem_append_right _ (List.mem_append_right _ (List.mem_append_right _ (List.mem_append_right _ (List.mem_append_right _ (List.mem_append_left _ h))))))), good_of_word (gdX8_isGate w h)⟩
set_option maxRecDepth 20000 in
theorem gX8_drawn_X8_isGate : GoodIn wsX8_drawn (wsV RX8 180 RX8 yX8_isGate wsX8_isGate) := goodIn_app (a := bkV RX8 180 RX8 yX8_isGate) (fun w h => ⟨List.mem_cons_of_mem _ (List.mem_append_right _ (List.mem_append_left _ h)), good_of_word (gd_bV _ _ _ _ w h)⟩) ggX8_drawn_X8_isGate
theorem ggX8_drawn_X8_isFar : GoodIn wsX8_drawn wsX8_isFar := fun w h => ⟨List.mem_cons_of_mem _ (List.mem_append_right _ (List.mem_append_right _ (List.mem_append_right _ (List.mem_append_right _ (List.mem_append_right _ (List.mem_append_right _ (List.mem_append_right _ (List.mem_append_left _ h)))))))), good_of_word (gdX8_isFar w h)⟩
set_option maxRecDepth 20000 in
theorem gX8_drawn_X8_isFar : GoodIn wsX8_drawn (va_wsS RX8 205 yX8_isFar wsX8_isFar) := goodIn_app (a := bkS RX8 205 yX8_isFar) (fun w h => ⟨List.mem_cons_of_mem _ (List.mem_append_right _ (List.mem_append_right _ (List.mem_append_left _ h))), good_of_word (gd_bS _ _ _ w h)⟩) ggX8_drawn_X8_isFar
theorem ggX8_drawn_X8_in : GoodIn wsX8_drawn wsX8_in := fun w h => ⟨List.mem_cons_of_mem _ (List.mem_append_right _ (List.mem_append_right _ (List.mem_append_right _ (List.mem_append_right _ (List.mem_append_right _ (List.mem_append_right _ (List.mem_append_right _ (List.mem_append_right _ (List.mem_append_left _ h))))))))), good_of_word (gdX8_in w h)⟩
set_option maxRecDepth 20000 in
theorem gX8_drawn_X8_in : GoodIn wsX8_drawn (va_wsS RX8 56 yX8_in wsX8_in) := goodIn_app (a := bkS RX8 56 yX8_in) (fun w h => ⟨List.mem_cons_of_mem _ (List.mem_append_right _ (List.mem_append_right _ (List.mem_append_right _ (List.mem_append_left _ h)))), good_of_word (gd_bS _ _ _ w h)⟩) ggX8_drawn_X8_in
theorem ggX8_drawn_X8_isTakenNow : GoodIn wsX8_drawn wsX8_isTakenNow := fun w h => ⟨List.mem_cons_of_mem _ (List.mem_append_right _ (List.mem_append_right _ (List.mem_append_right _ (List.mem_append_right _ (List.mem_append_right _ (List.mem_append_right _ (List.mem_append_right _ (List.mem_append_right _ (List.mem_append_right _ (List.mem_append_left _ h)))))))))), good_of_word (gdX8_isTakenNow w h)⟩
set_option maxRecDepth 20000 in
theorem gX8_drawn_X8_isTakenNow : GoodIn wsX8_drawn (wsV RX8 196 RX8 yX8_isTakenNow wsX8_isTakenNow) := goodIn_app (a := bkV RX8 196 RX8 yX8_isTakenNow) (fun w h => ⟨List.mem_cons_of_mem _ (List.mem_append_right _ (List.mem_append_right _ (List.mem_append_right _ (List.mem_append_right _ (List.mem_append_left _ h))))), good_of_word (gd_bV _ _ _ _ w h)⟩) ggX8_drawn_X8_isTakenNow
def tb_X8_drawn_1 : List (Nat × Instr × Nat) := [(0, .aload_n 0, 1), (1, .invokevirtual 180, 3), (4, .ifCond .ne 6, 3), (7, .ldc 183, 2), (9, .ireturn, 1), (10, .iload_n 1, 1), (11, .invokestatic 205, 3), (14, .ifCond .eq 22, 3), (17, .iload_n 2, 1), (18, .iconst 1, 1), (19, .ldc 230, 2), (21, .invokestatic 56, 3), (24, .ifCond .eq 12, 3), (27, .iload_n 3, 1), (28, .iconst 0, 1), (29, .iconst 1, 1), (30, .invokestatic 56, 3), (33, .ifCond .ne 6, 3), (36, .ldc 64, 2), (38, .ireturn, 1), (39, .iload_n 2, 1), (40, .i2l, 1), (41, .lstore 4, 2), (43, .iconst 0, 1), (44, .istore 6, 2), (46, .iconst 0, 1), (47, .istore 7, 2), (49, .iconst 0, 1), (50, .istore 8, 2), (52, .iload 8, 2), (54, .iload_n 1, 1), (55, .if_icmp .ge 84, 3), (58, .lload 4, 2), (60, .ldc2_w 231, 3), (63, .lmul, 1), (64, .ldc2_w 233, 3), (67, .lrem, 1), (68, .lstore 4, 2), (70, .lload 4, 2), (72, .aload_n 0, 1)]
set_option maxRecDepth 100000 in
theorem tk_X8_drawn_1 : (tb_X8_drawn_1.all fun q => decide (decode cX8_drawn q.1 = .ok q.2)) = true := by decide +kernel
theorem dX8_drawn_0 : decode cX8_drawn 0 = .ok (.aload_n 0, 1) := tb_d tk_X8_drawn_1 0 (0, .aload_n 0, 1) rfl
theorem dX8_drawn_1 : decode cX8_drawn 1 = .ok (.invokevirtual 180, 3) := tb_d tk_X8_drawn_1 1 (1, .invokevirtual 180, 3) rfl
theorem dX8_drawn_4 : decode cX8_drawn 4 = .ok (.ifCond .ne 6, 3) := tb_d tk_X8_drawn_1 2 (4, .ifCond .ne 6, 3) rfl
theorem dX8_drawn_7 : decode cX8_drawn 7 = .ok (.ldc 183, 2) := tb_d tk_X8_drawn_1 3 (7, .ldc 183, 2) rfl
theorem dX8_drawn_9 : decode cX8_drawn 9 = .ok (.ireturn, 1) := tb_d tk_X8_drawn_1 4 (9, .ireturn, 1) rfl
theorem dX8_drawn_10 : decode cX8_drawn 10 = .ok (.iload_n 1, 1) := tb_d tk_X8_drawn_1 5 (10, .iload_n 1, 1) rfl
theorem dX8_drawn_11 : decode cX8_drawn 11 = .ok (.invokestatic 205, 3) := tb_d tk_X8_drawn_1 6 (11, .invokestatic 205, 3) rfl
theorem dX8_drawn_14 : decode cX8_drawn 14 = .ok (.ifCond .eq 22, 3) := tb_d tk_X8_drawn_1 7 (14, .ifCond .eq 22, 3) rfl
theorem dX8_drawn_17 : decode cX8_drawn 17 = .ok (.iload_n 2, 1) := tb_d tk_X8_drawn_1 8 (17, .iload_n 2, 1) rfl
theorem dX8_drawn_18 : decode cX8_drawn 18 = .ok (.iconst 1, 1) := tb_d tk_X8_drawn_1 9 (18, .iconst 1, 1) rfl
theorem dX8_drawn_19 : decode cX8_drawn 19 = .ok (.ldc 230, 2) := tb_d tk_X8_drawn_1 10 (19, .ldc 230, 2) rfl
theorem dX8_drawn_21 : decode cX8_drawn 21 = .ok (.invokestatic 56, 3) := tb_d tk_X8_drawn_1 11 (21, .invokestatic 56, 3) rfl
theorem dX8_drawn_24 : decode cX8_drawn 24 = .ok (.ifCond .eq 12, 3) := tb_d tk_X8_drawn_1 12 (24, .ifCond .eq 12, 3) rfl
theorem dX8_drawn_27 : decode cX8_drawn 27 = .ok (.iload_n 3, 1) := tb_d tk_X8_drawn_1 13 (27, .iload_n 3, 1) rfl
theorem dX8_drawn_28 : decode cX8_drawn 28 = .ok (.iconst 0, 1) := tb_d tk_X8_drawn_1 14 (28, .iconst 0, 1) rfl
theorem dX8_drawn_29 : decode cX8_drawn 29 = .ok (.iconst 1, 1) := tb_d tk_X8_drawn_1 15 (29, .iconst 1, 1) rfl
theorem dX8_drawn_30 : decode cX8_drawn 30 = .ok (.invokestatic 56, 3) := tb_d tk_X8_drawn_1 16 (30, .invokestatic 56, 3) rfl
theorem dX8_drawn_33 : decode cX8_drawn 33 = .ok (.ifCond .ne 6, 3) := tb_d tk_X8_drawn_1 17 (33, .ifCond .ne 6, 3) rfl
theorem dX8_drawn_36 : decode cX8_drawn 36 = .ok (.ldc 64, 2) := tb_d tk_X8_drawn_1 18 (36, .ldc 64, 2) rfl
theorem dX8_drawn_38 : decode cX8_drawn 38 = .ok (.ireturn, 1) := tb_d tk_X8_drawn_1 19 (38, .ireturn, 1) rfl
theorem dX8_drawn_39 : decode cX8_drawn 39 = .ok (.iload_n 2, 1) := tb_d tk_X8_drawn_1 20 (39, .iload_n 2, 1) rfl
theorem dX8_drawn_40 : decode cX8_drawn 40 = .ok (.i2l, 1) := tb_d tk_X8_drawn_1 21 (40, .i2l, 1) rfl
theorem dX8_drawn_41 : decode cX8_drawn 41 = .ok (.lstore 4, 2) := tb_d tk_X8_drawn_1 22 (41, .lstore 4, 2) rfl
theorem dX8_drawn_43 : decode cX8_drawn 43 = .ok (.iconst 0, 1) := tb_d tk_X8_drawn_1 23 (43, .iconst 0, 1) rfl
theorem dX8_drawn_44 : decode cX8_drawn 44 = .ok (.istore 6, 2) := tb_d tk_X8_drawn_1 24 (44, .istore 6, 2) rfl
theorem dX8_drawn_46 : decode cX8_drawn 46 = .ok (.iconst 0, 1) := tb_d tk_X8_drawn_1 25 (46, .iconst 0, 1) rfl
theorem dX8_drawn_47 : decode cX8_drawn 47 = .ok (.istore 7, 2) := tb_d tk_X8_drawn_1 26 (47, .istore 7, 2) rfl
theorem dX8_drawn_49 : decode cX8_drawn 49 = .ok (.iconst 0, 1) := tb_d tk_X8_drawn_1 27 (49, .iconst 0, 1) rfl
theorem dX8_drawn_50 : decode cX8_drawn 50 = .ok (.istore 8, 2) := tb_d tk_X8_drawn_1 28 (50, .istore 8, 2) rfl
theorem dX8_drawn_52 : decode cX8_drawn 52 = .ok (.iload 8, 2) := tb_d tk_X8_drawn_1 29 (52, .iload 8, 2) rfl
theorem dX8_drawn_54 : decode cX8_drawn 54 = .ok (.iload_n 1, 1) := tb_d tk_X8_drawn_1 30 (54, .iload_n 1, 1) rfl
theorem dX8_drawn_55 : decode cX8_drawn 55 = .ok (.if_icmp .ge 84, 3) := tb_d tk_X8_drawn_1 31 (55, .if_icmp .ge 84, 3) rfl
theorem dX8_drawn_58 : decode cX8_drawn 58 = .ok (.lload 4, 2) := tb_d tk_X8_drawn_1 32 (58, .lload 4, 2) rfl
theorem dX8_drawn_60 : decode cX8_drawn 60 = .ok (.ldc2_w 231, 3) := tb_d tk_X8_drawn_1 33 (60, .ldc2_w 231, 3) rfl
theorem dX8_drawn_63 : decode cX8_drawn 63 = .ok (.lmul, 1) := tb_d tk_X8_drawn_1 34 (63, .lmul, 1) rfl
theorem dX8_drawn_64 : decode cX8_drawn 64 = .ok (.ldc2_w 233, 3) := tb_d tk_X8_drawn_1 35 (64, .ldc2_w 233, 3) rfl
theorem dX8_drawn_67 : decode cX8_drawn 67 = .ok (.lrem, 1) := tb_d tk_X8_drawn_1 36 (67, .lrem, 1) rfl
theorem dX8_drawn_68 : decode cX8_drawn 68 = .ok (.lstore 4, 2) := tb_d tk_X8_drawn_1 37 (68, .lstore 4, 2) rfl
theorem dX8_drawn_70 : decode cX8_drawn 70 = .ok (.lload 4, 2) := tb_d tk_X8_drawn_1 38 (70, .lload 4, 2) rfl
theorem dX8_drawn_72 : decode cX8_drawn 72 = .ok (.aload_n 0, 1) := tb_d tk_X8_drawn_1 39 (72, .aload_n 0, 1) rfl
def tb_X8_drawn_2 : List (Nat × Instr × Nat) := [(73, .getfield 25, 3), (76, .iconst 3, 1), (77, .iaload, 1), (78, .i2l, 1), (79, .lrem, 1), (80, .l2i, 1), (81, .istore 9, 2), (83, .aload_n 0, 1), (84, .iload 9, 2), (86, .lload 4, 2), (88, .ldc2_w 235, 3), (91, .lrem, 1), (92, .l2i, 1), (93, .iload 8, 2), (95, .invokevirtual 196, 3), (98, .istore 10, 2), (100, .iload 6, 2), (102, .iload 10, 2), (104, .ifCond .eq 7, 3), (107, .iconst 1, 1), (108, .goto 4, 3), (111, .iconst 0, 1), (112, .iadd, 1), (113, .istore 6, 2), (115, .iload 7, 2), (117, .iload 10, 2), (119, .ifCond .eq 7, 3), (122, .iconst 0, 1), (123, .goto 7, 3), (126, .iconst 1, 1), (127, .iload 9, 2), (129, .ishl, 1), (130, .ior, 1), (131, .istore 7, 2), (133, .iinc 8 1, 3), (136, .goto (-84), 3), (139, .iload_n 3, 1), (140, .ifCond .ne 8, 3), (143, .iload 6, 2), (145, .goto 5, 3)]
set_option maxRecDepth 100000 in
theorem tk_X8_drawn_2 : (tb_X8_drawn_2.all fun q => decide (decode cX8_drawn q.1 = .ok q.2)) = true := by decide +kernel
theorem dX8_drawn_73 : decode cX8_drawn 73 = .ok (.getfield 25, 3) := tb_d tk_X8_drawn_2 0 (73, .getfield 25, 3) rfl
theorem dX8_drawn_76 : decode cX8_drawn 76 = .ok (.iconst 3, 1) := tb_d tk_X8_drawn_2 1 (76, .iconst 3, 1) rfl
theorem dX8_drawn_77 : decode cX8_drawn 77 = .ok (.iaload, 1) := tb_d tk_X8_drawn_2 2 (77, .iaload, 1) rfl
theorem dX8_drawn_78 : decode cX8_drawn 78 = .ok (.i2l, 1) := tb_d tk_X8_drawn_2 3 (78, .i2l, 1) rfl
theorem dX8_drawn_79 : decode cX8_drawn 79 = .ok (.lrem, 1) := tb_d tk_X8_drawn_2 4 (79, .lrem, 1) rfl
theorem dX8_drawn_80 : decode cX8_drawn 80 = .ok (.l2i, 1) := tb_d tk_X8_drawn_2 5 (80, .l2i, 1) rfl
theorem dX8_drawn_81 : decode cX8_drawn 81 = .ok (.istore 9, 2) := tb_d tk_X8_drawn_2 6 (81, .istore 9, 2) rfl
theorem dX8_drawn_83 : decode cX8_drawn 83 = .ok (.aload_n 0, 1) := tb_d tk_X8_drawn_2 7 (83, .aload_n 0, 1) rfl
theorem dX8_drawn_84 : decode cX8_drawn 84 = .ok (.iload 9, 2) := tb_d tk_X8_drawn_2 8 (84, .iload 9, 2) rfl
theorem dX8_drawn_86 : decode cX8_drawn 86 = .ok (.lload 4, 2) := tb_d tk_X8_drawn_2 9 (86, .lload 4, 2) rfl
theorem dX8_drawn_88 : decode cX8_drawn 88 = .ok (.ldc2_w 235, 3) := tb_d tk_X8_drawn_2 10 (88, .ldc2_w 235, 3) rfl
theorem dX8_drawn_91 : decode cX8_drawn 91 = .ok (.lrem, 1) := tb_d tk_X8_drawn_2 11 (91, .lrem, 1) rfl
theorem dX8_drawn_92 : decode cX8_drawn 92 = .ok (.l2i, 1) := tb_d tk_X8_drawn_2 12 (92, .l2i, 1) rfl
theorem dX8_drawn_93 : decode cX8_drawn 93 = .ok (.iload 8, 2) := tb_d tk_X8_drawn_2 13 (93, .iload 8, 2) rfl
theorem dX8_drawn_95 : decode cX8_drawn 95 = .ok (.invokevirtual 196, 3) := tb_d tk_X8_drawn_2 14 (95, .invokevirtual 196, 3) rfl
theorem dX8_drawn_98 : decode cX8_drawn 98 = .ok (.istore 10, 2) := tb_d tk_X8_drawn_2 15 (98, .istore 10, 2) rfl
theorem dX8_drawn_100 : decode cX8_drawn 100 = .ok (.iload 6, 2) := tb_d tk_X8_drawn_2 16 (100, .iload 6, 2) rfl
theorem dX8_drawn_102 : decode cX8_drawn 102 = .ok (.iload 10, 2) := tb_d tk_X8_drawn_2 17 (102, .iload 10, 2) rfl
theorem dX8_drawn_104 : decode cX8_drawn 104 = .ok (.ifCond .eq 7, 3) := tb_d tk_X8_drawn_2 18 (104, .ifCond .eq 7, 3) rfl
theorem dX8_drawn_107 : decode cX8_drawn 107 = .ok (.iconst 1, 1) := tb_d tk_X8_drawn_2 19 (107, .iconst 1, 1) rfl
theorem dX8_drawn_108 : decode cX8_drawn 108 = .ok (.goto 4, 3) := tb_d tk_X8_drawn_2 20 (108, .goto 4, 3) rfl
theorem dX8_drawn_111 : decode cX8_drawn 111 = .ok (.iconst 0, 1) := tb_d tk_X8_drawn_2 21 (111, .iconst 0, 1) rfl
theorem dX8_drawn_112 : decode cX8_drawn 112 = .ok (.iadd, 1) := tb_d tk_X8_drawn_2 22 (112, .iadd, 1) rfl
theorem dX8_drawn_113 : decode cX8_drawn 113 = .ok (.istore 6, 2) := tb_d tk_X8_drawn_2 23 (113, .istore 6, 2) rfl
theorem dX8_drawn_115 : decode cX8_drawn 115 = .ok (.iload 7, 2) := tb_d tk_X8_drawn_2 24 (115, .iload 7, 2) rfl
theorem dX8_drawn_117 : decode cX8_drawn 117 = .ok (.iload 10, 2) := tb_d tk_X8_drawn_2 25 (117, .iload 10, 2) rfl
theorem dX8_drawn_119 : decode cX8_drawn 119 = .ok (.ifCond .eq 7, 3) := tb_d tk_X8_drawn_2 26 (119, .ifCond .eq 7, 3) rfl
theorem dX8_drawn_122 : decode cX8_drawn 122 = .ok (.iconst 0, 1) := tb_d tk_X8_drawn_2 27 (122, .iconst 0, 1) rfl
theorem dX8_drawn_123 : decode cX8_drawn 123 = .ok (.goto 7, 3) := tb_d tk_X8_drawn_2 28 (123, .goto 7, 3) rfl
theorem dX8_drawn_126 : decode cX8_drawn 126 = .ok (.iconst 1, 1) := tb_d tk_X8_drawn_2 29 (126, .iconst 1, 1) rfl
theorem dX8_drawn_127 : decode cX8_drawn 127 = .ok (.iload 9, 2) := tb_d tk_X8_drawn_2 30 (127, .iload 9, 2) rfl
theorem dX8_drawn_129 : decode cX8_drawn 129 = .ok (.ishl, 1) := tb_d tk_X8_drawn_2 31 (129, .ishl, 1) rfl
theorem dX8_drawn_130 : decode cX8_drawn 130 = .ok (.ior, 1) := tb_d tk_X8_drawn_2 32 (130, .ior, 1) rfl
theorem dX8_drawn_131 : decode cX8_drawn 131 = .ok (.istore 7, 2) := tb_d tk_X8_drawn_2 33 (131, .istore 7, 2) rfl
theorem dX8_drawn_133 : decode cX8_drawn 133 = .ok (.iinc 8 1, 3) := tb_d tk_X8_drawn_2 34 (133, .iinc 8 1, 3) rfl
theorem dX8_drawn_136 : decode cX8_drawn 136 = .ok (.goto (-84), 3) := tb_d tk_X8_drawn_2 35 (136, .goto (-84), 3) rfl
theorem dX8_drawn_139 : decode cX8_drawn 139 = .ok (.iload_n 3, 1) := tb_d tk_X8_drawn_2 36 (139, .iload_n 3, 1) rfl
theorem dX8_drawn_140 : decode cX8_drawn 140 = .ok (.ifCond .ne 8, 3) := tb_d tk_X8_drawn_2 37 (140, .ifCond .ne 8, 3) rfl
theorem dX8_drawn_143 : decode cX8_drawn 143 = .ok (.iload 6, 2) := tb_d tk_X8_drawn_2 38 (143, .iload 6, 2) rfl
theorem dX8_drawn_145 : decode cX8_drawn 145 = .ok (.goto 5, 3) := tb_d tk_X8_drawn_2 39 (145, .goto 5, 3) rfl
def tb_X8_drawn_3 : List (Nat × Instr × Nat) := [(148, .iload 7, 2), (150, .ireturn, 1)]
set_option maxRecDepth 100000 in
theorem tk_X8_drawn_3 : (tb_X8_drawn_3.all fun q => decide (decode cX8_drawn q.1 = .ok q.2)) = true := by decide +kernel
theorem dX8_drawn_148 : decode cX8_drawn 148 = .ok (.iload 7, 2) := tb_d tk_X8_drawn_3 0 (148, .iload 7, 2) rfl
theorem dX8_drawn_150 : decode cX8_drawn 150 = .ok (.ireturn, 1) := tb_d tk_X8_drawn_3 1 (150, .ireturn, 1) rfl
theorem ggX8_image_X8_in : GoodIn wsX8_image wsX8_in := fun w h => ⟨List.mem_cons_of_mem _ (List.mem_append_right _ (List.mem_append_right _ (List.mem_append_right _ (List.mem_append_right _ (List.mem_append_right _ (List.mem_append_left _ h)))))), good_of_word (gdX8_in w h)⟩
set_option maxRecDepth 20000 in
theorem gX8_image_X8_in : GoodIn wsX8_image (va_wsS RX8 56 yX8_in wsX8_in) := goodIn_app (a := bkS RX8 56 yX8_in) (fun w h => ⟨List.mem_cons_of_mem _ (List.mem_append_right _ (List.mem_append_left _ h)), good_of_word (gd_bS _ _ _ w h)⟩) ggX8_image_X8_in
theorem ggX8_image_X8_isGate : GoodIn wsX8_image wsX8_isGate := fun w h => ⟨List.mem_cons_of_mem _ (List.mem_append_right _ (List.mem_append_right _ (List.mem_append_right _ (List.mem_append_right _ (List.mem_append_right _ (List.mem_append_right _ (List.mem_append_left _ h))))))), good_of_word (gdX8_isGate w h)⟩
set_option maxRecDepth 20000 in
theorem gX8_image_X8_isGate : GoodIn wsX8_image (wsV RX8 180 RX8 yX8_isGate wsX8_isGate) := goodIn_app (a := bkV RX8 180 RX8 yX8_isGate) (fun w h => ⟨List.mem_cons_of_mem _ (List.mem_append_right _ (List.mem_append_right _ (List.mem_append_left _ h))), good_of_word (gd_bV _ _ _ _ w h)⟩) ggX8_image_X8_isGate
theorem ggX8_image_X8_copies : GoodIn wsX8_image wsX8_copies := fun w h => ⟨List.mem_cons_of_mem _ (List.mem_append_right _ (List.mem_append_right _ (List.mem_append_right _ (List.mem_append_right _ (List.mem_append_right _ (List.mem_append_right _ (List.mem_append_right _ (List.mem_append_left _ h)))))))), good_of_word (gdX8_copies w h)⟩
set_option maxRecDepth 20000 in
theorem gX8_image_X8_copies : GoodIn wsX8_image (va_wsS RX8 145 yX8_copies wsX8_copies) := goodIn_app (a := bkS RX8 145 yX8_copies) (fun w h => ⟨List.mem_cons_of_mem _ (List.mem_append_right _ (List.mem_append_right _ (List.mem_append_right _ (List.mem_append_left _ h)))), good_of_word (gd_bS _ _ _ w h)⟩) ggX8_image_X8_copies
def tb_X8_image_1 : List (Nat × Instr × Nat) := [(0, .iload_n 1, 1), (1, .iconst 0, 1), (2, .iconst 1, 1), (3, .invokestatic 56, 3), (6, .ifCond .ne 6, 3), (9, .ldc 64, 2), (11, .ireturn, 1), (12, .aload_n 0, 1), (13, .invokevirtual 180, 3), (16, .ifCond .ne 6, 3), (19, .ldc 183, 2), (21, .ireturn, 1), (22, .aload_n 0, 1), (23, .getfield 25, 3), (26, .iconst 0, 1), (27, .aload_n 0, 1), (28, .getfield 37, 3), (31, .bipush 65, 2), (33, .iload_n 1, 1), (34, .imul, 1), (35, .invokestatic 145, 3), (38, .aload_n 0, 1), (39, .getfield 40, 3), (42, .iload_n 1, 1), (43, .iconst 1, 1), (44, .bastore, 1), (45, .iconst 1, 1), (46, .ireturn, 1)]
set_option maxRecDepth 100000 in
theorem tk_X8_image_1 : (tb_X8_image_1.all fun q => decide (decode cX8_image q.1 = .ok q.2)) = true := by decide +kernel
theorem dX8_image_0 : decode cX8_image 0 = .ok (.iload_n 1, 1) := tb_d tk_X8_image_1 0 (0, .iload_n 1, 1) rfl
theorem dX8_image_1 : decode cX8_image 1 = .ok (.iconst 0, 1) := tb_d tk_X8_image_1 1 (1, .iconst 0, 1) rfl
theorem dX8_image_2 : decode cX8_image 2 = .ok (.iconst 1, 1) := tb_d tk_X8_image_1 2 (2, .iconst 1, 1) rfl
theorem dX8_image_3 : decode cX8_image 3 = .ok (.invokestatic 56, 3) := tb_d tk_X8_image_1 3 (3, .invokestatic 56, 3) rfl
theorem dX8_image_6 : decode cX8_image 6 = .ok (.ifCond .ne 6, 3) := tb_d tk_X8_image_1 4 (6, .ifCond .ne 6, 3) rfl
theorem dX8_image_9 : decode cX8_image 9 = .ok (.ldc 64, 2) := tb_d tk_X8_image_1 5 (9, .ldc 64, 2) rfl
theorem dX8_image_11 : decode cX8_image 11 = .ok (.ireturn, 1) := tb_d tk_X8_image_1 6 (11, .ireturn, 1) rfl
theorem dX8_image_12 : decode cX8_image 12 = .ok (.aload_n 0, 1) := tb_d tk_X8_image_1 7 (12, .aload_n 0, 1) rfl
theorem dX8_image_13 : decode cX8_image 13 = .ok (.invokevirtual 180, 3) := tb_d tk_X8_image_1 8 (13, .invokevirtual 180, 3) rfl
theorem dX8_image_16 : decode cX8_image 16 = .ok (.ifCond .ne 6, 3) := tb_d tk_X8_image_1 9 (16, .ifCond .ne 6, 3) rfl
theorem dX8_image_19 : decode cX8_image 19 = .ok (.ldc 183, 2) := tb_d tk_X8_image_1 10 (19, .ldc 183, 2) rfl
theorem dX8_image_21 : decode cX8_image 21 = .ok (.ireturn, 1) := tb_d tk_X8_image_1 11 (21, .ireturn, 1) rfl
theorem dX8_image_22 : decode cX8_image 22 = .ok (.aload_n 0, 1) := tb_d tk_X8_image_1 12 (22, .aload_n 0, 1) rfl
theorem dX8_image_23 : decode cX8_image 23 = .ok (.getfield 25, 3) := tb_d tk_X8_image_1 13 (23, .getfield 25, 3) rfl
theorem dX8_image_26 : decode cX8_image 26 = .ok (.iconst 0, 1) := tb_d tk_X8_image_1 14 (26, .iconst 0, 1) rfl
theorem dX8_image_27 : decode cX8_image 27 = .ok (.aload_n 0, 1) := tb_d tk_X8_image_1 15 (27, .aload_n 0, 1) rfl
theorem dX8_image_28 : decode cX8_image 28 = .ok (.getfield 37, 3) := tb_d tk_X8_image_1 16 (28, .getfield 37, 3) rfl
theorem dX8_image_31 : decode cX8_image 31 = .ok (.bipush 65, 2) := tb_d tk_X8_image_1 17 (31, .bipush 65, 2) rfl
theorem dX8_image_33 : decode cX8_image 33 = .ok (.iload_n 1, 1) := tb_d tk_X8_image_1 18 (33, .iload_n 1, 1) rfl
theorem dX8_image_34 : decode cX8_image 34 = .ok (.imul, 1) := tb_d tk_X8_image_1 19 (34, .imul, 1) rfl
theorem dX8_image_35 : decode cX8_image 35 = .ok (.invokestatic 145, 3) := tb_d tk_X8_image_1 20 (35, .invokestatic 145, 3) rfl
theorem dX8_image_38 : decode cX8_image 38 = .ok (.aload_n 0, 1) := tb_d tk_X8_image_1 21 (38, .aload_n 0, 1) rfl
theorem dX8_image_39 : decode cX8_image 39 = .ok (.getfield 40, 3) := tb_d tk_X8_image_1 22 (39, .getfield 40, 3) rfl
theorem dX8_image_42 : decode cX8_image 42 = .ok (.iload_n 1, 1) := tb_d tk_X8_image_1 23 (42, .iload_n 1, 1) rfl
theorem dX8_image_43 : decode cX8_image 43 = .ok (.iconst 1, 1) := tb_d tk_X8_image_1 24 (43, .iconst 1, 1) rfl
theorem dX8_image_44 : decode cX8_image 44 = .ok (.bastore, 1) := tb_d tk_X8_image_1 25 (44, .bastore, 1) rfl
theorem dX8_image_45 : decode cX8_image 45 = .ok (.iconst 1, 1) := tb_d tk_X8_image_1 26 (45, .iconst 1, 1) rfl
theorem dX8_image_46 : decode cX8_image 46 = .ok (.ireturn, 1) := tb_d tk_X8_image_1 27 (46, .ireturn, 1) rfl
theorem ggX8_restore_X8_in : GoodIn wsX8_restore wsX8_in := fun w h => ⟨List.mem_cons_of_mem _ (List.mem_append_right _ (List.mem_append_right _ (List.mem_append_right _ (List.mem_append_right _ (List.mem_append_left _ h))))), good_of_word (gdX8_in w h)⟩
set_option maxRecDepth 20000 in
theorem gX8_restore_X8_in : GoodIn wsX8_restore (va_wsS RX8 56 yX8_in wsX8_in) := goodIn_app (a := bkS RX8 56 yX8_in) (fun w h => ⟨List.mem_cons_of_mem _ (List.mem_append_right _ (List.mem_append_left _ h)), good_of_word (gd_bS _ _ _ w h)⟩) ggX8_restore_X8_in
theorem ggX8_restore_X8_copies : GoodIn wsX8_restore wsX8_copies := fun w h => ⟨List.mem_cons_of_mem _ (List.mem_append_right _ (List.mem_append_right _ (List.mem_append_right _ (List.mem_append_right _ (List.mem_append_right _ (List.mem_append_left _ h)))))), good_of_word (gdX8_copies w h)⟩
set_option maxRecDepth 20000 in
theorem gX8_restore_X8_copies : GoodIn wsX8_restore (va_wsS RX8 145 yX8_copies wsX8_copies) := goodIn_app (a := bkS RX8 145 yX8_copies) (fun w h => ⟨List.mem_cons_of_mem _ (List.mem_append_right _ (List.mem_append_right _ (List.mem_append_left _ h))), good_of_word (gd_bS _ _ _ w h)⟩) ggX8_restore_X8_copies
def tb_X8_restore_1 : List (Nat × Instr × Nat) := [(0, .iload_n 1, 1), (1, .iconst 0, 1), (2, .iconst 1, 1), (3, .invokestatic 56, 3), (6, .ifCond .ne 6, 3), (9, .ldc 64, 2), (11, .ireturn, 1), (12, .aload_n 0, 1), (13, .getfield 40, 3), (16, .iload_n 1, 1), (17, .baload, 1), (18, .ifCond .ne 6, 3), (21, .ldc 183, 2), (23, .ireturn, 1), (24, .aload_n 0, 1), (25, .getfield 37, 3), (28, .bipush 65, 2), (30, .iload_n 1, 1), (31, .imul, 1), (32, .aload_n 0, 1), (33, .getfield 25, 3), (36, .iconst 0, 1), (37, .invokestatic 145, 3), (40, .aload_n 0, 1), (41, .iconst 0, 1), (42, .putfield 149, 3), (45, .iconst 1, 1), (46, .ireturn, 1)]
set_option maxRecDepth 100000 in
theorem tk_X8_restore_1 : (tb_X8_restore_1.all fun q => decide (decode cX8_restore q.1 = .ok q.2)) = true := by decide +kernel
theorem dX8_restore_0 : decode cX8_restore 0 = .ok (.iload_n 1, 1) := tb_d tk_X8_restore_1 0 (0, .iload_n 1, 1) rfl
theorem dX8_restore_1 : decode cX8_restore 1 = .ok (.iconst 0, 1) := tb_d tk_X8_restore_1 1 (1, .iconst 0, 1) rfl
theorem dX8_restore_2 : decode cX8_restore 2 = .ok (.iconst 1, 1) := tb_d tk_X8_restore_1 2 (2, .iconst 1, 1) rfl
theorem dX8_restore_3 : decode cX8_restore 3 = .ok (.invokestatic 56, 3) := tb_d tk_X8_restore_1 3 (3, .invokestatic 56, 3) rfl
theorem dX8_restore_6 : decode cX8_restore 6 = .ok (.ifCond .ne 6, 3) := tb_d tk_X8_restore_1 4 (6, .ifCond .ne 6, 3) rfl
theorem dX8_restore_9 : decode cX8_restore 9 = .ok (.ldc 64, 2) := tb_d tk_X8_restore_1 5 (9, .ldc 64, 2) rfl
theorem dX8_restore_11 : decode cX8_restore 11 = .ok (.ireturn, 1) := tb_d tk_X8_restore_1 6 (11, .ireturn, 1) rfl
theorem dX8_restore_12 : decode cX8_restore 12 = .ok (.aload_n 0, 1) := tb_d tk_X8_restore_1 7 (12, .aload_n 0, 1) rfl
theorem dX8_restore_13 : decode cX8_restore 13 = .ok (.getfield 40, 3) := tb_d tk_X8_restore_1 8 (13, .getfield 40, 3) rfl
theorem dX8_restore_16 : decode cX8_restore 16 = .ok (.iload_n 1, 1) := tb_d tk_X8_restore_1 9 (16, .iload_n 1, 1) rfl
theorem dX8_restore_17 : decode cX8_restore 17 = .ok (.baload, 1) := tb_d tk_X8_restore_1 10 (17, .baload, 1) rfl
theorem dX8_restore_18 : decode cX8_restore 18 = .ok (.ifCond .ne 6, 3) := tb_d tk_X8_restore_1 11 (18, .ifCond .ne 6, 3) rfl
theorem dX8_restore_21 : decode cX8_restore 21 = .ok (.ldc 183, 2) := tb_d tk_X8_restore_1 12 (21, .ldc 183, 2) rfl
theorem dX8_restore_23 : decode cX8_restore 23 = .ok (.ireturn, 1) := tb_d tk_X8_restore_1 13 (23, .ireturn, 1) rfl
theorem dX8_restore_24 : decode cX8_restore 24 = .ok (.aload_n 0, 1) := tb_d tk_X8_restore_1 14 (24, .aload_n 0, 1) rfl
theorem dX8_restore_25 : decode cX8_restore 25 = .ok (.getfield 37, 3) := tb_d tk_X8_restore_1 15 (25, .getfield 37, 3) rfl
theorem dX8_restore_28 : decode cX8_restore 28 = .ok (.bipush 65, 2) := tb_d tk_X8_restore_1 16 (28, .bipush 65, 2) rfl
theorem dX8_restore_30 : decode cX8_restore 30 = .ok (.iload_n 1, 1) := tb_d tk_X8_restore_1 17 (30, .iload_n 1, 1) rfl
theorem dX8_restore_31 : decode cX8_restore 31 = .ok (.imul, 1) := tb_d tk_X8_restore_1 18 (31, .imul, 1) rfl
theorem dX8_restore_32 : decode cX8_restore 32 = .ok (.aload_n 0, 1) := tb_d tk_X8_restore_1 19 (32, .aload_n 0, 1) rfl
theorem dX8_restore_33 : decode cX8_restore 33 = .ok (.getfield 25, 3) := tb_d tk_X8_restore_1 20 (33, .getfield 25, 3) rfl
theorem dX8_restore_36 : decode cX8_restore 36 = .ok (.iconst 0, 1) := tb_d tk_X8_restore_1 21 (36, .iconst 0, 1) rfl
theorem dX8_restore_37 : decode cX8_restore 37 = .ok (.invokestatic 145, 3) := tb_d tk_X8_restore_1 22 (37, .invokestatic 145, 3) rfl
theorem dX8_restore_40 : decode cX8_restore 40 = .ok (.aload_n 0, 1) := tb_d tk_X8_restore_1 23 (40, .aload_n 0, 1) rfl
theorem dX8_restore_41 : decode cX8_restore 41 = .ok (.iconst 0, 1) := tb_d tk_X8_restore_1 24 (41, .iconst 0, 1) rfl
theorem dX8_restore_42 : decode cX8_restore 42 = .ok (.putfield 149, 3) := tb_d tk_X8_restore_1 25 (42, .putfield 149, 3) rfl
theorem dX8_restore_45 : decode cX8_restore 45 = .ok (.iconst 1, 1) := tb_d tk_X8_restore_1 26 (45, .iconst 1, 1) rfl
theorem dX8_restore_46 : decode cX8_restore 46 = .ok (.ireturn, 1) := tb_d tk_X8_restore_1 27 (46, .ireturn, 1) rfl
theorem ggX8_kind_X8_isGuard : GoodIn wsX8_kind wsX8_isGuard := fun w h => ⟨List.mem_cons_of_mem _ (List.mem_append_right _ (List.mem_append_right _ (List.mem_append_right _ (List.mem_append_right _ (List.mem_append_left _ h))))), good_of_word (gdX8_isGuard w h)⟩
set_option maxRecDepth 20000 in
theorem gX8_kind_X8_isGuard : GoodIn wsX8_kind (wsV RX8 199 RX8 yX8_isGuard wsX8_isGuard) := goodIn_app (a := bkV RX8 199 RX8 yX8_isGuard) (fun w h => ⟨List.mem_cons_of_mem _ (List.mem_append_right _ (List.mem_append_left _ h)), good_of_word (gd_bV _ _ _ _ w h)⟩) ggX8_kind_X8_isGuard
theorem ggX8_kind_X8_kindIn : GoodIn wsX8_kind wsX8_kindIn := fun w h => ⟨List.mem_cons_of_mem _ (List.mem_append_right _ (List.mem_append_right _ (List.mem_append_right _ (List.mem_append_right _ (List.mem_append_right _ (List.mem_append_left _ h)))))), good_of_word (gdX8_kindIn w h)⟩
set_option maxRecDepth 20000 in
theorem gX8_kind_X8_kindIn : GoodIn wsX8_kind (wsV RX8 165 RX8 yX8_kindIn wsX8_kindIn) := goodIn_app (a := bkV RX8 165 RX8 yX8_kindIn) (fun w h => ⟨List.mem_cons_of_mem _ (List.mem_append_right _ (List.mem_append_right _ (List.mem_append_left _ h))), good_of_word (gd_bV _ _ _ _ w h)⟩) ggX8_kind_X8_kindIn
def tb_X8_kind_1 : List (Nat × Instr × Nat) := [(0, .aload_n 0, 1), (1, .iload_n 1, 1), (2, .invokevirtual 199, 3), (5, .ifCond .eq 11, 3), (8, .aload_n 0, 1), (9, .iload_n 1, 1), (10, .invokevirtual 165, 3), (13, .goto 5, 3), (16, .ldc 64, 2), (18, .ireturn, 1)]
set_option maxRecDepth 100000 in
theorem tk_X8_kind_1 : (tb_X8_kind_1.all fun q => decide (decode cX8_kind q.1 = .ok q.2)) = true := by decide +kernel
theorem dX8_kind_0 : decode cX8_kind 0 = .ok (.aload_n 0, 1) := tb_d tk_X8_kind_1 0 (0, .aload_n 0, 1) rfl
theorem dX8_kind_1 : decode cX8_kind 1 = .ok (.iload_n 1, 1) := tb_d tk_X8_kind_1 1 (1, .iload_n 1, 1) rfl
theorem dX8_kind_2 : decode cX8_kind 2 = .ok (.invokevirtual 199, 3) := tb_d tk_X8_kind_1 2 (2, .invokevirtual 199, 3) rfl
theorem dX8_kind_5 : decode cX8_kind 5 = .ok (.ifCond .eq 11, 3) := tb_d tk_X8_kind_1 3 (5, .ifCond .eq 11, 3) rfl
theorem dX8_kind_8 : decode cX8_kind 8 = .ok (.aload_n 0, 1) := tb_d tk_X8_kind_1 4 (8, .aload_n 0, 1) rfl
theorem dX8_kind_9 : decode cX8_kind 9 = .ok (.iload_n 1, 1) := tb_d tk_X8_kind_1 5 (9, .iload_n 1, 1) rfl
theorem dX8_kind_10 : decode cX8_kind 10 = .ok (.invokevirtual 165, 3) := tb_d tk_X8_kind_1 6 (10, .invokevirtual 165, 3) rfl
theorem dX8_kind_13 : decode cX8_kind 13 = .ok (.goto 5, 3) := tb_d tk_X8_kind_1 7 (13, .goto 5, 3) rfl
theorem dX8_kind_16 : decode cX8_kind 16 = .ok (.ldc 64, 2) := tb_d tk_X8_kind_1 8 (16, .ldc 64, 2) rfl
theorem dX8_kind_18 : decode cX8_kind 18 = .ok (.ireturn, 1) := tb_d tk_X8_kind_1 9 (18, .ireturn, 1) rfl
theorem ggX8_as_X8_isGuard : GoodIn wsX8_as wsX8_isGuard := fun w h => ⟨List.mem_cons_of_mem _ (List.mem_append_right _ (List.mem_append_right _ (List.mem_append_right _ (List.mem_append_right _ (List.mem_append_right _ (List.mem_append_right _ (List.mem_append_right _ (List.mem_append_left _ h)))))))), good_of_word (gdX8_isGuard w h)⟩
set_option maxRecDepth 20000 in
theorem gX8_as_X8_isGuard : GoodIn wsX8_as (wsV RX8 199 RX8 yX8_isGuard wsX8_isGuard) := goodIn_app (a := bkV RX8 199 RX8 yX8_isGuard) (fun w h => ⟨List.mem_cons_of_mem _ (List.mem_append_right _ (List.mem_append_left _ h)), good_of_word (gd_bV _ _ _ _ w h)⟩) ggX8_as_X8_isGuard
theorem ggX8_as_X8_in : GoodIn wsX8_as wsX8_in := fun w h => ⟨List.mem_cons_of_mem _ (List.mem_append_right _ (List.mem_append_right _ (List.mem_append_right _ (List.mem_append_right _ (List.mem_append_right _ (List.mem_append_right _ (List.mem_append_right _ (List.mem_append_right _ (List.mem_append_left _ h))))))))), good_of_word (gdX8_in w h)⟩
set_option maxRecDepth 20000 in
theorem gX8_as_X8_in : GoodIn wsX8_as (va_wsS RX8 56 yX8_in wsX8_in) := goodIn_app (a := bkS RX8 56 yX8_in) (fun w h => ⟨List.mem_cons_of_mem _ (List.mem_append_right _ (List.mem_append_right _ (List.mem_append_left _ h))), good_of_word (gd_bS _ _ _ w h)⟩) ggX8_as_X8_in
theorem ggX8_as_X8_kindIn : GoodIn wsX8_as wsX8_kindIn := fun w h => ⟨List.mem_cons_of_mem _ (List.mem_append_right _ (List.mem_append_right _ (List.mem_append_right _ (List.mem_append_right _ (List.mem_append_right _ (List.mem_append_right _ (List.mem_append_right _ (List.mem_append_right _ (List.mem_append_right _ (List.mem_append_left _ h)))))))))), good_of_word (gdX8_kindIn w h)⟩
set_option maxRecDepth 20000 in
theorem gX8_as_X8_kindIn : GoodIn wsX8_as (wsV RX8 165 RX8 yX8_kindIn wsX8_kindIn) := goodIn_app (a := bkV RX8 165 RX8 yX8_kindIn) (fun w h => ⟨List.mem_cons_of_mem _ (List.mem_append_right _ (List.mem_append_right _ (List.mem_append_right _ (List.mem_append_left _ h)))), good_of_word (gd_bV _ _ _ _ w h)⟩) ggX8_as_X8_kindIn
theorem ggX8_as_X8_well : GoodIn wsX8_as wsX8_well := fun w h => ⟨List.mem_cons_of_mem _ (List.mem_append_right _ (List.mem_append_right _ (List.mem_append_right _ (List.mem_append_right _ (List.mem_append_right _ (List.mem_append_right _ (List.mem_append_right _ (List.mem_append_right _ (List.mem_append_right _ (List.mem_append_right _ (List.mem_append_left _ h))))))))))), good_of_word (gdX8_well w h)⟩
set_option maxRecDepth 20000 in
theorem gX8_as_X8_well : GoodIn wsX8_as (wsV RX8 69 RX8 yX8_well wsX8_well) := goodIn_app (a := bkV RX8 69 RX8 yX8_well) (fun w h => ⟨List.mem_cons_of_mem _ (List.mem_append_right _ (List.mem_append_right _ (List.mem_append_right _ (List.mem_append_right _ (List.mem_append_left _ h))))), good_of_word (gd_bV _ _ _ _ w h)⟩) ggX8_as_X8_well
theorem ggX8_as_X8_found : GoodIn wsX8_as wsX8_found := fun w h => ⟨List.mem_cons_of_mem _ (List.mem_append_right _ (List.mem_append_right _ (List.mem_append_right _ (List.mem_append_right _ (List.mem_append_right _ (List.mem_append_right _ (List.mem_append_right _ (List.mem_append_right _ (List.mem_append_right _ (List.mem_append_right _ (List.mem_append_right _ (List.mem_append_left _ h)))))))))))), good_of_word (gdX8_found w h)⟩
set_option maxRecDepth 20000 in
theorem gX8_as_X8_found : GoodIn wsX8_as (wsV RX8 65 RX8 yX8_found wsX8_found) := goodIn_app (a := bkV RX8 65 RX8 yX8_found) (fun w h => ⟨List.mem_cons_of_mem _ (List.mem_append_right _ (List.mem_append_right _ (List.mem_append_right _ (List.mem_append_right _ (List.mem_append_right _ (List.mem_append_left _ h)))))), good_of_word (gd_bV _ _ _ _ w h)⟩) ggX8_as_X8_found
def tb_X8_as_1 : List (Nat × Instr × Nat) := [(0, .aload_n 0, 1), (1, .iload_n 1, 1), (2, .invokevirtual 199, 3), (5, .ifCond .eq 12, 3), (8, .iload_n 2, 1), (9, .iconst 0, 1), (10, .iconst 5, 1), (11, .invokestatic 56, 3), (14, .ifCond .ne 6, 3), (17, .ldc 64, 2), (19, .ireturn, 1), (20, .aload_n 0, 1), (21, .iload_n 1, 1), (22, .invokevirtual 165, 3), (25, .istore_n 3, 1), (26, .iload_n 2, 1), (27, .ifCond .eq 28, 3), (30, .iload_n 2, 1), (31, .iload_n 3, 1), (32, .if_icmp .eq 23, 3), (35, .iload_n 2, 1), (36, .iconst 1, 1), (37, .if_icmp .ne 8, 3), (40, .iload_n 3, 1), (41, .iconst 4, 1), (42, .if_icmp .lt 13, 3), (45, .iload_n 2, 1), (46, .iconst 4, 1), (47, .if_icmp .ne 12, 3), (50, .iload_n 3, 1), (51, .iconst 5, 1), (52, .if_icmp .ne 7, 3), (55, .iconst 1, 1), (56, .goto 4, 3), (59, .iconst 0, 1), (60, .istore 4, 2), (62, .iload 4, 2), (64, .ifCond .eq 11, 3), (67, .aload_n 0, 1), (68, .iload_n 1, 1)]
set_option maxRecDepth 100000 in
theorem tk_X8_as_1 : (tb_X8_as_1.all fun q => decide (decode cX8_as q.1 = .ok q.2)) = true := by decide +kernel
theorem dX8_as_0 : decode cX8_as 0 = .ok (.aload_n 0, 1) := tb_d tk_X8_as_1 0 (0, .aload_n 0, 1) rfl
theorem dX8_as_1 : decode cX8_as 1 = .ok (.iload_n 1, 1) := tb_d tk_X8_as_1 1 (1, .iload_n 1, 1) rfl
theorem dX8_as_2 : decode cX8_as 2 = .ok (.invokevirtual 199, 3) := tb_d tk_X8_as_1 2 (2, .invokevirtual 199, 3) rfl
theorem dX8_as_5 : decode cX8_as 5 = .ok (.ifCond .eq 12, 3) := tb_d tk_X8_as_1 3 (5, .ifCond .eq 12, 3) rfl
theorem dX8_as_8 : decode cX8_as 8 = .ok (.iload_n 2, 1) := tb_d tk_X8_as_1 4 (8, .iload_n 2, 1) rfl
theorem dX8_as_9 : decode cX8_as 9 = .ok (.iconst 0, 1) := tb_d tk_X8_as_1 5 (9, .iconst 0, 1) rfl
theorem dX8_as_10 : decode cX8_as 10 = .ok (.iconst 5, 1) := tb_d tk_X8_as_1 6 (10, .iconst 5, 1) rfl
theorem dX8_as_11 : decode cX8_as 11 = .ok (.invokestatic 56, 3) := tb_d tk_X8_as_1 7 (11, .invokestatic 56, 3) rfl
theorem dX8_as_14 : decode cX8_as 14 = .ok (.ifCond .ne 6, 3) := tb_d tk_X8_as_1 8 (14, .ifCond .ne 6, 3) rfl
theorem dX8_as_17 : decode cX8_as 17 = .ok (.ldc 64, 2) := tb_d tk_X8_as_1 9 (17, .ldc 64, 2) rfl
theorem dX8_as_19 : decode cX8_as 19 = .ok (.ireturn, 1) := tb_d tk_X8_as_1 10 (19, .ireturn, 1) rfl
theorem dX8_as_20 : decode cX8_as 20 = .ok (.aload_n 0, 1) := tb_d tk_X8_as_1 11 (20, .aload_n 0, 1) rfl
theorem dX8_as_21 : decode cX8_as 21 = .ok (.iload_n 1, 1) := tb_d tk_X8_as_1 12 (21, .iload_n 1, 1) rfl
theorem dX8_as_22 : decode cX8_as 22 = .ok (.invokevirtual 165, 3) := tb_d tk_X8_as_1 13 (22, .invokevirtual 165, 3) rfl
theorem dX8_as_25 : decode cX8_as 25 = .ok (.istore_n 3, 1) := tb_d tk_X8_as_1 14 (25, .istore_n 3, 1) rfl
theorem dX8_as_26 : decode cX8_as 26 = .ok (.iload_n 2, 1) := tb_d tk_X8_as_1 15 (26, .iload_n 2, 1) rfl
theorem dX8_as_27 : decode cX8_as 27 = .ok (.ifCond .eq 28, 3) := tb_d tk_X8_as_1 16 (27, .ifCond .eq 28, 3) rfl
theorem dX8_as_30 : decode cX8_as 30 = .ok (.iload_n 2, 1) := tb_d tk_X8_as_1 17 (30, .iload_n 2, 1) rfl
theorem dX8_as_31 : decode cX8_as 31 = .ok (.iload_n 3, 1) := tb_d tk_X8_as_1 18 (31, .iload_n 3, 1) rfl
theorem dX8_as_32 : decode cX8_as 32 = .ok (.if_icmp .eq 23, 3) := tb_d tk_X8_as_1 19 (32, .if_icmp .eq 23, 3) rfl
theorem dX8_as_35 : decode cX8_as 35 = .ok (.iload_n 2, 1) := tb_d tk_X8_as_1 20 (35, .iload_n 2, 1) rfl
theorem dX8_as_36 : decode cX8_as 36 = .ok (.iconst 1, 1) := tb_d tk_X8_as_1 21 (36, .iconst 1, 1) rfl
theorem dX8_as_37 : decode cX8_as 37 = .ok (.if_icmp .ne 8, 3) := tb_d tk_X8_as_1 22 (37, .if_icmp .ne 8, 3) rfl
theorem dX8_as_40 : decode cX8_as 40 = .ok (.iload_n 3, 1) := tb_d tk_X8_as_1 23 (40, .iload_n 3, 1) rfl
theorem dX8_as_41 : decode cX8_as 41 = .ok (.iconst 4, 1) := tb_d tk_X8_as_1 24 (41, .iconst 4, 1) rfl
theorem dX8_as_42 : decode cX8_as 42 = .ok (.if_icmp .lt 13, 3) := tb_d tk_X8_as_1 25 (42, .if_icmp .lt 13, 3) rfl
theorem dX8_as_45 : decode cX8_as 45 = .ok (.iload_n 2, 1) := tb_d tk_X8_as_1 26 (45, .iload_n 2, 1) rfl
theorem dX8_as_46 : decode cX8_as 46 = .ok (.iconst 4, 1) := tb_d tk_X8_as_1 27 (46, .iconst 4, 1) rfl
theorem dX8_as_47 : decode cX8_as 47 = .ok (.if_icmp .ne 12, 3) := tb_d tk_X8_as_1 28 (47, .if_icmp .ne 12, 3) rfl
theorem dX8_as_50 : decode cX8_as 50 = .ok (.iload_n 3, 1) := tb_d tk_X8_as_1 29 (50, .iload_n 3, 1) rfl
theorem dX8_as_51 : decode cX8_as 51 = .ok (.iconst 5, 1) := tb_d tk_X8_as_1 30 (51, .iconst 5, 1) rfl
theorem dX8_as_52 : decode cX8_as 52 = .ok (.if_icmp .ne 7, 3) := tb_d tk_X8_as_1 31 (52, .if_icmp .ne 7, 3) rfl
theorem dX8_as_55 : decode cX8_as 55 = .ok (.iconst 1, 1) := tb_d tk_X8_as_1 32 (55, .iconst 1, 1) rfl
theorem dX8_as_56 : decode cX8_as 56 = .ok (.goto 4, 3) := tb_d tk_X8_as_1 33 (56, .goto 4, 3) rfl
theorem dX8_as_59 : decode cX8_as 59 = .ok (.iconst 0, 1) := tb_d tk_X8_as_1 34 (59, .iconst 0, 1) rfl
theorem dX8_as_60 : decode cX8_as 60 = .ok (.istore 4, 2) := tb_d tk_X8_as_1 35 (60, .istore 4, 2) rfl
theorem dX8_as_62 : decode cX8_as 62 = .ok (.iload 4, 2) := tb_d tk_X8_as_1 36 (62, .iload 4, 2) rfl
theorem dX8_as_64 : decode cX8_as 64 = .ok (.ifCond .eq 11, 3) := tb_d tk_X8_as_1 37 (64, .ifCond .eq 11, 3) rfl
theorem dX8_as_67 : decode cX8_as 67 = .ok (.aload_n 0, 1) := tb_d tk_X8_as_1 38 (67, .aload_n 0, 1) rfl
theorem dX8_as_68 : decode cX8_as 68 = .ok (.iload_n 1, 1) := tb_d tk_X8_as_1 39 (68, .iload_n 1, 1) rfl
def tb_X8_as_2 : List (Nat × Instr × Nat) := [(69, .invokevirtual 69, 3), (72, .goto 8, 3), (75, .aload_n 0, 1), (76, .iconst 3, 1), (77, .invokevirtual 65, 3), (80, .ireturn, 1)]
set_option maxRecDepth 100000 in
theorem tk_X8_as_2 : (tb_X8_as_2.all fun q => decide (decode cX8_as q.1 = .ok q.2)) = true := by decide +kernel
theorem dX8_as_69 : decode cX8_as 69 = .ok (.invokevirtual 69, 3) := tb_d tk_X8_as_2 0 (69, .invokevirtual 69, 3) rfl
theorem dX8_as_72 : decode cX8_as 72 = .ok (.goto 8, 3) := tb_d tk_X8_as_2 1 (72, .goto 8, 3) rfl
theorem dX8_as_75 : decode cX8_as 75 = .ok (.aload_n 0, 1) := tb_d tk_X8_as_2 2 (75, .aload_n 0, 1) rfl
theorem dX8_as_76 : decode cX8_as 76 = .ok (.iconst 3, 1) := tb_d tk_X8_as_2 3 (76, .iconst 3, 1) rfl
theorem dX8_as_77 : decode cX8_as 77 = .ok (.invokevirtual 65, 3) := tb_d tk_X8_as_2 4 (77, .invokevirtual 65, 3) rfl
theorem dX8_as_80 : decode cX8_as 80 = .ok (.ireturn, 1) := tb_d tk_X8_as_2 5 (80, .ireturn, 1) rfl
def tb_X8_begins_1 : List (Nat × Instr × Nat) := [(0, .aload_n 0, 1), (1, .getfield 237, 3), (4, .bipush 16, 2), (6, .if_icmp .ge 23, 3), (9, .aload_n 0, 1), (10, .getfield 47, 3), (13, .aload_n 0, 1), (14, .getfield 237, 3), (17, .iload_n 1, 1), (18, .iastore, 1), (19, .aload_n 0, 1), (20, .dup, 1), (21, .getfield 237, 3), (24, .iconst 1, 1), (25, .iadd, 1), (26, .putfield 237, 3), (29, .return_, 1)]
set_option maxRecDepth 100000 in
theorem tk_X8_begins_1 : (tb_X8_begins_1.all fun q => decide (decode cX8_begins q.1 = .ok q.2)) = true := by decide +kernel
theorem dX8_begins_0 : decode cX8_begins 0 = .ok (.aload_n 0, 1) := tb_d tk_X8_begins_1 0 (0, .aload_n 0, 1) rfl
theorem dX8_begins_1 : decode cX8_begins 1 = .ok (.getfield 237, 3) := tb_d tk_X8_begins_1 1 (1, .getfield 237, 3) rfl
theorem dX8_begins_4 : decode cX8_begins 4 = .ok (.bipush 16, 2) := tb_d tk_X8_begins_1 2 (4, .bipush 16, 2) rfl
theorem dX8_begins_6 : decode cX8_begins 6 = .ok (.if_icmp .ge 23, 3) := tb_d tk_X8_begins_1 3 (6, .if_icmp .ge 23, 3) rfl
theorem dX8_begins_9 : decode cX8_begins 9 = .ok (.aload_n 0, 1) := tb_d tk_X8_begins_1 4 (9, .aload_n 0, 1) rfl
theorem dX8_begins_10 : decode cX8_begins 10 = .ok (.getfield 47, 3) := tb_d tk_X8_begins_1 5 (10, .getfield 47, 3) rfl
theorem dX8_begins_13 : decode cX8_begins 13 = .ok (.aload_n 0, 1) := tb_d tk_X8_begins_1 6 (13, .aload_n 0, 1) rfl
theorem dX8_begins_14 : decode cX8_begins 14 = .ok (.getfield 237, 3) := tb_d tk_X8_begins_1 7 (14, .getfield 237, 3) rfl
theorem dX8_begins_17 : decode cX8_begins 17 = .ok (.iload_n 1, 1) := tb_d tk_X8_begins_1 8 (17, .iload_n 1, 1) rfl
theorem dX8_begins_18 : decode cX8_begins 18 = .ok (.iastore, 1) := tb_d tk_X8_begins_1 9 (18, .iastore, 1) rfl
theorem dX8_begins_19 : decode cX8_begins 19 = .ok (.aload_n 0, 1) := tb_d tk_X8_begins_1 10 (19, .aload_n 0, 1) rfl
theorem dX8_begins_20 : decode cX8_begins 20 = .ok (.dup, 1) := tb_d tk_X8_begins_1 11 (20, .dup, 1) rfl
theorem dX8_begins_21 : decode cX8_begins 21 = .ok (.getfield 237, 3) := tb_d tk_X8_begins_1 12 (21, .getfield 237, 3) rfl
theorem dX8_begins_24 : decode cX8_begins 24 = .ok (.iconst 1, 1) := tb_d tk_X8_begins_1 13 (24, .iconst 1, 1) rfl
theorem dX8_begins_25 : decode cX8_begins 25 = .ok (.iadd, 1) := tb_d tk_X8_begins_1 14 (25, .iadd, 1) rfl
theorem dX8_begins_26 : decode cX8_begins 26 = .ok (.putfield 237, 3) := tb_d tk_X8_begins_1 15 (26, .putfield 237, 3) rfl
theorem dX8_begins_29 : decode cX8_begins 29 = .ok (.return_, 1) := tb_d tk_X8_begins_1 16 (29, .return_, 1) rfl
theorem ggX8_keenMark_X8_kindIn : GoodIn wsX8_keenMark wsX8_kindIn := fun w h => ⟨List.mem_cons_of_mem _ (List.mem_append_right _ (List.mem_append_right _ (List.mem_append_right _ (List.mem_append_right _ (List.mem_append_left _ h))))), good_of_word (gdX8_kindIn w h)⟩
set_option maxRecDepth 20000 in
theorem gX8_keenMark_X8_kindIn : GoodIn wsX8_keenMark (wsV RX8 165 RX8 yX8_kindIn wsX8_kindIn) := goodIn_app (a := bkV RX8 165 RX8 yX8_kindIn) (fun w h => ⟨List.mem_cons_of_mem _ (List.mem_append_right _ (List.mem_append_left _ h)), good_of_word (gd_bV _ _ _ _ w h)⟩) ggX8_keenMark_X8_kindIn
theorem ggX8_keenMark_X8_begins : GoodIn wsX8_keenMark wsX8_begins := fun w h => ⟨List.mem_cons_of_mem _ (List.mem_append_right _ (List.mem_append_right _ (List.mem_append_right _ (List.mem_append_right _ (List.mem_append_right _ (List.mem_append_left _ h)))))), good_of_word (gdX8_begins w h)⟩
set_option maxRecDepth 20000 in
theorem gX8_keenMark_X8_begins : GoodIn wsX8_keenMark (wsV RX8 240 RX8 yX8_begins wsX8_begins) := goodIn_app (a := bkV RX8 240 RX8 yX8_begins) (fun w h => ⟨List.mem_cons_of_mem _ (List.mem_append_right _ (List.mem_append_right _ (List.mem_append_left _ h))), good_of_word (gd_bV _ _ _ _ w h)⟩) ggX8_keenMark_X8_begins
def tb_X8_keenMark_1 : List (Nat × Instr × Nat) := [(0, .aload_n 0, 1), (1, .iload_n 1, 1), (2, .invokevirtual 165, 3), (5, .istore_n 2, 1), (6, .iload_n 2, 1), (7, .iconst 1, 1), (8, .if_icmp .eq 19, 3), (11, .aload_n 0, 1), (12, .iload_n 2, 1), (13, .iconst 2, 1), (14, .if_icmp .ne 8, 3), (17, .bipush 24, 2), (19, .goto 5, 3), (22, .bipush 22, 2), (24, .invokevirtual 240, 3), (27, .aload_n 0, 1), (28, .bipush 21, 2), (30, .invokevirtual 240, 3), (33, .aload_n 0, 1), (34, .bipush 20, 2), (36, .invokevirtual 240, 3), (39, .iload_n 1, 1), (40, .aload_n 0, 1), (41, .getfield 25, 3), (44, .bipush 26, 2), (46, .iconst 3, 1), (47, .iload_n 1, 1), (48, .imul, 1), (49, .iadd, 1), (50, .iconst 2, 1), (51, .iadd, 1), (52, .iaload, 1), (53, .iadd, 1), (54, .istore_n 3, 1), (55, .iload_n 2, 1), (56, .iconst 2, 1), (57, .if_icmp .ne 9, 3), (60, .iconst 2, 1), (61, .iload_n 3, 1), (62, .imul, 1)]
set_option maxRecDepth 100000 in
theorem tk_X8_keenMark_1 : (tb_X8_keenMark_1.all fun q => decide (decode cX8_keenMark q.1 = .ok q.2)) = true := by decide +kernel
theorem dX8_keenMark_0 : decode cX8_keenMark 0 = .ok (.aload_n 0, 1) := tb_d tk_X8_keenMark_1 0 (0, .aload_n 0, 1) rfl
theorem dX8_keenMark_1 : decode cX8_keenMark 1 = .ok (.iload_n 1, 1) := tb_d tk_X8_keenMark_1 1 (1, .iload_n 1, 1) rfl
theorem dX8_keenMark_2 : decode cX8_keenMark 2 = .ok (.invokevirtual 165, 3) := tb_d tk_X8_keenMark_1 2 (2, .invokevirtual 165, 3) rfl
theorem dX8_keenMark_5 : decode cX8_keenMark 5 = .ok (.istore_n 2, 1) := tb_d tk_X8_keenMark_1 3 (5, .istore_n 2, 1) rfl
theorem dX8_keenMark_6 : decode cX8_keenMark 6 = .ok (.iload_n 2, 1) := tb_d tk_X8_keenMark_1 4 (6, .iload_n 2, 1) rfl
theorem dX8_keenMark_7 : decode cX8_keenMark 7 = .ok (.iconst 1, 1) := tb_d tk_X8_keenMark_1 5 (7, .iconst 1, 1) rfl
theorem dX8_keenMark_8 : decode cX8_keenMark 8 = .ok (.if_icmp .eq 19, 3) := tb_d tk_X8_keenMark_1 6 (8, .if_icmp .eq 19, 3) rfl
theorem dX8_keenMark_11 : decode cX8_keenMark 11 = .ok (.aload_n 0, 1) := tb_d tk_X8_keenMark_1 7 (11, .aload_n 0, 1) rfl
theorem dX8_keenMark_12 : decode cX8_keenMark 12 = .ok (.iload_n 2, 1) := tb_d tk_X8_keenMark_1 8 (12, .iload_n 2, 1) rfl
theorem dX8_keenMark_13 : decode cX8_keenMark 13 = .ok (.iconst 2, 1) := tb_d tk_X8_keenMark_1 9 (13, .iconst 2, 1) rfl
theorem dX8_keenMark_14 : decode cX8_keenMark 14 = .ok (.if_icmp .ne 8, 3) := tb_d tk_X8_keenMark_1 10 (14, .if_icmp .ne 8, 3) rfl
theorem dX8_keenMark_17 : decode cX8_keenMark 17 = .ok (.bipush 24, 2) := tb_d tk_X8_keenMark_1 11 (17, .bipush 24, 2) rfl
theorem dX8_keenMark_19 : decode cX8_keenMark 19 = .ok (.goto 5, 3) := tb_d tk_X8_keenMark_1 12 (19, .goto 5, 3) rfl
theorem dX8_keenMark_22 : decode cX8_keenMark 22 = .ok (.bipush 22, 2) := tb_d tk_X8_keenMark_1 13 (22, .bipush 22, 2) rfl
theorem dX8_keenMark_24 : decode cX8_keenMark 24 = .ok (.invokevirtual 240, 3) := tb_d tk_X8_keenMark_1 14 (24, .invokevirtual 240, 3) rfl
theorem dX8_keenMark_27 : decode cX8_keenMark 27 = .ok (.aload_n 0, 1) := tb_d tk_X8_keenMark_1 15 (27, .aload_n 0, 1) rfl
theorem dX8_keenMark_28 : decode cX8_keenMark 28 = .ok (.bipush 21, 2) := tb_d tk_X8_keenMark_1 16 (28, .bipush 21, 2) rfl
theorem dX8_keenMark_30 : decode cX8_keenMark 30 = .ok (.invokevirtual 240, 3) := tb_d tk_X8_keenMark_1 17 (30, .invokevirtual 240, 3) rfl
theorem dX8_keenMark_33 : decode cX8_keenMark 33 = .ok (.aload_n 0, 1) := tb_d tk_X8_keenMark_1 18 (33, .aload_n 0, 1) rfl
theorem dX8_keenMark_34 : decode cX8_keenMark 34 = .ok (.bipush 20, 2) := tb_d tk_X8_keenMark_1 19 (34, .bipush 20, 2) rfl
theorem dX8_keenMark_36 : decode cX8_keenMark 36 = .ok (.invokevirtual 240, 3) := tb_d tk_X8_keenMark_1 20 (36, .invokevirtual 240, 3) rfl
theorem dX8_keenMark_39 : decode cX8_keenMark 39 = .ok (.iload_n 1, 1) := tb_d tk_X8_keenMark_1 21 (39, .iload_n 1, 1) rfl
theorem dX8_keenMark_40 : decode cX8_keenMark 40 = .ok (.aload_n 0, 1) := tb_d tk_X8_keenMark_1 22 (40, .aload_n 0, 1) rfl
theorem dX8_keenMark_41 : decode cX8_keenMark 41 = .ok (.getfield 25, 3) := tb_d tk_X8_keenMark_1 23 (41, .getfield 25, 3) rfl
theorem dX8_keenMark_44 : decode cX8_keenMark 44 = .ok (.bipush 26, 2) := tb_d tk_X8_keenMark_1 24 (44, .bipush 26, 2) rfl
theorem dX8_keenMark_46 : decode cX8_keenMark 46 = .ok (.iconst 3, 1) := tb_d tk_X8_keenMark_1 25 (46, .iconst 3, 1) rfl
theorem dX8_keenMark_47 : decode cX8_keenMark 47 = .ok (.iload_n 1, 1) := tb_d tk_X8_keenMark_1 26 (47, .iload_n 1, 1) rfl
theorem dX8_keenMark_48 : decode cX8_keenMark 48 = .ok (.imul, 1) := tb_d tk_X8_keenMark_1 27 (48, .imul, 1) rfl
theorem dX8_keenMark_49 : decode cX8_keenMark 49 = .ok (.iadd, 1) := tb_d tk_X8_keenMark_1 28 (49, .iadd, 1) rfl
theorem dX8_keenMark_50 : decode cX8_keenMark 50 = .ok (.iconst 2, 1) := tb_d tk_X8_keenMark_1 29 (50, .iconst 2, 1) rfl
theorem dX8_keenMark_51 : decode cX8_keenMark 51 = .ok (.iadd, 1) := tb_d tk_X8_keenMark_1 30 (51, .iadd, 1) rfl
theorem dX8_keenMark_52 : decode cX8_keenMark 52 = .ok (.iaload, 1) := tb_d tk_X8_keenMark_1 31 (52, .iaload, 1) rfl
theorem dX8_keenMark_53 : decode cX8_keenMark 53 = .ok (.iadd, 1) := tb_d tk_X8_keenMark_1 32 (53, .iadd, 1) rfl
theorem dX8_keenMark_54 : decode cX8_keenMark 54 = .ok (.istore_n 3, 1) := tb_d tk_X8_keenMark_1 33 (54, .istore_n 3, 1) rfl
theorem dX8_keenMark_55 : decode cX8_keenMark 55 = .ok (.iload_n 2, 1) := tb_d tk_X8_keenMark_1 34 (55, .iload_n 2, 1) rfl
theorem dX8_keenMark_56 : decode cX8_keenMark 56 = .ok (.iconst 2, 1) := tb_d tk_X8_keenMark_1 35 (56, .iconst 2, 1) rfl
theorem dX8_keenMark_57 : decode cX8_keenMark 57 = .ok (.if_icmp .ne 9, 3) := tb_d tk_X8_keenMark_1 36 (57, .if_icmp .ne 9, 3) rfl
theorem dX8_keenMark_60 : decode cX8_keenMark 60 = .ok (.iconst 2, 1) := tb_d tk_X8_keenMark_1 37 (60, .iconst 2, 1) rfl
theorem dX8_keenMark_61 : decode cX8_keenMark 61 = .ok (.iload_n 3, 1) := tb_d tk_X8_keenMark_1 38 (61, .iload_n 3, 1) rfl
theorem dX8_keenMark_62 : decode cX8_keenMark 62 = .ok (.imul, 1) := tb_d tk_X8_keenMark_1 39 (62, .imul, 1) rfl
def tb_X8_keenMark_2 : List (Nat × Instr × Nat) := [(63, .goto 17, 3), (66, .iload_n 2, 1), (67, .iconst 3, 1), (68, .if_icmp .ne 11, 3), (71, .iload_n 3, 1), (72, .sipush 1000, 3), (75, .isub, 1), (76, .goto 4, 3), (79, .iload_n 3, 1), (80, .ireturn, 1)]
set_option maxRecDepth 100000 in
theorem tk_X8_keenMark_2 : (tb_X8_keenMark_2.all fun q => decide (decode cX8_keenMark q.1 = .ok q.2)) = true := by decide +kernel
theorem dX8_keenMark_63 : decode cX8_keenMark 63 = .ok (.goto 17, 3) := tb_d tk_X8_keenMark_2 0 (63, .goto 17, 3) rfl
theorem dX8_keenMark_66 : decode cX8_keenMark 66 = .ok (.iload_n 2, 1) := tb_d tk_X8_keenMark_2 1 (66, .iload_n 2, 1) rfl
theorem dX8_keenMark_67 : decode cX8_keenMark 67 = .ok (.iconst 3, 1) := tb_d tk_X8_keenMark_2 2 (67, .iconst 3, 1) rfl
theorem dX8_keenMark_68 : decode cX8_keenMark 68 = .ok (.if_icmp .ne 11, 3) := tb_d tk_X8_keenMark_2 3 (68, .if_icmp .ne 11, 3) rfl
theorem dX8_keenMark_71 : decode cX8_keenMark 71 = .ok (.iload_n 3, 1) := tb_d tk_X8_keenMark_2 4 (71, .iload_n 3, 1) rfl
theorem dX8_keenMark_72 : decode cX8_keenMark 72 = .ok (.sipush 1000, 3) := tb_d tk_X8_keenMark_2 5 (72, .sipush 1000, 3) rfl
theorem dX8_keenMark_75 : decode cX8_keenMark 75 = .ok (.isub, 1) := tb_d tk_X8_keenMark_2 6 (75, .isub, 1) rfl
theorem dX8_keenMark_76 : decode cX8_keenMark 76 = .ok (.goto 4, 3) := tb_d tk_X8_keenMark_2 7 (76, .goto 4, 3) rfl
theorem dX8_keenMark_79 : decode cX8_keenMark 79 = .ok (.iload_n 3, 1) := tb_d tk_X8_keenMark_2 8 (79, .iload_n 3, 1) rfl
theorem dX8_keenMark_80 : decode cX8_keenMark 80 = .ok (.ireturn, 1) := tb_d tk_X8_keenMark_2 9 (80, .ireturn, 1) rfl
theorem ggX8_deafSize_X8_kindIn : GoodIn wsX8_deafSize wsX8_kindIn := fun w h => ⟨List.mem_cons_of_mem _ (List.mem_append_right _ (List.mem_append_right _ (List.mem_append_right _ (List.mem_append_right _ (List.mem_append_left _ h))))), good_of_word (gdX8_kindIn w h)⟩
set_option maxRecDepth 20000 in
theorem gX8_deafSize_X8_kindIn : GoodIn wsX8_deafSize (wsV RX8 165 RX8 yX8_kindIn wsX8_kindIn) := goodIn_app (a := bkV RX8 165 RX8 yX8_kindIn) (fun w h => ⟨List.mem_cons_of_mem _ (List.mem_append_right _ (List.mem_append_left _ h)), good_of_word (gd_bV _ _ _ _ w h)⟩) ggX8_deafSize_X8_kindIn
theorem ggX8_deafSize_X8_begins : GoodIn wsX8_deafSize wsX8_begins := fun w h => ⟨List.mem_cons_of_mem _ (List.mem_append_right _ (List.mem_append_right _ (List.mem_append_right _ (List.mem_append_right _ (List.mem_append_right _ (List.mem_append_left _ h)))))), good_of_word (gdX8_begins w h)⟩
set_option maxRecDepth 20000 in
theorem gX8_deafSize_X8_begins : GoodIn wsX8_deafSize (wsV RX8 240 RX8 yX8_begins wsX8_begins) := goodIn_app (a := bkV RX8 240 RX8 yX8_begins) (fun w h => ⟨List.mem_cons_of_mem _ (List.mem_append_right _ (List.mem_append_right _ (List.mem_append_left _ h))), good_of_word (gd_bV _ _ _ _ w h)⟩) ggX8_deafSize_X8_begins
def tb_X8_deafSize_1 : List (Nat × Instr × Nat) := [(0, .aload_n 0, 1), (1, .iload_n 1, 1), (2, .invokevirtual 165, 3), (5, .iconst 5, 1), (6, .if_icmp .ne 7, 3), (9, .iconst 1, 1), (10, .goto 4, 3), (13, .iconst 0, 1), (14, .istore_n 2, 1), (15, .iload_n 2, 1), (16, .ifCond .eq 9, 3), (19, .aload_n 0, 1), (20, .bipush 14, 2), (22, .invokevirtual 240, 3), (25, .aload_n 0, 1), (26, .bipush 13, 2), (28, .invokevirtual 240, 3), (31, .aload_n 0, 1), (32, .bipush 10, 2), (34, .invokevirtual 240, 3), (37, .aload_n 0, 1), (38, .getfield 25, 3), (41, .bipush 26, 2), (43, .iconst 3, 1), (44, .iload_n 1, 1), (45, .imul, 1), (46, .iadd, 1), (47, .iconst 1, 1), (48, .iadd, 1), (49, .iaload, 1), (50, .bipush 100, 2), (52, .isub, 1), (53, .istore_n 3, 1), (54, .iload_n 2, 1), (55, .ifCond .eq 9, 3), (58, .iconst 2, 1), (59, .iload_n 3, 1), (60, .imul, 1), (61, .goto 4, 3), (64, .iload_n 3, 1)]
set_option maxRecDepth 100000 in
theorem tk_X8_deafSize_1 : (tb_X8_deafSize_1.all fun q => decide (decode cX8_deafSize q.1 = .ok q.2)) = true := by decide +kernel
theorem dX8_deafSize_0 : decode cX8_deafSize 0 = .ok (.aload_n 0, 1) := tb_d tk_X8_deafSize_1 0 (0, .aload_n 0, 1) rfl
theorem dX8_deafSize_1 : decode cX8_deafSize 1 = .ok (.iload_n 1, 1) := tb_d tk_X8_deafSize_1 1 (1, .iload_n 1, 1) rfl
theorem dX8_deafSize_2 : decode cX8_deafSize 2 = .ok (.invokevirtual 165, 3) := tb_d tk_X8_deafSize_1 2 (2, .invokevirtual 165, 3) rfl
theorem dX8_deafSize_5 : decode cX8_deafSize 5 = .ok (.iconst 5, 1) := tb_d tk_X8_deafSize_1 3 (5, .iconst 5, 1) rfl
theorem dX8_deafSize_6 : decode cX8_deafSize 6 = .ok (.if_icmp .ne 7, 3) := tb_d tk_X8_deafSize_1 4 (6, .if_icmp .ne 7, 3) rfl
theorem dX8_deafSize_9 : decode cX8_deafSize 9 = .ok (.iconst 1, 1) := tb_d tk_X8_deafSize_1 5 (9, .iconst 1, 1) rfl
theorem dX8_deafSize_10 : decode cX8_deafSize 10 = .ok (.goto 4, 3) := tb_d tk_X8_deafSize_1 6 (10, .goto 4, 3) rfl
theorem dX8_deafSize_13 : decode cX8_deafSize 13 = .ok (.iconst 0, 1) := tb_d tk_X8_deafSize_1 7 (13, .iconst 0, 1) rfl
theorem dX8_deafSize_14 : decode cX8_deafSize 14 = .ok (.istore_n 2, 1) := tb_d tk_X8_deafSize_1 8 (14, .istore_n 2, 1) rfl
theorem dX8_deafSize_15 : decode cX8_deafSize 15 = .ok (.iload_n 2, 1) := tb_d tk_X8_deafSize_1 9 (15, .iload_n 2, 1) rfl
theorem dX8_deafSize_16 : decode cX8_deafSize 16 = .ok (.ifCond .eq 9, 3) := tb_d tk_X8_deafSize_1 10 (16, .ifCond .eq 9, 3) rfl
theorem dX8_deafSize_19 : decode cX8_deafSize 19 = .ok (.aload_n 0, 1) := tb_d tk_X8_deafSize_1 11 (19, .aload_n 0, 1) rfl
theorem dX8_deafSize_20 : decode cX8_deafSize 20 = .ok (.bipush 14, 2) := tb_d tk_X8_deafSize_1 12 (20, .bipush 14, 2) rfl
theorem dX8_deafSize_22 : decode cX8_deafSize 22 = .ok (.invokevirtual 240, 3) := tb_d tk_X8_deafSize_1 13 (22, .invokevirtual 240, 3) rfl
theorem dX8_deafSize_25 : decode cX8_deafSize 25 = .ok (.aload_n 0, 1) := tb_d tk_X8_deafSize_1 14 (25, .aload_n 0, 1) rfl
theorem dX8_deafSize_26 : decode cX8_deafSize 26 = .ok (.bipush 13, 2) := tb_d tk_X8_deafSize_1 15 (26, .bipush 13, 2) rfl
theorem dX8_deafSize_28 : decode cX8_deafSize 28 = .ok (.invokevirtual 240, 3) := tb_d tk_X8_deafSize_1 16 (28, .invokevirtual 240, 3) rfl
theorem dX8_deafSize_31 : decode cX8_deafSize 31 = .ok (.aload_n 0, 1) := tb_d tk_X8_deafSize_1 17 (31, .aload_n 0, 1) rfl
theorem dX8_deafSize_32 : decode cX8_deafSize 32 = .ok (.bipush 10, 2) := tb_d tk_X8_deafSize_1 18 (32, .bipush 10, 2) rfl
theorem dX8_deafSize_34 : decode cX8_deafSize 34 = .ok (.invokevirtual 240, 3) := tb_d tk_X8_deafSize_1 19 (34, .invokevirtual 240, 3) rfl
theorem dX8_deafSize_37 : decode cX8_deafSize 37 = .ok (.aload_n 0, 1) := tb_d tk_X8_deafSize_1 20 (37, .aload_n 0, 1) rfl
theorem dX8_deafSize_38 : decode cX8_deafSize 38 = .ok (.getfield 25, 3) := tb_d tk_X8_deafSize_1 21 (38, .getfield 25, 3) rfl
theorem dX8_deafSize_41 : decode cX8_deafSize 41 = .ok (.bipush 26, 2) := tb_d tk_X8_deafSize_1 22 (41, .bipush 26, 2) rfl
theorem dX8_deafSize_43 : decode cX8_deafSize 43 = .ok (.iconst 3, 1) := tb_d tk_X8_deafSize_1 23 (43, .iconst 3, 1) rfl
theorem dX8_deafSize_44 : decode cX8_deafSize 44 = .ok (.iload_n 1, 1) := tb_d tk_X8_deafSize_1 24 (44, .iload_n 1, 1) rfl
theorem dX8_deafSize_45 : decode cX8_deafSize 45 = .ok (.imul, 1) := tb_d tk_X8_deafSize_1 25 (45, .imul, 1) rfl
theorem dX8_deafSize_46 : decode cX8_deafSize 46 = .ok (.iadd, 1) := tb_d tk_X8_deafSize_1 26 (46, .iadd, 1) rfl
theorem dX8_deafSize_47 : decode cX8_deafSize 47 = .ok (.iconst 1, 1) := tb_d tk_X8_deafSize_1 27 (47, .iconst 1, 1) rfl
theorem dX8_deafSize_48 : decode cX8_deafSize 48 = .ok (.iadd, 1) := tb_d tk_X8_deafSize_1 28 (48, .iadd, 1) rfl
theorem dX8_deafSize_49 : decode cX8_deafSize 49 = .ok (.iaload, 1) := tb_d tk_X8_deafSize_1 29 (49, .iaload, 1) rfl
theorem dX8_deafSize_50 : decode cX8_deafSize 50 = .ok (.bipush 100, 2) := tb_d tk_X8_deafSize_1 30 (50, .bipush 100, 2) rfl
theorem dX8_deafSize_52 : decode cX8_deafSize 52 = .ok (.isub, 1) := tb_d tk_X8_deafSize_1 31 (52, .isub, 1) rfl
theorem dX8_deafSize_53 : decode cX8_deafSize 53 = .ok (.istore_n 3, 1) := tb_d tk_X8_deafSize_1 32 (53, .istore_n 3, 1) rfl
theorem dX8_deafSize_54 : decode cX8_deafSize 54 = .ok (.iload_n 2, 1) := tb_d tk_X8_deafSize_1 33 (54, .iload_n 2, 1) rfl
theorem dX8_deafSize_55 : decode cX8_deafSize 55 = .ok (.ifCond .eq 9, 3) := tb_d tk_X8_deafSize_1 34 (55, .ifCond .eq 9, 3) rfl
theorem dX8_deafSize_58 : decode cX8_deafSize 58 = .ok (.iconst 2, 1) := tb_d tk_X8_deafSize_1 35 (58, .iconst 2, 1) rfl
theorem dX8_deafSize_59 : decode cX8_deafSize 59 = .ok (.iload_n 3, 1) := tb_d tk_X8_deafSize_1 36 (59, .iload_n 3, 1) rfl
theorem dX8_deafSize_60 : decode cX8_deafSize 60 = .ok (.imul, 1) := tb_d tk_X8_deafSize_1 37 (60, .imul, 1) rfl
theorem dX8_deafSize_61 : decode cX8_deafSize 61 = .ok (.goto 4, 3) := tb_d tk_X8_deafSize_1 38 (61, .goto 4, 3) rfl
theorem dX8_deafSize_64 : decode cX8_deafSize 64 = .ok (.iload_n 3, 1) := tb_d tk_X8_deafSize_1 39 (64, .iload_n 3, 1) rfl
def tb_X8_deafSize_2 : List (Nat × Instr × Nat) := [(65, .ireturn, 1)]
set_option maxRecDepth 100000 in
theorem tk_X8_deafSize_2 : (tb_X8_deafSize_2.all fun q => decide (decode cX8_deafSize q.1 = .ok q.2)) = true := by decide +kernel
theorem dX8_deafSize_65 : decode cX8_deafSize 65 = .ok (.ireturn, 1) := tb_d tk_X8_deafSize_2 0 (65, .ireturn, 1) rfl
theorem ggX8_keenSize_X8_kindIn : GoodIn wsX8_keenSize wsX8_kindIn := fun w h => ⟨List.mem_cons_of_mem _ (List.mem_append_right _ (List.mem_append_right _ (List.mem_append_right _ (List.mem_append_right _ (List.mem_append_right _ (List.mem_append_left _ h)))))), good_of_word (gdX8_kindIn w h)⟩
set_option maxRecDepth 20000 in
theorem gX8_keenSize_X8_kindIn : GoodIn wsX8_keenSize (wsV RX8 165 RX8 yX8_kindIn wsX8_kindIn) := goodIn_app (a := bkV RX8 165 RX8 yX8_kindIn) (fun w h => ⟨List.mem_cons_of_mem _ (List.mem_append_right _ (List.mem_append_left _ h)), good_of_word (gd_bV _ _ _ _ w h)⟩) ggX8_keenSize_X8_kindIn
theorem ggX8_keenSize_X8_begins : GoodIn wsX8_keenSize wsX8_begins := fun w h => ⟨List.mem_cons_of_mem _ (List.mem_append_right _ (List.mem_append_right _ (List.mem_append_right _ (List.mem_append_right _ (List.mem_append_right _ (List.mem_append_right _ (List.mem_append_left _ h))))))), good_of_word (gdX8_begins w h)⟩
set_option maxRecDepth 20000 in
theorem gX8_keenSize_X8_begins : GoodIn wsX8_keenSize (wsV RX8 240 RX8 yX8_begins wsX8_begins) := goodIn_app (a := bkV RX8 240 RX8 yX8_begins) (fun w h => ⟨List.mem_cons_of_mem _ (List.mem_append_right _ (List.mem_append_right _ (List.mem_append_left _ h))), good_of_word (gd_bV _ _ _ _ w h)⟩) ggX8_keenSize_X8_begins
theorem ggX8_keenSize_X8_keenMark : GoodIn wsX8_keenSize wsX8_keenMark := fun w h => ⟨List.mem_cons_of_mem _ (List.mem_append_right _ (List.mem_append_right _ (List.mem_append_right _ (List.mem_append_right _ (List.mem_append_right _ (List.mem_append_right _ (List.mem_append_right _ (List.mem_append_left _ h)))))))), good_of_word (gdX8_keenMark w h)⟩
set_option maxRecDepth 20000 in
theorem gX8_keenSize_X8_keenMark : GoodIn wsX8_keenSize (wsV RX8 244 RX8 yX8_keenMark wsX8_keenMark) := goodIn_app (a := bkV RX8 244 RX8 yX8_keenMark) (fun w h => ⟨List.mem_cons_of_mem _ (List.mem_append_right _ (List.mem_append_right _ (List.mem_append_right _ (List.mem_append_left _ h)))), good_of_word (gd_bV _ _ _ _ w h)⟩) ggX8_keenSize_X8_keenMark
def tb_X8_keenSize_1 : List (Nat × Instr × Nat) := [(0, .aload_n 0, 1), (1, .iload_n 1, 1), (2, .invokevirtual 165, 3), (5, .iconst 2, 1), (6, .if_icmp .ne 7, 3), (9, .iconst 1, 1), (10, .goto 4, 3), (13, .iconst 0, 1), (14, .istore_n 2, 1), (15, .iload_n 2, 1), (16, .ifCond .eq 9, 3), (19, .aload_n 0, 1), (20, .bipush 12, 2), (22, .invokevirtual 240, 3), (25, .aload_n 0, 1), (26, .bipush 11, 2), (28, .invokevirtual 240, 3), (31, .aload_n 0, 1), (32, .bipush 10, 2), (34, .invokevirtual 240, 3), (37, .aload_n 0, 1), (38, .getfield 25, 3), (41, .bipush 26, 2), (43, .iconst 3, 1), (44, .iload_n 1, 1), (45, .imul, 1), (46, .iadd, 1), (47, .iconst 1, 1), (48, .iadd, 1), (49, .iaload, 1), (50, .aload_n 0, 1), (51, .iload_n 1, 1), (52, .invokevirtual 244, 3), (55, .iadd, 1), (56, .istore_n 3, 1), (57, .iload_n 2, 1), (58, .ifCond .eq 8, 3), (61, .iload_n 3, 1), (62, .ineg, 1), (63, .goto 4, 3)]
set_option maxRecDepth 100000 in
theorem tk_X8_keenSize_1 : (tb_X8_keenSize_1.all fun q => decide (decode cX8_keenSize q.1 = .ok q.2)) = true := by decide +kernel
theorem dX8_keenSize_0 : decode cX8_keenSize 0 = .ok (.aload_n 0, 1) := tb_d tk_X8_keenSize_1 0 (0, .aload_n 0, 1) rfl
theorem dX8_keenSize_1 : decode cX8_keenSize 1 = .ok (.iload_n 1, 1) := tb_d tk_X8_keenSize_1 1 (1, .iload_n 1, 1) rfl
theorem dX8_keenSize_2 : decode cX8_keenSize 2 = .ok (.invokevirtual 165, 3) := tb_d tk_X8_keenSize_1 2 (2, .invokevirtual 165, 3) rfl
theorem dX8_keenSize_5 : decode cX8_keenSize 5 = .ok (.iconst 2, 1) := tb_d tk_X8_keenSize_1 3 (5, .iconst 2, 1) rfl
theorem dX8_keenSize_6 : decode cX8_keenSize 6 = .ok (.if_icmp .ne 7, 3) := tb_d tk_X8_keenSize_1 4 (6, .if_icmp .ne 7, 3) rfl
theorem dX8_keenSize_9 : decode cX8_keenSize 9 = .ok (.iconst 1, 1) := tb_d tk_X8_keenSize_1 5 (9, .iconst 1, 1) rfl
theorem dX8_keenSize_10 : decode cX8_keenSize 10 = .ok (.goto 4, 3) := tb_d tk_X8_keenSize_1 6 (10, .goto 4, 3) rfl
theorem dX8_keenSize_13 : decode cX8_keenSize 13 = .ok (.iconst 0, 1) := tb_d tk_X8_keenSize_1 7 (13, .iconst 0, 1) rfl
theorem dX8_keenSize_14 : decode cX8_keenSize 14 = .ok (.istore_n 2, 1) := tb_d tk_X8_keenSize_1 8 (14, .istore_n 2, 1) rfl
theorem dX8_keenSize_15 : decode cX8_keenSize 15 = .ok (.iload_n 2, 1) := tb_d tk_X8_keenSize_1 9 (15, .iload_n 2, 1) rfl
theorem dX8_keenSize_16 : decode cX8_keenSize 16 = .ok (.ifCond .eq 9, 3) := tb_d tk_X8_keenSize_1 10 (16, .ifCond .eq 9, 3) rfl
theorem dX8_keenSize_19 : decode cX8_keenSize 19 = .ok (.aload_n 0, 1) := tb_d tk_X8_keenSize_1 11 (19, .aload_n 0, 1) rfl
theorem dX8_keenSize_20 : decode cX8_keenSize 20 = .ok (.bipush 12, 2) := tb_d tk_X8_keenSize_1 12 (20, .bipush 12, 2) rfl
theorem dX8_keenSize_22 : decode cX8_keenSize 22 = .ok (.invokevirtual 240, 3) := tb_d tk_X8_keenSize_1 13 (22, .invokevirtual 240, 3) rfl
theorem dX8_keenSize_25 : decode cX8_keenSize 25 = .ok (.aload_n 0, 1) := tb_d tk_X8_keenSize_1 14 (25, .aload_n 0, 1) rfl
theorem dX8_keenSize_26 : decode cX8_keenSize 26 = .ok (.bipush 11, 2) := tb_d tk_X8_keenSize_1 15 (26, .bipush 11, 2) rfl
theorem dX8_keenSize_28 : decode cX8_keenSize 28 = .ok (.invokevirtual 240, 3) := tb_d tk_X8_keenSize_1 16 (28, .invokevirtual 240, 3) rfl
theorem dX8_keenSize_31 : decode cX8_keenSize 31 = .ok (.aload_n 0, 1) := tb_d tk_X8_keenSize_1 17 (31, .aload_n 0, 1) rfl
theorem dX8_keenSize_32 : decode cX8_keenSize 32 = .ok (.bipush 10, 2) := tb_d tk_X8_keenSize_1 18 (32, .bipush 10, 2) rfl
theorem dX8_keenSize_34 : decode cX8_keenSize 34 = .ok (.invokevirtual 240, 3) := tb_d tk_X8_keenSize_1 19 (34, .invokevirtual 240, 3) rfl
theorem dX8_keenSize_37 : decode cX8_keenSize 37 = .ok (.aload_n 0, 1) := tb_d tk_X8_keenSize_1 20 (37, .aload_n 0, 1) rfl
theorem dX8_keenSize_38 : decode cX8_keenSize 38 = .ok (.getfield 25, 3) := tb_d tk_X8_keenSize_1 21 (38, .getfield 25, 3) rfl
theorem dX8_keenSize_41 : decode cX8_keenSize 41 = .ok (.bipush 26, 2) := tb_d tk_X8_keenSize_1 22 (41, .bipush 26, 2) rfl
theorem dX8_keenSize_43 : decode cX8_keenSize 43 = .ok (.iconst 3, 1) := tb_d tk_X8_keenSize_1 23 (43, .iconst 3, 1) rfl
theorem dX8_keenSize_44 : decode cX8_keenSize 44 = .ok (.iload_n 1, 1) := tb_d tk_X8_keenSize_1 24 (44, .iload_n 1, 1) rfl
theorem dX8_keenSize_45 : decode cX8_keenSize 45 = .ok (.imul, 1) := tb_d tk_X8_keenSize_1 25 (45, .imul, 1) rfl
theorem dX8_keenSize_46 : decode cX8_keenSize 46 = .ok (.iadd, 1) := tb_d tk_X8_keenSize_1 26 (46, .iadd, 1) rfl
theorem dX8_keenSize_47 : decode cX8_keenSize 47 = .ok (.iconst 1, 1) := tb_d tk_X8_keenSize_1 27 (47, .iconst 1, 1) rfl
theorem dX8_keenSize_48 : decode cX8_keenSize 48 = .ok (.iadd, 1) := tb_d tk_X8_keenSize_1 28 (48, .iadd, 1) rfl
theorem dX8_keenSize_49 : decode cX8_keenSize 49 = .ok (.iaload, 1) := tb_d tk_X8_keenSize_1 29 (49, .iaload, 1) rfl
theorem dX8_keenSize_50 : decode cX8_keenSize 50 = .ok (.aload_n 0, 1) := tb_d tk_X8_keenSize_1 30 (50, .aload_n 0, 1) rfl
theorem dX8_keenSize_51 : decode cX8_keenSize 51 = .ok (.iload_n 1, 1) := tb_d tk_X8_keenSize_1 31 (51, .iload_n 1, 1) rfl
theorem dX8_keenSize_52 : decode cX8_keenSize 52 = .ok (.invokevirtual 244, 3) := tb_d tk_X8_keenSize_1 32 (52, .invokevirtual 244, 3) rfl
theorem dX8_keenSize_55 : decode cX8_keenSize 55 = .ok (.iadd, 1) := tb_d tk_X8_keenSize_1 33 (55, .iadd, 1) rfl
theorem dX8_keenSize_56 : decode cX8_keenSize 56 = .ok (.istore_n 3, 1) := tb_d tk_X8_keenSize_1 34 (56, .istore_n 3, 1) rfl
theorem dX8_keenSize_57 : decode cX8_keenSize 57 = .ok (.iload_n 2, 1) := tb_d tk_X8_keenSize_1 35 (57, .iload_n 2, 1) rfl
theorem dX8_keenSize_58 : decode cX8_keenSize 58 = .ok (.ifCond .eq 8, 3) := tb_d tk_X8_keenSize_1 36 (58, .ifCond .eq 8, 3) rfl
theorem dX8_keenSize_61 : decode cX8_keenSize 61 = .ok (.iload_n 3, 1) := tb_d tk_X8_keenSize_1 37 (61, .iload_n 3, 1) rfl
theorem dX8_keenSize_62 : decode cX8_keenSize 62 = .ok (.ineg, 1) := tb_d tk_X8_keenSize_1 38 (62, .ineg, 1) rfl
theorem dX8_keenSize_63 : decode cX8_keenSize 63 = .ok (.goto 4, 3) := tb_d tk_X8_keenSize_1 39 (63, .goto 4, 3) rfl
def tb_X8_keenSize_2 : List (Nat × Instr × Nat) := [(66, .iload_n 3, 1), (67, .ireturn, 1)]
set_option maxRecDepth 100000 in
theorem tk_X8_keenSize_2 : (tb_X8_keenSize_2.all fun q => decide (decode cX8_keenSize q.1 = .ok q.2)) = true := by decide +kernel
theorem dX8_keenSize_66 : decode cX8_keenSize 66 = .ok (.iload_n 3, 1) := tb_d tk_X8_keenSize_2 0 (66, .iload_n 3, 1) rfl
theorem dX8_keenSize_67 : decode cX8_keenSize 67 = .ok (.ireturn, 1) := tb_d tk_X8_keenSize_2 1 (67, .ireturn, 1) rfl
theorem ggX8_deafMark_X8_begins : GoodIn wsX8_deafMark wsX8_begins := fun w h => ⟨List.mem_cons_of_mem _ (List.mem_append_right _ (List.mem_append_right _ (List.mem_append_right _ (List.mem_append_right _ (List.mem_append_left _ h))))), good_of_word (gdX8_begins w h)⟩
set_option maxRecDepth 20000 in
theorem gX8_deafMark_X8_begins : GoodIn wsX8_deafMark (wsV RX8 240 RX8 yX8_begins wsX8_begins) := goodIn_app (a := bkV RX8 240 RX8 yX8_begins) (fun w h => ⟨List.mem_cons_of_mem _ (List.mem_append_right _ (List.mem_append_left _ h)), good_of_word (gd_bV _ _ _ _ w h)⟩) ggX8_deafMark_X8_begins
theorem ggX8_deafMark_X8_deafSize : GoodIn wsX8_deafMark wsX8_deafSize := fun w h => ⟨List.mem_cons_of_mem _ (List.mem_append_right _ (List.mem_append_right _ (List.mem_append_right _ (List.mem_append_right _ (List.mem_append_right _ (List.mem_append_left _ h)))))), good_of_word (gdX8_deafSize w h)⟩
set_option maxRecDepth 20000 in
theorem gX8_deafMark_X8_deafSize : GoodIn wsX8_deafMark (wsV RX8 247 RX8 yX8_deafSize wsX8_deafSize) := goodIn_app (a := bkV RX8 247 RX8 yX8_deafSize) (fun w h => ⟨List.mem_cons_of_mem _ (List.mem_append_right _ (List.mem_append_right _ (List.mem_append_left _ h))), good_of_word (gd_bV _ _ _ _ w h)⟩) ggX8_deafMark_X8_deafSize
def tb_X8_deafMark_1 : List (Nat × Instr × Nat) := [(0, .aload_n 0, 1), (1, .bipush 23, 2), (3, .invokevirtual 240, 3), (6, .aload_n 0, 1), (7, .bipush 20, 2), (9, .invokevirtual 240, 3), (12, .iload_n 1, 1), (13, .aload_n 0, 1), (14, .iload_n 1, 1), (15, .invokevirtual 247, 3), (18, .isub, 1), (19, .ireturn, 1)]
set_option maxRecDepth 100000 in
theorem tk_X8_deafMark_1 : (tb_X8_deafMark_1.all fun q => decide (decode cX8_deafMark q.1 = .ok q.2)) = true := by decide +kernel
theorem dX8_deafMark_0 : decode cX8_deafMark 0 = .ok (.aload_n 0, 1) := tb_d tk_X8_deafMark_1 0 (0, .aload_n 0, 1) rfl
theorem dX8_deafMark_1 : decode cX8_deafMark 1 = .ok (.bipush 23, 2) := tb_d tk_X8_deafMark_1 1 (1, .bipush 23, 2) rfl
theorem dX8_deafMark_3 : decode cX8_deafMark 3 = .ok (.invokevirtual 240, 3) := tb_d tk_X8_deafMark_1 2 (3, .invokevirtual 240, 3) rfl
theorem dX8_deafMark_6 : decode cX8_deafMark 6 = .ok (.aload_n 0, 1) := tb_d tk_X8_deafMark_1 3 (6, .aload_n 0, 1) rfl
theorem dX8_deafMark_7 : decode cX8_deafMark 7 = .ok (.bipush 20, 2) := tb_d tk_X8_deafMark_1 4 (7, .bipush 20, 2) rfl
theorem dX8_deafMark_9 : decode cX8_deafMark 9 = .ok (.invokevirtual 240, 3) := tb_d tk_X8_deafMark_1 5 (9, .invokevirtual 240, 3) rfl
theorem dX8_deafMark_12 : decode cX8_deafMark 12 = .ok (.iload_n 1, 1) := tb_d tk_X8_deafMark_1 6 (12, .iload_n 1, 1) rfl
theorem dX8_deafMark_13 : decode cX8_deafMark 13 = .ok (.aload_n 0, 1) := tb_d tk_X8_deafMark_1 7 (13, .aload_n 0, 1) rfl
theorem dX8_deafMark_14 : decode cX8_deafMark 14 = .ok (.iload_n 1, 1) := tb_d tk_X8_deafMark_1 8 (14, .iload_n 1, 1) rfl
theorem dX8_deafMark_15 : decode cX8_deafMark 15 = .ok (.invokevirtual 247, 3) := tb_d tk_X8_deafMark_1 9 (15, .invokevirtual 247, 3) rfl
theorem dX8_deafMark_18 : decode cX8_deafMark 18 = .ok (.isub, 1) := tb_d tk_X8_deafMark_1 10 (18, .isub, 1) rfl
theorem dX8_deafMark_19 : decode cX8_deafMark 19 = .ok (.ireturn, 1) := tb_d tk_X8_deafMark_1 11 (19, .ireturn, 1) rfl
theorem ggX8_ask_X8_isGuard : GoodIn wsX8_ask wsX8_isGuard := fun w h => ⟨List.mem_cons_of_mem _ (List.mem_append_right _ (List.mem_append_right _ (List.mem_append_right _ (List.mem_append_right _ (List.mem_append_right _ (List.mem_append_right _ (List.mem_append_right _ (List.mem_append_right _ (List.mem_append_right _ (List.mem_append_left _ h)))))))))), good_of_word (gdX8_isGuard w h)⟩
set_option maxRecDepth 20000 in
theorem gX8_ask_X8_isGuard : GoodIn wsX8_ask (wsV RX8 199 RX8 yX8_isGuard wsX8_isGuard) := goodIn_app (a := bkV RX8 199 RX8 yX8_isGuard) (fun w h => ⟨List.mem_cons_of_mem _ (List.mem_append_right _ (List.mem_append_left _ h)), good_of_word (gd_bV _ _ _ _ w h)⟩) ggX8_ask_X8_isGuard
theorem ggX8_ask_X8_in : GoodIn wsX8_ask wsX8_in := fun w h => ⟨List.mem_cons_of_mem _ (List.mem_append_right _ (List.mem_append_right _ (List.mem_append_right _ (List.mem_append_right _ (List.mem_append_right _ (List.mem_append_right _ (List.mem_append_right _ (List.mem_append_right _ (List.mem_append_right _ (List.mem_append_right _ (List.mem_append_left _ h))))))))))), good_of_word (gdX8_in w h)⟩
set_option maxRecDepth 20000 in
theorem gX8_ask_X8_in : GoodIn wsX8_ask (va_wsS RX8 56 yX8_in wsX8_in) := goodIn_app (a := bkS RX8 56 yX8_in) (fun w h => ⟨List.mem_cons_of_mem _ (List.mem_append_right _ (List.mem_append_right _ (List.mem_append_left _ h))), good_of_word (gd_bS _ _ _ w h)⟩) ggX8_ask_X8_in
theorem ggX8_ask_X8_kindIn : GoodIn wsX8_ask wsX8_kindIn := fun w h => ⟨List.mem_cons_of_mem _ (List.mem_append_right _ (List.mem_append_right _ (List.mem_append_right _ (List.mem_append_right _ (List.mem_append_right _ (List.mem_append_right _ (List.mem_append_right _ (List.mem_append_right _ (List.mem_append_right _ (List.mem_append_right _ (List.mem_append_right _ (List.mem_append_left _ h)))))))))))), good_of_word (gdX8_kindIn w h)⟩
set_option maxRecDepth 20000 in
theorem gX8_ask_X8_kindIn : GoodIn wsX8_ask (wsV RX8 165 RX8 yX8_kindIn wsX8_kindIn) := goodIn_app (a := bkV RX8 165 RX8 yX8_kindIn) (fun w h => ⟨List.mem_cons_of_mem _ (List.mem_append_right _ (List.mem_append_right _ (List.mem_append_right _ (List.mem_append_left _ h)))), good_of_word (gd_bV _ _ _ _ w h)⟩) ggX8_ask_X8_kindIn
theorem ggX8_ask_X8_deafSize : GoodIn wsX8_ask wsX8_deafSize := fun w h => ⟨List.mem_cons_of_mem _ (List.mem_append_right _ (List.mem_append_right _ (List.mem_append_right _ (List.mem_append_right _ (List.mem_append_right _ (List.mem_append_right _ (List.mem_append_right _ (List.mem_append_right _ (List.mem_append_right _ (List.mem_append_right _ (List.mem_append_right _ (List.mem_append_right _ (List.mem_append_left _ h))))))))))))), good_of_word (gdX8_deafSize w h)⟩
set_option maxRecDepth 20000 in
theorem gX8_ask_X8_deafSize : GoodIn wsX8_ask (wsV RX8 247 RX8 yX8_deafSize wsX8_deafSize) := goodIn_app (a := bkV RX8 247 RX8 yX8_deafSize) (fun w h => ⟨List.mem_cons_of_mem _ (List.mem_append_right _ (List.mem_append_right _ (List.mem_append_right _ (List.mem_append_right _ (List.mem_append_left _ h))))), good_of_word (gd_bV _ _ _ _ w h)⟩) ggX8_ask_X8_deafSize
theorem ggX8_ask_X8_keenSize : GoodIn wsX8_ask wsX8_keenSize := fun w h => ⟨List.mem_cons_of_mem _ (List.mem_append_right _ (List.mem_append_right _ (List.mem_append_right _ (List.mem_append_right _ (List.mem_append_right _ (List.mem_append_right _ (List.mem_append_right _ (List.mem_append_right _ (List.mem_append_right _ (List.mem_append_right _ (List.mem_append_right _ (List.mem_append_right _ (List.mem_append_right _ (List.mem_append_left _ h)))))))))))))), good_of_word (gdX8_keenSize w h)⟩
set_option maxRecDepth 20000 in
theorem gX8_ask_X8_keenSize : GoodIn wsX8_ask (wsV RX8 250 RX8 yX8_keenSize wsX8_keenSize) := goodIn_app (a := bkV RX8 250 RX8 yX8_keenSize) (fun w h => ⟨List.mem_cons_of_mem _ (List.mem_append_right _ (List.mem_append_right _ (List.mem_append_right _ (List.mem_append_right _ (List.mem_append_right _ (List.mem_append_left _ h)))))), good_of_word (gd_bV _ _ _ _ w h)⟩) ggX8_ask_X8_keenSize
theorem ggX8_ask_X8_deafMark : GoodIn wsX8_ask wsX8_deafMark := fun w h => ⟨List.mem_cons_of_mem _ (List.mem_append_right _ (List.mem_append_right _ (List.mem_append_right _ (List.mem_append_right _ (List.mem_append_right _ (List.mem_append_right _ (List.mem_append_right _ (List.mem_append_right _ (List.mem_append_right _ (List.mem_append_right _ (List.mem_append_right _ (List.mem_append_right _ (List.mem_append_right _ (List.mem_append_right _ (List.mem_append_left _ h))))))))))))))), good_of_word (gdX8_deafMark w h)⟩
set_option maxRecDepth 20000 in
theorem gX8_ask_X8_deafMark : GoodIn wsX8_ask (wsV RX8 253 RX8 yX8_deafMark wsX8_deafMark) := goodIn_app (a := bkV RX8 253 RX8 yX8_deafMark) (fun w h => ⟨List.mem_cons_of_mem _ (List.mem_append_right _ (List.mem_append_right _ (List.mem_append_right _ (List.mem_append_right _ (List.mem_append_right _ (List.mem_append_right _ (List.mem_append_left _ h))))))), good_of_word (gd_bV _ _ _ _ w h)⟩) ggX8_ask_X8_deafMark
theorem ggX8_ask_X8_keenMark : GoodIn wsX8_ask wsX8_keenMark := fun w h => ⟨List.mem_cons_of_mem _ (List.mem_append_right _ (List.mem_append_right _ (List.mem_append_right _ (List.mem_append_right _ (List.mem_append_right _ (List.mem_append_right _ (List.mem_append_right _ (List.mem_append_right _ (List.mem_append_right _ (List.mem_append_right _ (List.mem_append_right _ (List.mem_append_right _ (List.mem_append_right _ (List.mem_append_right _ (List.mem_append_right _ (List.mem_append_left _ h)))))))))))))))), good_of_word (gdX8_keenMark w h)⟩
set_option maxRecDepth 20000 in
theorem gX8_ask_X8_keenMark : GoodIn wsX8_ask (wsV RX8 244 RX8 yX8_keenMark wsX8_keenMark) := goodIn_app (a := bkV RX8 244 RX8 yX8_keenMark) (fun w h => ⟨List.mem_cons_of_mem _ (List.mem_append_right _ (List.mem_append_right _ (List.mem_append_right _ (List.mem_append_right _ (List.mem_append_right _ (List.mem_append_right _ (List.mem_append_right _ (List.mem_append_left _ h)))))))), good_of_word (gd_bV _ _ _ _ w h)⟩) ggX8_ask_X8_keenMark
def tb_X8_ask_1 : List (Nat × Instr × Nat) := [(0, .aload_n 0, 1), (1, .iload_n 1, 1), (2, .invokevirtual 199, 3), (5, .ifCond .eq 12, 3), (8, .iload_n 2, 1), (9, .iconst 0, 1), (10, .iconst 1, 1), (11, .invokestatic 56, 3), (14, .ifCond .ne 6, 3), (17, .ldc 64, 2), (19, .ireturn, 1), (20, .aload_n 0, 1), (21, .iconst 0, 1), (22, .putfield 237, 3), (25, .aload_n 0, 1), (26, .iload_n 1, 1), (27, .invokevirtual 165, 3), (30, .iconst 4, 1), (31, .if_icmp .lt 7, 3), (34, .iconst 1, 1), (35, .goto 4, 3), (38, .iconst 0, 1), (39, .istore_n 3, 1), (40, .iload_n 2, 1), (41, .ifCond .ne 21, 3), (44, .iload_n 3, 1), (45, .ifCond .eq 11, 3), (48, .aload_n 0, 1), (49, .iload_n 1, 1), (50, .invokevirtual 247, 3), (53, .goto 8, 3), (56, .aload_n 0, 1), (57, .iload_n 1, 1), (58, .invokevirtual 250, 3), (61, .ireturn, 1), (62, .iload_n 3, 1), (63, .ifCond .eq 11, 3), (66, .aload_n 0, 1), (67, .iload_n 1, 1), (68, .invokevirtual 253, 3)]
set_option maxRecDepth 100000 in
theorem tk_X8_ask_1 : (tb_X8_ask_1.all fun q => decide (decode cX8_ask q.1 = .ok q.2)) = true := by decide +kernel
theorem dX8_ask_0 : decode cX8_ask 0 = .ok (.aload_n 0, 1) := tb_d tk_X8_ask_1 0 (0, .aload_n 0, 1) rfl
theorem dX8_ask_1 : decode cX8_ask 1 = .ok (.iload_n 1, 1) := tb_d tk_X8_ask_1 1 (1, .iload_n 1, 1) rfl
theorem dX8_ask_2 : decode cX8_ask 2 = .ok (.invokevirtual 199, 3) := tb_d tk_X8_ask_1 2 (2, .invokevirtual 199, 3) rfl
theorem dX8_ask_5 : decode cX8_ask 5 = .ok (.ifCond .eq 12, 3) := tb_d tk_X8_ask_1 3 (5, .ifCond .eq 12, 3) rfl
theorem dX8_ask_8 : decode cX8_ask 8 = .ok (.iload_n 2, 1) := tb_d tk_X8_ask_1 4 (8, .iload_n 2, 1) rfl
theorem dX8_ask_9 : decode cX8_ask 9 = .ok (.iconst 0, 1) := tb_d tk_X8_ask_1 5 (9, .iconst 0, 1) rfl
theorem dX8_ask_10 : decode cX8_ask 10 = .ok (.iconst 1, 1) := tb_d tk_X8_ask_1 6 (10, .iconst 1, 1) rfl
theorem dX8_ask_11 : decode cX8_ask 11 = .ok (.invokestatic 56, 3) := tb_d tk_X8_ask_1 7 (11, .invokestatic 56, 3) rfl
theorem dX8_ask_14 : decode cX8_ask 14 = .ok (.ifCond .ne 6, 3) := tb_d tk_X8_ask_1 8 (14, .ifCond .ne 6, 3) rfl
theorem dX8_ask_17 : decode cX8_ask 17 = .ok (.ldc 64, 2) := tb_d tk_X8_ask_1 9 (17, .ldc 64, 2) rfl
theorem dX8_ask_19 : decode cX8_ask 19 = .ok (.ireturn, 1) := tb_d tk_X8_ask_1 10 (19, .ireturn, 1) rfl
theorem dX8_ask_20 : decode cX8_ask 20 = .ok (.aload_n 0, 1) := tb_d tk_X8_ask_1 11 (20, .aload_n 0, 1) rfl
theorem dX8_ask_21 : decode cX8_ask 21 = .ok (.iconst 0, 1) := tb_d tk_X8_ask_1 12 (21, .iconst 0, 1) rfl
theorem dX8_ask_22 : decode cX8_ask 22 = .ok (.putfield 237, 3) := tb_d tk_X8_ask_1 13 (22, .putfield 237, 3) rfl
theorem dX8_ask_25 : decode cX8_ask 25 = .ok (.aload_n 0, 1) := tb_d tk_X8_ask_1 14 (25, .aload_n 0, 1) rfl
theorem dX8_ask_26 : decode cX8_ask 26 = .ok (.iload_n 1, 1) := tb_d tk_X8_ask_1 15 (26, .iload_n 1, 1) rfl
theorem dX8_ask_27 : decode cX8_ask 27 = .ok (.invokevirtual 165, 3) := tb_d tk_X8_ask_1 16 (27, .invokevirtual 165, 3) rfl
theorem dX8_ask_30 : decode cX8_ask 30 = .ok (.iconst 4, 1) := tb_d tk_X8_ask_1 17 (30, .iconst 4, 1) rfl
theorem dX8_ask_31 : decode cX8_ask 31 = .ok (.if_icmp .lt 7, 3) := tb_d tk_X8_ask_1 18 (31, .if_icmp .lt 7, 3) rfl
theorem dX8_ask_34 : decode cX8_ask 34 = .ok (.iconst 1, 1) := tb_d tk_X8_ask_1 19 (34, .iconst 1, 1) rfl
theorem dX8_ask_35 : decode cX8_ask 35 = .ok (.goto 4, 3) := tb_d tk_X8_ask_1 20 (35, .goto 4, 3) rfl
theorem dX8_ask_38 : decode cX8_ask 38 = .ok (.iconst 0, 1) := tb_d tk_X8_ask_1 21 (38, .iconst 0, 1) rfl
theorem dX8_ask_39 : decode cX8_ask 39 = .ok (.istore_n 3, 1) := tb_d tk_X8_ask_1 22 (39, .istore_n 3, 1) rfl
theorem dX8_ask_40 : decode cX8_ask 40 = .ok (.iload_n 2, 1) := tb_d tk_X8_ask_1 23 (40, .iload_n 2, 1) rfl
theorem dX8_ask_41 : decode cX8_ask 41 = .ok (.ifCond .ne 21, 3) := tb_d tk_X8_ask_1 24 (41, .ifCond .ne 21, 3) rfl
theorem dX8_ask_44 : decode cX8_ask 44 = .ok (.iload_n 3, 1) := tb_d tk_X8_ask_1 25 (44, .iload_n 3, 1) rfl
theorem dX8_ask_45 : decode cX8_ask 45 = .ok (.ifCond .eq 11, 3) := tb_d tk_X8_ask_1 26 (45, .ifCond .eq 11, 3) rfl
theorem dX8_ask_48 : decode cX8_ask 48 = .ok (.aload_n 0, 1) := tb_d tk_X8_ask_1 27 (48, .aload_n 0, 1) rfl
theorem dX8_ask_49 : decode cX8_ask 49 = .ok (.iload_n 1, 1) := tb_d tk_X8_ask_1 28 (49, .iload_n 1, 1) rfl
theorem dX8_ask_50 : decode cX8_ask 50 = .ok (.invokevirtual 247, 3) := tb_d tk_X8_ask_1 29 (50, .invokevirtual 247, 3) rfl
theorem dX8_ask_53 : decode cX8_ask 53 = .ok (.goto 8, 3) := tb_d tk_X8_ask_1 30 (53, .goto 8, 3) rfl
