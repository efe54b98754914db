theorem dX8_ask_56 : decode cX8_ask 56 = .ok (.aload_n 0, 1) := tb_d tk_X8_ask_1 31 (56, .aload_n 0, 1) rfl
theorem dX8_ask_57 : decode cX8_ask 57 = .ok (.iload_n 1, 1) := tb_d tk_X8_ask_1 32 (57, .iload_n 1, 1) rfl
theorem dX8_ask_58 : decode cX8_ask 58 = .ok (.invokevirtual 250, 3) := tb_d tk_X8_ask_1 33 (58, .invokevirtual 250, 3) rfl
theorem dX8_ask_61 : decode cX8_ask 61 = .ok (.ireturn, 1) := tb_d tk_X8_ask_1 34 (61, .ireturn, 1) rfl
theorem dX8_ask_62 : decode cX8_ask 62 = .ok (.iload_n 3, 1) := tb_d tk_X8_ask_1 35 (62, .iload_n 3, 1) rfl
theorem dX8_ask_63 : decode cX8_ask 63 = .ok (.ifCond .eq 11, 3) := tb_d tk_X8_ask_1 36 (63, .ifCond .eq 11, 3) rfl
theorem dX8_ask_66 : decode cX8_ask 66 = .ok (.aload_n 0, 1) := tb_d tk_X8_ask_1 37 (66, .aload_n 0, 1) rfl
theorem dX8_ask_67 : decode cX8_ask 67 = .ok (.iload_n 1, 1) := tb_d tk_X8_ask_1 38 (67, .iload_n 1, 1) rfl
theorem dX8_ask_68 : decode cX8_ask 68 = .ok (.invokevirtual 253, 3) := tb_d tk_X8_ask_1 39 (68, .invokevirtual 253, 3) rfl
def tb_X8_ask_2 : List (Nat × Instr × Nat) := [(71, .goto 8, 3), (74, .aload_n 0, 1), (75, .iload_n 1, 1), (76, .invokevirtual 244, 3), (79, .ireturn, 1)]
set_option maxRecDepth 100000 in
theorem tk_X8_ask_2 : (tb_X8_ask_2.all fun q => decide (decode cX8_ask q.1 = .ok q.2)) = true := by decide +kernel
theorem dX8_ask_71 : decode cX8_ask 71 = .ok (.goto 8, 3) := tb_d tk_X8_ask_2 0 (71, .goto 8, 3) rfl
theorem dX8_ask_74 : decode cX8_ask 74 = .ok (.aload_n 0, 1) := tb_d tk_X8_ask_2 1 (74, .aload_n 0, 1) rfl
theorem dX8_ask_75 : decode cX8_ask 75 = .ok (.iload_n 1, 1) := tb_d tk_X8_ask_2 2 (75, .iload_n 1, 1) rfl
theorem dX8_ask_76 : decode cX8_ask 76 = .ok (.invokevirtual 244, 3) := tb_d tk_X8_ask_2 3 (76, .invokevirtual 244, 3) rfl
theorem dX8_ask_79 : decode cX8_ask 79 = .ok (.ireturn, 1) := tb_d tk_X8_ask_2 4 (79, .ireturn, 1) rfl
theorem ggX8_trace_X8_in : GoodIn wsX8_trace wsX8_in := fun w h => ⟨List.mem_cons_of_mem _ (List.mem_append_right _ (List.mem_append_right _ (List.mem_append_right _ (List.mem_append_left _ h)))), good_of_word (gdX8_in w h)⟩
set_option maxRecDepth 20000 in
theorem gX8_trace_X8_in : GoodIn wsX8_trace (va_wsS RX8 56 yX8_in wsX8_in) := goodIn_app (a := bkS RX8 56 yX8_in) (fun w h => ⟨List.mem_cons_of_mem _ (List.mem_append_right _ (List.mem_append_left _ h)), good_of_word (gd_bS _ _ _ w h)⟩) ggX8_trace_X8_in
def tb_X8_trace_1 : List (Nat × Instr × Nat) := [(0, .iload_n 1, 1), (1, .iconst 0, 1), (2, .aload_n 0, 1), (3, .getfield 237, 3), (6, .iconst 1, 1), (7, .isub, 1), (8, .invokestatic 56, 3), (11, .ifCond .eq 12, 3), (14, .aload_n 0, 1), (15, .getfield 47, 3), (18, .iload_n 1, 1), (19, .iaload, 1), (20, .goto 5, 3), (23, .ldc 50, 2), (25, .ireturn, 1)]
set_option maxRecDepth 100000 in
theorem tk_X8_trace_1 : (tb_X8_trace_1.all fun q => decide (decode cX8_trace q.1 = .ok q.2)) = true := by decide +kernel
theorem dX8_trace_0 : decode cX8_trace 0 = .ok (.iload_n 1, 1) := tb_d tk_X8_trace_1 0 (0, .iload_n 1, 1) rfl
theorem dX8_trace_1 : decode cX8_trace 1 = .ok (.iconst 0, 1) := tb_d tk_X8_trace_1 1 (1, .iconst 0, 1) rfl
theorem dX8_trace_2 : decode cX8_trace 2 = .ok (.aload_n 0, 1) := tb_d tk_X8_trace_1 2 (2, .aload_n 0, 1) rfl
theorem dX8_trace_3 : decode cX8_trace 3 = .ok (.getfield 237, 3) := tb_d tk_X8_trace_1 3 (3, .getfield 237, 3) rfl
theorem dX8_trace_6 : decode cX8_trace 6 = .ok (.iconst 1, 1) := tb_d tk_X8_trace_1 4 (6, .iconst 1, 1) rfl
theorem dX8_trace_7 : decode cX8_trace 7 = .ok (.isub, 1) := tb_d tk_X8_trace_1 5 (7, .isub, 1) rfl
theorem dX8_trace_8 : decode cX8_trace 8 = .ok (.invokestatic 56, 3) := tb_d tk_X8_trace_1 6 (8, .invokestatic 56, 3) rfl
theorem dX8_trace_11 : decode cX8_trace 11 = .ok (.ifCond .eq 12, 3) := tb_d tk_X8_trace_1 7 (11, .ifCond .eq 12, 3) rfl
theorem dX8_trace_14 : decode cX8_trace 14 = .ok (.aload_n 0, 1) := tb_d tk_X8_trace_1 8 (14, .aload_n 0, 1) rfl
theorem dX8_trace_15 : decode cX8_trace 15 = .ok (.getfield 47, 3) := tb_d tk_X8_trace_1 9 (15, .getfield 47, 3) rfl
theorem dX8_trace_18 : decode cX8_trace 18 = .ok (.iload_n 1, 1) := tb_d tk_X8_trace_1 10 (18, .iload_n 1, 1) rfl
theorem dX8_trace_19 : decode cX8_trace 19 = .ok (.iaload, 1) := tb_d tk_X8_trace_1 11 (19, .iaload, 1) rfl
theorem dX8_trace_20 : decode cX8_trace 20 = .ok (.goto 5, 3) := tb_d tk_X8_trace_1 12 (20, .goto 5, 3) rfl
theorem dX8_trace_23 : decode cX8_trace 23 = .ok (.ldc 50, 2) := tb_d tk_X8_trace_1 13 (23, .ldc 50, 2) rfl
theorem dX8_trace_25 : decode cX8_trace 25 = .ok (.ireturn, 1) := tb_d tk_X8_trace_1 14 (25, .ireturn, 1) rfl
theorem ggX8_count_X8_isMissing : GoodIn wsX8_count wsX8_isMissing := fun w h => ⟨List.mem_cons_of_mem _ (List.mem_append_right _ (List.mem_append_right _ (List.mem_append_right _ (List.mem_append_left _ h)))), good_of_word (gdX8_isMissing w h)⟩
set_option maxRecDepth 20000 in
theorem gX8_count_X8_isMissing : GoodIn wsX8_count (wsV RX8 72 RX8 yX8_isMissing wsX8_isMissing) := goodIn_app (a := bkV RX8 72 RX8 yX8_isMissing) (fun w h => ⟨List.mem_cons_of_mem _ (List.mem_append_right _ (List.mem_append_left _ h)), good_of_word (gd_bV _ _ _ _ w h)⟩) ggX8_count_X8_isMissing
def tb_X8_count_1 : List (Nat × Instr × Nat) := [(0, .iconst 0, 1), (1, .istore_n 2, 1), (2, .iload_n 1, 1), (3, .tableswitch 175 0 9 #[53, 85, 92, 99, 106, 114, 122, 127, 132, 139], 53), (56, .iconst 0, 1), (57, .istore_n 3, 1), (58, .iload_n 3, 1), (59, .bipush 8, 2), (61, .if_icmp .ge 25, 3), (64, .iload_n 2, 1), (65, .aload_n 0, 1), (66, .iload_n 3, 1), (67, .invokevirtual 72, 3), (70, .ifCond .eq 7, 3), (73, .iconst 0, 1), (74, .goto 4, 3), (77, .iconst 1, 1), (78, .iadd, 1), (79, .istore_n 2, 1), (80, .iinc 3 1, 3), (83, .goto (-25), 3), (86, .iload_n 2, 1), (87, .ireturn, 1), (88, .aload_n 0, 1), (89, .getfield 25, 3), (92, .iconst 3, 1), (93, .iaload, 1), (94, .ireturn, 1), (95, .aload_n 0, 1), (96, .getfield 25, 3), (99, .iconst 4, 1), (100, .iaload, 1), (101, .ireturn, 1), (102, .aload_n 0, 1), (103, .getfield 25, 3), (106, .iconst 5, 1), (107, .iaload, 1), (108, .ireturn, 1), (109, .aload_n 0, 1), (110, .getfield 25, 3)]
set_option maxRecDepth 100000 in
theorem tk_X8_count_1 : (tb_X8_count_1.all fun q => decide (decode cX8_count q.1 = .ok q.2)) = true := by decide +kernel
theorem dX8_count_0 : decode cX8_count 0 = .ok (.iconst 0, 1) := tb_d tk_X8_count_1 0 (0, .iconst 0, 1) rfl
theorem dX8_count_1 : decode cX8_count 1 = .ok (.istore_n 2, 1) := tb_d tk_X8_count_1 1 (1, .istore_n 2, 1) rfl
theorem dX8_count_2 : decode cX8_count 2 = .ok (.iload_n 1, 1) := tb_d tk_X8_count_1 2 (2, .iload_n 1, 1) rfl
theorem dX8_count_3 : decode cX8_count 3 = .ok (.tableswitch 175 0 9 #[53, 85, 92, 99, 106, 114, 122, 127, 132, 139], 53) := tb_d tk_X8_count_1 3 (3, .tableswitch 175 0 9 #[53, 85, 92, 99, 106, 114, 122, 127, 132, 139], 53) rfl
theorem dX8_count_56 : decode cX8_count 56 = .ok (.iconst 0, 1) := tb_d tk_X8_count_1 4 (56, .iconst 0, 1) rfl
theorem dX8_count_57 : decode cX8_count 57 = .ok (.istore_n 3, 1) := tb_d tk_X8_count_1 5 (57, .istore_n 3, 1) rfl
theorem dX8_count_58 : decode cX8_count 58 = .ok (.iload_n 3, 1) := tb_d tk_X8_count_1 6 (58, .iload_n 3, 1) rfl
theorem dX8_count_59 : decode cX8_count 59 = .ok (.bipush 8, 2) := tb_d tk_X8_count_1 7 (59, .bipush 8, 2) rfl
theorem dX8_count_61 : decode cX8_count 61 = .ok (.if_icmp .ge 25, 3) := tb_d tk_X8_count_1 8 (61, .if_icmp .ge 25, 3) rfl
theorem dX8_count_64 : decode cX8_count 64 = .ok (.iload_n 2, 1) := tb_d tk_X8_count_1 9 (64, .iload_n 2, 1) rfl
theorem dX8_count_65 : decode cX8_count 65 = .ok (.aload_n 0, 1) := tb_d tk_X8_count_1 10 (65, .aload_n 0, 1) rfl
theorem dX8_count_66 : decode cX8_count 66 = .ok (.iload_n 3, 1) := tb_d tk_X8_count_1 11 (66, .iload_n 3, 1) rfl
theorem dX8_count_67 : decode cX8_count 67 = .ok (.invokevirtual 72, 3) := tb_d tk_X8_count_1 12 (67, .invokevirtual 72, 3) rfl
theorem dX8_count_70 : decode cX8_count 70 = .ok (.ifCond .eq 7, 3) := tb_d tk_X8_count_1 13 (70, .ifCond .eq 7, 3) rfl
theorem dX8_count_73 : decode cX8_count 73 = .ok (.iconst 0, 1) := tb_d tk_X8_count_1 14 (73, .iconst 0, 1) rfl
theorem dX8_count_74 : decode cX8_count 74 = .ok (.goto 4, 3) := tb_d tk_X8_count_1 15 (74, .goto 4, 3) rfl
theorem dX8_count_77 : decode cX8_count 77 = .ok (.iconst 1, 1) := tb_d tk_X8_count_1 16 (77, .iconst 1, 1) rfl
theorem dX8_count_78 : decode cX8_count 78 = .ok (.iadd, 1) := tb_d tk_X8_count_1 17 (78, .iadd, 1) rfl
theorem dX8_count_79 : decode cX8_count 79 = .ok (.istore_n 2, 1) := tb_d tk_X8_count_1 18 (79, .istore_n 2, 1) rfl
theorem dX8_count_80 : decode cX8_count 80 = .ok (.iinc 3 1, 3) := tb_d tk_X8_count_1 19 (80, .iinc 3 1, 3) rfl
theorem dX8_count_83 : decode cX8_count 83 = .ok (.goto (-25), 3) := tb_d tk_X8_count_1 20 (83, .goto (-25), 3) rfl
theorem dX8_count_86 : decode cX8_count 86 = .ok (.iload_n 2, 1) := tb_d tk_X8_count_1 21 (86, .iload_n 2, 1) rfl
theorem dX8_count_87 : decode cX8_count 87 = .ok (.ireturn, 1) := tb_d tk_X8_count_1 22 (87, .ireturn, 1) rfl
theorem dX8_count_88 : decode cX8_count 88 = .ok (.aload_n 0, 1) := tb_d tk_X8_count_1 23 (88, .aload_n 0, 1) rfl
theorem dX8_count_89 : decode cX8_count 89 = .ok (.getfield 25, 3) := tb_d tk_X8_count_1 24 (89, .getfield 25, 3) rfl
theorem dX8_count_92 : decode cX8_count 92 = .ok (.iconst 3, 1) := tb_d tk_X8_count_1 25 (92, .iconst 3, 1) rfl
theorem dX8_count_93 : decode cX8_count 93 = .ok (.iaload, 1) := tb_d tk_X8_count_1 26 (93, .iaload, 1) rfl
theorem dX8_count_94 : decode cX8_count 94 = .ok (.ireturn, 1) := tb_d tk_X8_count_1 27 (94, .ireturn, 1) rfl
theorem dX8_count_95 : decode cX8_count 95 = .ok (.aload_n 0, 1) := tb_d tk_X8_count_1 28 (95, .aload_n 0, 1) rfl
theorem dX8_count_96 : decode cX8_count 96 = .ok (.getfield 25, 3) := tb_d tk_X8_count_1 29 (96, .getfield 25, 3) rfl
theorem dX8_count_99 : decode cX8_count 99 = .ok (.iconst 4, 1) := tb_d tk_X8_count_1 30 (99, .iconst 4, 1) rfl
theorem dX8_count_100 : decode cX8_count 100 = .ok (.iaload, 1) := tb_d tk_X8_count_1 31 (100, .iaload, 1) rfl
theorem dX8_count_101 : decode cX8_count 101 = .ok (.ireturn, 1) := tb_d tk_X8_count_1 32 (101, .ireturn, 1) rfl
theorem dX8_count_102 : decode cX8_count 102 = .ok (.aload_n 0, 1) := tb_d tk_X8_count_1 33 (102, .aload_n 0, 1) rfl
theorem dX8_count_103 : decode cX8_count 103 = .ok (.getfield 25, 3) := tb_d tk_X8_count_1 34 (103, .getfield 25, 3) rfl
theorem dX8_count_106 : decode cX8_count 106 = .ok (.iconst 5, 1) := tb_d tk_X8_count_1 35 (106, .iconst 5, 1) rfl
theorem dX8_count_107 : decode cX8_count 107 = .ok (.iaload, 1) := tb_d tk_X8_count_1 36 (107, .iaload, 1) rfl
theorem dX8_count_108 : decode cX8_count 108 = .ok (.ireturn, 1) := tb_d tk_X8_count_1 37 (108, .ireturn, 1) rfl
theorem dX8_count_109 : decode cX8_count 109 = .ok (.aload_n 0, 1) := tb_d tk_X8_count_1 38 (109, .aload_n 0, 1) rfl
theorem dX8_count_110 : decode cX8_count 110 = .ok (.getfield 25, 3) := tb_d tk_X8_count_1 39 (110, .getfield 25, 3) rfl
def tb_X8_count_2 : List (Nat × Instr × Nat) := [(113, .bipush 7, 2), (115, .iaload, 1), (116, .ireturn, 1), (117, .aload_n 0, 1), (118, .getfield 25, 3), (121, .bipush 6, 2), (123, .iaload, 1), (124, .ireturn, 1), (125, .aload_n 0, 1), (126, .getfield 149, 3), (129, .ireturn, 1), (130, .aload_n 0, 1), (131, .getfield 82, 3), (134, .ireturn, 1), (135, .aload_n 0, 1), (136, .getfield 25, 3), (139, .iconst 0, 1), (140, .iaload, 1), (141, .ireturn, 1), (142, .iconst 0, 1), (143, .istore_n 3, 1), (144, .iload_n 3, 1), (145, .aload_n 0, 1), (146, .getfield 25, 3), (149, .iconst 4, 1), (150, .iaload, 1), (151, .if_icmp .ge 25, 3), (154, .iload_n 2, 1), (155, .aload_n 0, 1), (156, .getfield 25, 3), (159, .bipush 26, 2), (161, .iconst 3, 1), (162, .iload_n 3, 1), (163, .imul, 1), (164, .iadd, 1), (165, .iconst 2, 1), (166, .iadd, 1), (167, .iaload, 1), (168, .iadd, 1), (169, .istore_n 2, 1)]
set_option maxRecDepth 100000 in
theorem tk_X8_count_2 : (tb_X8_count_2.all fun q => decide (decode cX8_count q.1 = .ok q.2)) = true := by decide +kernel
theorem dX8_count_113 : decode cX8_count 113 = .ok (.bipush 7, 2) := tb_d tk_X8_count_2 0 (113, .bipush 7, 2) rfl
theorem dX8_count_115 : decode cX8_count 115 = .ok (.iaload, 1) := tb_d tk_X8_count_2 1 (115, .iaload, 1) rfl
theorem dX8_count_116 : decode cX8_count 116 = .ok (.ireturn, 1) := tb_d tk_X8_count_2 2 (116, .ireturn, 1) rfl
theorem dX8_count_117 : decode cX8_count 117 = .ok (.aload_n 0, 1) := tb_d tk_X8_count_2 3 (117, .aload_n 0, 1) rfl
theorem dX8_count_118 : decode cX8_count 118 = .ok (.getfield 25, 3) := tb_d tk_X8_count_2 4 (118, .getfield 25, 3) rfl
theorem dX8_count_121 : decode cX8_count 121 = .ok (.bipush 6, 2) := tb_d tk_X8_count_2 5 (121, .bipush 6, 2) rfl
theorem dX8_count_123 : decode cX8_count 123 = .ok (.iaload, 1) := tb_d tk_X8_count_2 6 (123, .iaload, 1) rfl
theorem dX8_count_124 : decode cX8_count 124 = .ok (.ireturn, 1) := tb_d tk_X8_count_2 7 (124, .ireturn, 1) rfl
theorem dX8_count_125 : decode cX8_count 125 = .ok (.aload_n 0, 1) := tb_d tk_X8_count_2 8 (125, .aload_n 0, 1) rfl
theorem dX8_count_126 : decode cX8_count 126 = .ok (.getfield 149, 3) := tb_d tk_X8_count_2 9 (126, .getfield 149, 3) rfl
theorem dX8_count_129 : decode cX8_count 129 = .ok (.ireturn, 1) := tb_d tk_X8_count_2 10 (129, .ireturn, 1) rfl
theorem dX8_count_130 : decode cX8_count 130 = .ok (.aload_n 0, 1) := tb_d tk_X8_count_2 11 (130, .aload_n 0, 1) rfl
theorem dX8_count_131 : decode cX8_count 131 = .ok (.getfield 82, 3) := tb_d tk_X8_count_2 12 (131, .getfield 82, 3) rfl
theorem dX8_count_134 : decode cX8_count 134 = .ok (.ireturn, 1) := tb_d tk_X8_count_2 13 (134, .ireturn, 1) rfl
theorem dX8_count_135 : decode cX8_count 135 = .ok (.aload_n 0, 1) := tb_d tk_X8_count_2 14 (135, .aload_n 0, 1) rfl
theorem dX8_count_136 : decode cX8_count 136 = .ok (.getfield 25, 3) := tb_d tk_X8_count_2 15 (136, .getfield 25, 3) rfl
theorem dX8_count_139 : decode cX8_count 139 = .ok (.iconst 0, 1) := tb_d tk_X8_count_2 16 (139, .iconst 0, 1) rfl
theorem dX8_count_140 : decode cX8_count 140 = .ok (.iaload, 1) := tb_d tk_X8_count_2 17 (140, .iaload, 1) rfl
theorem dX8_count_141 : decode cX8_count 141 = .ok (.ireturn, 1) := tb_d tk_X8_count_2 18 (141, .ireturn, 1) rfl
theorem dX8_count_142 : decode cX8_count 142 = .ok (.iconst 0, 1) := tb_d tk_X8_count_2 19 (142, .iconst 0, 1) rfl
theorem dX8_count_143 : decode cX8_count 143 = .ok (.istore_n 3, 1) := tb_d tk_X8_count_2 20 (143, .istore_n 3, 1) rfl
theorem dX8_count_144 : decode cX8_count 144 = .ok (.iload_n 3, 1) := tb_d tk_X8_count_2 21 (144, .iload_n 3, 1) rfl
theorem dX8_count_145 : decode cX8_count 145 = .ok (.aload_n 0, 1) := tb_d tk_X8_count_2 22 (145, .aload_n 0, 1) rfl
theorem dX8_count_146 : decode cX8_count 146 = .ok (.getfield 25, 3) := tb_d tk_X8_count_2 23 (146, .getfield 25, 3) rfl
theorem dX8_count_149 : decode cX8_count 149 = .ok (.iconst 4, 1) := tb_d tk_X8_count_2 24 (149, .iconst 4, 1) rfl
theorem dX8_count_150 : decode cX8_count 150 = .ok (.iaload, 1) := tb_d tk_X8_count_2 25 (150, .iaload, 1) rfl
theorem dX8_count_151 : decode cX8_count 151 = .ok (.if_icmp .ge 25, 3) := tb_d tk_X8_count_2 26 (151, .if_icmp .ge 25, 3) rfl
theorem dX8_count_154 : decode cX8_count 154 = .ok (.iload_n 2, 1) := tb_d tk_X8_count_2 27 (154, .iload_n 2, 1) rfl
theorem dX8_count_155 : decode cX8_count 155 = .ok (.aload_n 0, 1) := tb_d tk_X8_count_2 28 (155, .aload_n 0, 1) rfl
theorem dX8_count_156 : decode cX8_count 156 = .ok (.getfield 25, 3) := tb_d tk_X8_count_2 29 (156, .getfield 25, 3) rfl
theorem dX8_count_159 : decode cX8_count 159 = .ok (.bipush 26, 2) := tb_d tk_X8_count_2 30 (159, .bipush 26, 2) rfl
theorem dX8_count_161 : decode cX8_count 161 = .ok (.iconst 3, 1) := tb_d tk_X8_count_2 31 (161, .iconst 3, 1) rfl
theorem dX8_count_162 : decode cX8_count 162 = .ok (.iload_n 3, 1) := tb_d tk_X8_count_2 32 (162, .iload_n 3, 1) rfl
theorem dX8_count_163 : decode cX8_count 163 = .ok (.imul, 1) := tb_d tk_X8_count_2 33 (163, .imul, 1) rfl
theorem dX8_count_164 : decode cX8_count 164 = .ok (.iadd, 1) := tb_d tk_X8_count_2 34 (164, .iadd, 1) rfl
theorem dX8_count_165 : decode cX8_count 165 = .ok (.iconst 2, 1) := tb_d tk_X8_count_2 35 (165, .iconst 2, 1) rfl
theorem dX8_count_166 : decode cX8_count 166 = .ok (.iadd, 1) := tb_d tk_X8_count_2 36 (166, .iadd, 1) rfl
theorem dX8_count_167 : decode cX8_count 167 = .ok (.iaload, 1) := tb_d tk_X8_count_2 37 (167, .iaload, 1) rfl
theorem dX8_count_168 : decode cX8_count 168 = .ok (.iadd, 1) := tb_d tk_X8_count_2 38 (168, .iadd, 1) rfl
theorem dX8_count_169 : decode cX8_count 169 = .ok (.istore_n 2, 1) := tb_d tk_X8_count_2 39 (169, .istore_n 2, 1) rfl
def tb_X8_count_3 : List (Nat × Instr × Nat) := [(170, .iinc 3 1, 3), (173, .goto (-29), 3), (176, .iload_n 2, 1), (177, .ireturn, 1), (178, .ldc 64, 2), (180, .ireturn, 1)]
set_option maxRecDepth 100000 in
theorem tk_X8_count_3 : (tb_X8_count_3.all fun q => decide (decode cX8_count q.1 = .ok q.2)) = true := by decide +kernel
theorem dX8_count_170 : decode cX8_count 170 = .ok (.iinc 3 1, 3) := tb_d tk_X8_count_3 0 (170, .iinc 3 1, 3) rfl
theorem dX8_count_173 : decode cX8_count 173 = .ok (.goto (-29), 3) := tb_d tk_X8_count_3 1 (173, .goto (-29), 3) rfl
theorem dX8_count_176 : decode cX8_count 176 = .ok (.iload_n 2, 1) := tb_d tk_X8_count_3 2 (176, .iload_n 2, 1) rfl
theorem dX8_count_177 : decode cX8_count 177 = .ok (.ireturn, 1) := tb_d tk_X8_count_3 3 (177, .ireturn, 1) rfl
theorem dX8_count_178 : decode cX8_count 178 = .ok (.ldc 64, 2) := tb_d tk_X8_count_3 4 (178, .ldc 64, 2) rfl
theorem dX8_count_180 : decode cX8_count 180 = .ok (.ireturn, 1) := tb_d tk_X8_count_3 5 (180, .ireturn, 1) rfl
def tb_X8_status_1 : List (Nat × Instr × Nat) := [(0, .aload_n 0, 1), (1, .getfield 51, 3), (4, .ireturn, 1)]
set_option maxRecDepth 100000 in
theorem tk_X8_status_1 : (tb_X8_status_1.all fun q => decide (decode cX8_status q.1 = .ok q.2)) = true := by decide +kernel
theorem dX8_status_0 : decode cX8_status 0 = .ok (.aload_n 0, 1) := tb_d tk_X8_status_1 0 (0, .aload_n 0, 1) rfl
theorem dX8_status_1 : decode cX8_status 1 = .ok (.getfield 51, 3) := tb_d tk_X8_status_1 1 (1, .getfield 51, 3) rfl
theorem dX8_status_4 : decode cX8_status 4 = .ok (.ireturn, 1) := tb_d tk_X8_status_1 2 (4, .ireturn, 1) rfl
def tb_J6_bitCount_0f7a4_1 : List (Nat × Instr × Nat) := [(0, .iload_n 0, 1), (1, .iload_n 0, 1), (2, .iconst 1, 1), (3, .iushr, 1), (4, .ldc_w 265, 3), (7, .iand, 1), (8, .isub, 1), (9, .istore_n 0, 1), (10, .iload_n 0, 1), (11, .ldc_w 266, 3), (14, .iand, 1), (15, .iload_n 0, 1), (16, .iconst 2, 1), (17, .iushr, 1), (18, .ldc_w 266, 3), (21, .iand, 1), (22, .iadd, 1), (23, .istore_n 0, 1), (24, .iload_n 0, 1), (25, .iload_n 0, 1), (26, .iconst 4, 1), (27, .iushr, 1), (28, .iadd, 1), (29, .ldc_w 267, 3), (32, .iand, 1), (33, .istore_n 0, 1), (34, .iload_n 0, 1), (35, .iload_n 0, 1), (36, .bipush 8, 2), (38, .iushr, 1), (39, .iadd, 1), (40, .istore_n 0, 1), (41, .iload_n 0, 1), (42, .iload_n 0, 1), (43, .bipush 16, 2), (45, .iushr, 1), (46, .iadd, 1), (47, .istore_n 0, 1), (48, .iload_n 0, 1), (49, .bipush 63, 2)]
set_option maxRecDepth 100000 in
theorem tk_J6_bitCount_0f7a4_1 : (tb_J6_bitCount_0f7a4_1.all fun q => decide (decode cJ6_bitCount_0f7a4 q.1 = .ok q.2)) = true := by decide +kernel
theorem dJ6_bitCount_0f7a4_0 : decode cJ6_bitCount_0f7a4 0 = .ok (.iload_n 0, 1) := tb_d tk_J6_bitCount_0f7a4_1 0 (0, .iload_n 0, 1) rfl
theorem dJ6_bitCount_0f7a4_1 : decode cJ6_bitCount_0f7a4 1 = .ok (.iload_n 0, 1) := tb_d tk_J6_bitCount_0f7a4_1 1 (1, .iload_n 0, 1) rfl
theorem dJ6_bitCount_0f7a4_2 : decode cJ6_bitCount_0f7a4 2 = .ok (.iconst 1, 1) := tb_d tk_J6_bitCount_0f7a4_1 2 (2, .iconst 1, 1) rfl
theorem dJ6_bitCount_0f7a4_3 : decode cJ6_bitCount_0f7a4 3 = .ok (.iushr, 1) := tb_d tk_J6_bitCount_0f7a4_1 3 (3, .iushr, 1) rfl
theorem dJ6_bitCount_0f7a4_4 : decode cJ6_bitCount_0f7a4 4 = .ok (.ldc_w 265, 3) := tb_d tk_J6_bitCount_0f7a4_1 4 (4, .ldc_w 265, 3) rfl
theorem dJ6_bitCount_0f7a4_7 : decode cJ6_bitCount_0f7a4 7 = .ok (.iand, 1) := tb_d tk_J6_bitCount_0f7a4_1 5 (7, .iand, 1) rfl
theorem dJ6_bitCount_0f7a4_8 : decode cJ6_bitCount_0f7a4 8 = .ok (.isub, 1) := tb_d tk_J6_bitCount_0f7a4_1 6 (8, .isub, 1) rfl
theorem dJ6_bitCount_0f7a4_9 : decode cJ6_bitCount_0f7a4 9 = .ok (.istore_n 0, 1) := tb_d tk_J6_bitCount_0f7a4_1 7 (9, .istore_n 0, 1) rfl
theorem dJ6_bitCount_0f7a4_10 : decode cJ6_bitCount_0f7a4 10 = .ok (.iload_n 0, 1) := tb_d tk_J6_bitCount_0f7a4_1 8 (10, .iload_n 0, 1) rfl
theorem dJ6_bitCount_0f7a4_11 : decode cJ6_bitCount_0f7a4 11 = .ok (.ldc_w 266, 3) := tb_d tk_J6_bitCount_0f7a4_1 9 (11, .ldc_w 266, 3) rfl
theorem dJ6_bitCount_0f7a4_14 : decode cJ6_bitCount_0f7a4 14 = .ok (.iand, 1) := tb_d tk_J6_bitCount_0f7a4_1 10 (14, .iand, 1) rfl
theorem dJ6_bitCount_0f7a4_15 : decode cJ6_bitCount_0f7a4 15 = .ok (.iload_n 0, 1) := tb_d tk_J6_bitCount_0f7a4_1 11 (15, .iload_n 0, 1) rfl
theorem dJ6_bitCount_0f7a4_16 : decode cJ6_bitCount_0f7a4 16 = .ok (.iconst 2, 1) := tb_d tk_J6_bitCount_0f7a4_1 12 (16, .iconst 2, 1) rfl
theorem dJ6_bitCount_0f7a4_17 : decode cJ6_bitCount_0f7a4 17 = .ok (.iushr, 1) := tb_d tk_J6_bitCount_0f7a4_1 13 (17, .iushr, 1) rfl
theorem dJ6_bitCount_0f7a4_18 : decode cJ6_bitCount_0f7a4 18 = .ok (.ldc_w 266, 3) := tb_d tk_J6_bitCount_0f7a4_1 14 (18, .ldc_w 266, 3) rfl
theorem dJ6_bitCount_0f7a4_21 : decode cJ6_bitCount_0f7a4 21 = .ok (.iand, 1) := tb_d tk_J6_bitCount_0f7a4_1 15 (21, .iand, 1) rfl
theorem dJ6_bitCount_0f7a4_22 : decode cJ6_bitCount_0f7a4 22 = .ok (.iadd, 1) := tb_d tk_J6_bitCount_0f7a4_1 16 (22, .iadd, 1) rfl
theorem dJ6_bitCount_0f7a4_23 : decode cJ6_bitCount_0f7a4 23 = .ok (.istore_n 0, 1) := tb_d tk_J6_bitCount_0f7a4_1 17 (23, .istore_n 0, 1) rfl
theorem dJ6_bitCount_0f7a4_24 : decode cJ6_bitCount_0f7a4 24 = .ok (.iload_n 0, 1) := tb_d tk_J6_bitCount_0f7a4_1 18 (24, .iload_n 0, 1) rfl
theorem dJ6_bitCount_0f7a4_25 : decode cJ6_bitCount_0f7a4 25 = .ok (.iload_n 0, 1) := tb_d tk_J6_bitCount_0f7a4_1 19 (25, .iload_n 0, 1) rfl
theorem dJ6_bitCount_0f7a4_26 : decode cJ6_bitCount_0f7a4 26 = .ok (.iconst 4, 1) := tb_d tk_J6_bitCount_0f7a4_1 20 (26, .iconst 4, 1) rfl
theorem dJ6_bitCount_0f7a4_27 : decode cJ6_bitCount_0f7a4 27 = .ok (.iushr, 1) := tb_d tk_J6_bitCount_0f7a4_1 21 (27, .iushr, 1) rfl
theorem dJ6_bitCount_0f7a4_28 : decode cJ6_bitCount_0f7a4 28 = .ok (.iadd, 1) := tb_d tk_J6_bitCount_0f7a4_1 22 (28, .iadd, 1) rfl
theorem dJ6_bitCount_0f7a4_29 : decode cJ6_bitCount_0f7a4 29 = .ok (.ldc_w 267, 3) := tb_d tk_J6_bitCount_0f7a4_1 23 (29, .ldc_w 267, 3) rfl
theorem dJ6_bitCount_0f7a4_32 : decode cJ6_bitCount_0f7a4 32 = .ok (.iand, 1) := tb_d tk_J6_bitCount_0f7a4_1 24 (32, .iand, 1) rfl
theorem dJ6_bitCount_0f7a4_33 : decode cJ6_bitCount_0f7a4 33 = .ok (.istore_n 0, 1) := tb_d tk_J6_bitCount_0f7a4_1 25 (33, .istore_n 0, 1) rfl
theorem dJ6_bitCount_0f7a4_34 : decode cJ6_bitCount_0f7a4 34 = .ok (.iload_n 0, 1) := tb_d tk_J6_bitCount_0f7a4_1 26 (34, .iload_n 0, 1) rfl
theorem dJ6_bitCount_0f7a4_35 : decode cJ6_bitCount_0f7a4 35 = .ok (.iload_n 0, 1) := tb_d tk_J6_bitCount_0f7a4_1 27 (35, .iload_n 0, 1) rfl
theorem dJ6_bitCount_0f7a4_36 : decode cJ6_bitCount_0f7a4 36 = .ok (.bipush 8, 2) := tb_d tk_J6_bitCount_0f7a4_1 28 (36, .bipush 8, 2) rfl
theorem dJ6_bitCount_0f7a4_38 : decode cJ6_bitCount_0f7a4 38 = .ok (.iushr, 1) := tb_d tk_J6_bitCount_0f7a4_1 29 (38, .iushr, 1) rfl
theorem dJ6_bitCount_0f7a4_39 : decode cJ6_bitCount_0f7a4 39 = .ok (.iadd, 1) := tb_d tk_J6_bitCount_0f7a4_1 30 (39, .iadd, 1) rfl
theorem dJ6_bitCount_0f7a4_40 : decode cJ6_bitCount_0f7a4 40 = .ok (.istore_n 0, 1) := tb_d tk_J6_bitCount_0f7a4_1 31 (40, .istore_n 0, 1) rfl
theorem dJ6_bitCount_0f7a4_41 : decode cJ6_bitCount_0f7a4 41 = .ok (.iload_n 0, 1) := tb_d tk_J6_bitCount_0f7a4_1 32 (41, .iload_n 0, 1) rfl
theorem dJ6_bitCount_0f7a4_42 : decode cJ6_bitCount_0f7a4 42 = .ok (.iload_n 0, 1) := tb_d tk_J6_bitCount_0f7a4_1 33 (42, .iload_n 0, 1) rfl
theorem dJ6_bitCount_0f7a4_43 : decode cJ6_bitCount_0f7a4 43 = .ok (.bipush 16, 2) := tb_d tk_J6_bitCount_0f7a4_1 34 (43, .bipush 16, 2) rfl
theorem dJ6_bitCount_0f7a4_45 : decode cJ6_bitCount_0f7a4 45 = .ok (.iushr, 1) := tb_d tk_J6_bitCount_0f7a4_1 35 (45, .iushr, 1) rfl
theorem dJ6_bitCount_0f7a4_46 : decode cJ6_bitCount_0f7a4 46 = .ok (.iadd, 1) := tb_d tk_J6_bitCount_0f7a4_1 36 (46, .iadd, 1) rfl
theorem dJ6_bitCount_0f7a4_47 : decode cJ6_bitCount_0f7a4 47 = .ok (.istore_n 0, 1) := tb_d tk_J6_bitCount_0f7a4_1 37 (47, .istore_n 0, 1) rfl
theorem dJ6_bitCount_0f7a4_48 : decode cJ6_bitCount_0f7a4 48 = .ok (.iload_n 0, 1) := tb_d tk_J6_bitCount_0f7a4_1 38 (48, .iload_n 0, 1) rfl
theorem dJ6_bitCount_0f7a4_49 : decode cJ6_bitCount_0f7a4 49 = .ok (.bipush 63, 2) := tb_d tk_J6_bitCount_0f7a4_1 39 (49, .bipush 63, 2) rfl
def tb_J6_bitCount_0f7a4_2 : List (Nat × Instr × Nat) := [(51, .iand, 1), (52, .ireturn, 1)]
set_option maxRecDepth 100000 in
theorem tk_J6_bitCount_0f7a4_2 : (tb_J6_bitCount_0f7a4_2.all fun q => decide (decode cJ6_bitCount_0f7a4 q.1 = .ok q.2)) = true := by decide +kernel
theorem dJ6_bitCount_0f7a4_51 : decode cJ6_bitCount_0f7a4 51 = .ok (.iand, 1) := tb_d tk_J6_bitCount_0f7a4_2 0 (51, .iand, 1) rfl
theorem dJ6_bitCount_0f7a4_52 : decode cJ6_bitCount_0f7a4 52 = .ok (.ireturn, 1) := tb_d tk_J6_bitCount_0f7a4_2 1 (52, .ireturn, 1) rfl
def tb_J9_max_7cf53_1 : List (Nat × Instr × Nat) := [(0, .iload_n 0, 1), (1, .iload_n 1, 1), (2, .if_icmp .lt 7, 3), (5, .iload_n 0, 1), (6, .goto 4, 3), (9, .iload_n 1, 1), (10, .ireturn, 1)]
set_option maxRecDepth 100000 in
theorem tk_J9_max_7cf53_1 : (tb_J9_max_7cf53_1.all fun q => decide (decode cJ9_max_7cf53 q.1 = .ok q.2)) = true := by decide +kernel
theorem dJ9_max_7cf53_0 : decode cJ9_max_7cf53 0 = .ok (.iload_n 0, 1) := tb_d tk_J9_max_7cf53_1 0 (0, .iload_n 0, 1) rfl
theorem dJ9_max_7cf53_1 : decode cJ9_max_7cf53 1 = .ok (.iload_n 1, 1) := tb_d tk_J9_max_7cf53_1 1 (1, .iload_n 1, 1) rfl
theorem dJ9_max_7cf53_2 : decode cJ9_max_7cf53 2 = .ok (.if_icmp .lt 7, 3) := tb_d tk_J9_max_7cf53_1 2 (2, .if_icmp .lt 7, 3) rfl
theorem dJ9_max_7cf53_5 : decode cJ9_max_7cf53 5 = .ok (.iload_n 0, 1) := tb_d tk_J9_max_7cf53_1 3 (5, .iload_n 0, 1) rfl
theorem dJ9_max_7cf53_6 : decode cJ9_max_7cf53 6 = .ok (.goto 4, 3) := tb_d tk_J9_max_7cf53_1 4 (6, .goto 4, 3) rfl
theorem dJ9_max_7cf53_9 : decode cJ9_max_7cf53 9 = .ok (.iload_n 1, 1) := tb_d tk_J9_max_7cf53_1 5 (9, .iload_n 1, 1) rfl
theorem dJ9_max_7cf53_10 : decode cJ9_max_7cf53 10 = .ok (.ireturn, 1) := tb_d tk_J9_max_7cf53_1 6 (10, .ireturn, 1) rfl
def tb_J9_min_7cf53_1 : List (Nat × Instr × Nat) := [(0, .iload_n 0, 1), (1, .iload_n 1, 1), (2, .if_icmp .gt 7, 3), (5, .iload_n 0, 1), (6, .goto 4, 3), (9, .iload_n 1, 1), (10, .ireturn, 1)]
set_option maxRecDepth 100000 in
theorem tk_J9_min_7cf53_1 : (tb_J9_min_7cf53_1.all fun q => decide (decode cJ9_min_7cf53 q.1 = .ok q.2)) = true := by decide +kernel
theorem dJ9_min_7cf53_0 : decode cJ9_min_7cf53 0 = .ok (.iload_n 0, 1) := tb_d tk_J9_min_7cf53_1 0 (0, .iload_n 0, 1) rfl
theorem dJ9_min_7cf53_1 : decode cJ9_min_7cf53 1 = .ok (.iload_n 1, 1) := tb_d tk_J9_min_7cf53_1 1 (1, .iload_n 1, 1) rfl
theorem dJ9_min_7cf53_2 : decode cJ9_min_7cf53 2 = .ok (.if_icmp .gt 7, 3) := tb_d tk_J9_min_7cf53_1 2 (2, .if_icmp .gt 7, 3) rfl
theorem dJ9_min_7cf53_5 : decode cJ9_min_7cf53 5 = .ok (.iload_n 0, 1) := tb_d tk_J9_min_7cf53_1 3 (5, .iload_n 0, 1) rfl
theorem dJ9_min_7cf53_6 : decode cJ9_min_7cf53 6 = .ok (.goto 4, 3) := tb_d tk_J9_min_7cf53_1 4 (6, .goto 4, 3) rfl
theorem dJ9_min_7cf53_9 : decode cJ9_min_7cf53 9 = .ok (.iload_n 1, 1) := tb_d tk_J9_min_7cf53_1 5 (9, .iload_n 1, 1) rfl
theorem dJ9_min_7cf53_10 : decode cJ9_min_7cf53 10 = .ok (.ireturn, 1) := tb_d tk_J9_min_7cf53_1 6 (10, .ireturn, 1) rfl
abbrev vwCl : List vw_C := [(RX0, TX0, 3), (RX1, TX1, 6), (RX2, TX2, 8), (RX3, TX3, 2), (RX4, TX4, 8), (RX5, TX5, 3), (RX6, TX6, 7), (RX7, TX7, 9), (RX8, TX8, 23)]

