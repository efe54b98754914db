theorem dX6_readGuard_74 : decode cX6_readGuard 74 = .ok (.aload_n 0, 1) := tb_d tk_X6_readGuard_2 0 (74, .aload_n 0, 1) rfl
theorem dX6_readGuard_75 : decode cX6_readGuard 75 = .ok (.getfield 18, 3) := tb_d tk_X6_readGuard_2 1 (75, .getfield 18, 3) rfl
theorem dX6_readGuard_78 : decode cX6_readGuard 78 = .ok (.getfield 99, 3) := tb_d tk_X6_readGuard_2 2 (78, .getfield 99, 3) rfl
theorem dX6_readGuard_81 : decode cX6_readGuard 81 = .ok (.aload_n 0, 1) := tb_d tk_X6_readGuard_2 3 (81, .aload_n 0, 1) rfl
theorem dX6_readGuard_82 : decode cX6_readGuard 82 = .ok (.getfield 18, 3) := tb_d tk_X6_readGuard_2 4 (82, .getfield 18, 3) rfl
theorem dX6_readGuard_85 : decode cX6_readGuard 85 = .ok (.getfield 32, 3) := tb_d tk_X6_readGuard_2 5 (85, .getfield 32, 3) rfl
theorem dX6_readGuard_88 : decode cX6_readGuard 88 = .ok (.aload_n 0, 1) := tb_d tk_X6_readGuard_2 6 (88, .aload_n 0, 1) rfl
theorem dX6_readGuard_89 : decode cX6_readGuard 89 = .ok (.getfield 66, 3) := tb_d tk_X6_readGuard_2 7 (89, .getfield 66, 3) rfl
theorem dX6_readGuard_92 : decode cX6_readGuard 92 = .ok (.iastore, 1) := tb_d tk_X6_readGuard_2 8 (92, .iastore, 1) rfl
theorem dX6_readGuard_93 : decode cX6_readGuard 93 = .ok (.aload_n 0, 1) := tb_d tk_X6_readGuard_2 9 (93, .aload_n 0, 1) rfl
theorem dX6_readGuard_94 : decode cX6_readGuard 94 = .ok (.getfield 18, 3) := tb_d tk_X6_readGuard_2 10 (94, .getfield 18, 3) rfl
theorem dX6_readGuard_97 : decode cX6_readGuard 97 = .ok (.dup, 1) := tb_d tk_X6_readGuard_2 11 (97, .dup, 1) rfl
theorem dX6_readGuard_98 : decode cX6_readGuard 98 = .ok (.getfield 32, 3) := tb_d tk_X6_readGuard_2 12 (98, .getfield 32, 3) rfl
theorem dX6_readGuard_101 : decode cX6_readGuard 101 = .ok (.iconst 1, 1) := tb_d tk_X6_readGuard_2 13 (101, .iconst 1, 1) rfl
theorem dX6_readGuard_102 : decode cX6_readGuard 102 = .ok (.iadd, 1) := tb_d tk_X6_readGuard_2 14 (102, .iadd, 1) rfl
theorem dX6_readGuard_103 : decode cX6_readGuard 103 = .ok (.putfield 32, 3) := tb_d tk_X6_readGuard_2 15 (103, .putfield 32, 3) rfl
theorem dX6_readGuard_106 : decode cX6_readGuard 106 = .ok (.aload_n 0, 1) := tb_d tk_X6_readGuard_2 16 (106, .aload_n 0, 1) rfl
theorem dX6_readGuard_107 : decode cX6_readGuard 107 = .ok (.bipush 59, 2) := tb_d tk_X6_readGuard_2 17 (107, .bipush 59, 2) rfl
theorem dX6_readGuard_109 : decode cX6_readGuard 109 = .ok (.invokevirtual 59, 3) := tb_d tk_X6_readGuard_2 18 (109, .invokevirtual 59, 3) rfl
theorem dX6_readGuard_112 : decode cX6_readGuard 112 = .ok (.ireturn, 1) := tb_d tk_X6_readGuard_2 19 (112, .ireturn, 1) rfl
def tb_X6_kindOf_1 : List (Nat × Instr × Nat) := [(0, .iload_n 0, 1), (1, .lookupswitch 61 #[(100, 57), (101, 55), (103, 59), (107, 51), (115, 53)], 51), (52, .iconst 1, 1), (53, .ireturn, 1), (54, .iconst 2, 1), (55, .ireturn, 1), (56, .iconst 3, 1), (57, .ireturn, 1), (58, .iconst 4, 1), (59, .ireturn, 1), (60, .iconst 5, 1), (61, .ireturn, 1), (62, .ldc 95, 2), (64, .ireturn, 1)]
set_option maxRecDepth 100000 in
theorem tk_X6_kindOf_1 : (tb_X6_kindOf_1.all fun q => decide (decode cX6_kindOf q.1 = .ok q.2)) = true := by decide +kernel
theorem dX6_kindOf_0 : decode cX6_kindOf 0 = .ok (.iload_n 0, 1) := tb_d tk_X6_kindOf_1 0 (0, .iload_n 0, 1) rfl
theorem dX6_kindOf_1 : decode cX6_kindOf 1 = .ok (.lookupswitch 61 #[(100, 57), (101, 55), (103, 59), (107, 51), (115, 53)], 51) := tb_d tk_X6_kindOf_1 1 (1, .lookupswitch 61 #[(100, 57), (101, 55), (103, 59), (107, 51), (115, 53)], 51) rfl
theorem dX6_kindOf_52 : decode cX6_kindOf 52 = .ok (.iconst 1, 1) := tb_d tk_X6_kindOf_1 2 (52, .iconst 1, 1) rfl
theorem dX6_kindOf_53 : decode cX6_kindOf 53 = .ok (.ireturn, 1) := tb_d tk_X6_kindOf_1 3 (53, .ireturn, 1) rfl
theorem dX6_kindOf_54 : decode cX6_kindOf 54 = .ok (.iconst 2, 1) := tb_d tk_X6_kindOf_1 4 (54, .iconst 2, 1) rfl
theorem dX6_kindOf_55 : decode cX6_kindOf 55 = .ok (.ireturn, 1) := tb_d tk_X6_kindOf_1 5 (55, .ireturn, 1) rfl
theorem dX6_kindOf_56 : decode cX6_kindOf 56 = .ok (.iconst 3, 1) := tb_d tk_X6_kindOf_1 6 (56, .iconst 3, 1) rfl
theorem dX6_kindOf_57 : decode cX6_kindOf 57 = .ok (.ireturn, 1) := tb_d tk_X6_kindOf_1 7 (57, .ireturn, 1) rfl
theorem dX6_kindOf_58 : decode cX6_kindOf 58 = .ok (.iconst 4, 1) := tb_d tk_X6_kindOf_1 8 (58, .iconst 4, 1) rfl
theorem dX6_kindOf_59 : decode cX6_kindOf 59 = .ok (.ireturn, 1) := tb_d tk_X6_kindOf_1 9 (59, .ireturn, 1) rfl
theorem dX6_kindOf_60 : decode cX6_kindOf 60 = .ok (.iconst 5, 1) := tb_d tk_X6_kindOf_1 10 (60, .iconst 5, 1) rfl
theorem dX6_kindOf_61 : decode cX6_kindOf 61 = .ok (.ireturn, 1) := tb_d tk_X6_kindOf_1 11 (61, .ireturn, 1) rfl
theorem dX6_kindOf_62 : decode cX6_kindOf 62 = .ok (.ldc 95, 2) := tb_d tk_X6_kindOf_1 12 (62, .ldc 95, 2) rfl
theorem dX6_kindOf_64 : decode cX6_kindOf 64 = .ok (.ireturn, 1) := tb_d tk_X6_kindOf_1 13 (64, .ireturn, 1) rfl
theorem ggX6_readSign_X6_here : GoodIn wsX6_readSign wsX6_here := fun w h => ⟨List.mem_cons_of_mem _ (List.mem_append_right _ (List.mem_append_right _ (List.mem_append_left _ h))), good_of_word (gdX6_here w h)⟩
set_option maxRecDepth 20000 in
theorem gX6_readSign_X6_here : GoodIn wsX6_readSign (wsV RX6 42 RX6 yX6_here wsX6_here) := goodIn_app (goodIn_of _ (by decide +kernel)) ggX6_readSign_X6_here
theorem ggX6_readSign_X6_faulty : GoodIn wsX6_readSign wsX6_faulty := fun w h => ⟨List.mem_cons_of_mem _ (List.mem_append_right _ (List.mem_append_right _ (List.mem_append_right _ (List.mem_append_left _ h)))), good_of_word (gdX6_faulty w h)⟩
set_option maxRecDepth 20000 in
theorem gX6_readSign_X6_faulty : GoodIn wsX6_readSign (wsV RX6 78 RX6 yX6_faulty wsX6_faulty) := goodIn_app (goodIn_of _ (by decide +kernel)) ggX6_readSign_X6_faulty
def tb_X6_readSign_1 : List (Nat × Instr × Nat) := [(0, .aload_n 0, 1), (1, .invokevirtual 42, 3), (4, .iload_n 1, 1), (5, .if_icmp .eq 9, 3), (8, .aload_n 0, 1), (9, .iconst 1, 1), (10, .invokevirtual 78, 3), (13, .ireturn, 1), (14, .aload_n 0, 1), (15, .dup, 1), (16, .getfield 26, 3), (19, .iconst 1, 1), (20, .iadd, 1), (21, .putfield 26, 3), (24, .iconst 1, 1), (25, .ireturn, 1)]
set_option maxRecDepth 100000 in
theorem tk_X6_readSign_1 : (tb_X6_readSign_1.all fun q => decide (decode cX6_readSign q.1 = .ok q.2)) = true := by decide +kernel
theorem dX6_readSign_0 : decode cX6_readSign 0 = .ok (.aload_n 0, 1) := tb_d tk_X6_readSign_1 0 (0, .aload_n 0, 1) rfl
theorem dX6_readSign_1 : decode cX6_readSign 1 = .ok (.invokevirtual 42, 3) := tb_d tk_X6_readSign_1 1 (1, .invokevirtual 42, 3) rfl
theorem dX6_readSign_4 : decode cX6_readSign 4 = .ok (.iload_n 1, 1) := tb_d tk_X6_readSign_1 2 (4, .iload_n 1, 1) rfl
theorem dX6_readSign_5 : decode cX6_readSign 5 = .ok (.if_icmp .eq 9, 3) := tb_d tk_X6_readSign_1 3 (5, .if_icmp .eq 9, 3) rfl
theorem dX6_readSign_8 : decode cX6_readSign 8 = .ok (.aload_n 0, 1) := tb_d tk_X6_readSign_1 4 (8, .aload_n 0, 1) rfl
theorem dX6_readSign_9 : decode cX6_readSign 9 = .ok (.iconst 1, 1) := tb_d tk_X6_readSign_1 5 (9, .iconst 1, 1) rfl
theorem dX6_readSign_10 : decode cX6_readSign 10 = .ok (.invokevirtual 78, 3) := tb_d tk_X6_readSign_1 6 (10, .invokevirtual 78, 3) rfl
theorem dX6_readSign_13 : decode cX6_readSign 13 = .ok (.ireturn, 1) := tb_d tk_X6_readSign_1 7 (13, .ireturn, 1) rfl
theorem dX6_readSign_14 : decode cX6_readSign 14 = .ok (.aload_n 0, 1) := tb_d tk_X6_readSign_1 8 (14, .aload_n 0, 1) rfl
theorem dX6_readSign_15 : decode cX6_readSign 15 = .ok (.dup, 1) := tb_d tk_X6_readSign_1 9 (15, .dup, 1) rfl
theorem dX6_readSign_16 : decode cX6_readSign 16 = .ok (.getfield 26, 3) := tb_d tk_X6_readSign_1 10 (16, .getfield 26, 3) rfl
theorem dX6_readSign_19 : decode cX6_readSign 19 = .ok (.iconst 1, 1) := tb_d tk_X6_readSign_1 11 (19, .iconst 1, 1) rfl
theorem dX6_readSign_20 : decode cX6_readSign 20 = .ok (.iadd, 1) := tb_d tk_X6_readSign_1 12 (20, .iadd, 1) rfl
theorem dX6_readSign_21 : decode cX6_readSign 21 = .ok (.putfield 26, 3) := tb_d tk_X6_readSign_1 13 (21, .putfield 26, 3) rfl
theorem dX6_readSign_24 : decode cX6_readSign 24 = .ok (.iconst 1, 1) := tb_d tk_X6_readSign_1 14 (24, .iconst 1, 1) rfl
theorem dX6_readSign_25 : decode cX6_readSign 25 = .ok (.ireturn, 1) := tb_d tk_X6_readSign_1 15 (25, .ireturn, 1) rfl
theorem ggX6_readNumber_X6_isFigure : GoodIn wsX6_readNumber wsX6_isFigure := fun w h => ⟨List.mem_cons_of_mem _ (List.mem_append_right _ (List.mem_append_right _ (List.mem_append_left _ h))), good_of_word (gdX6_isFigure w h)⟩
set_option maxRecDepth 20000 in
theorem gX6_readNumber_X6_isFigure : GoodIn wsX6_readNumber (va_wsS RX6 102 yX6_isFigure wsX6_isFigure) := goodIn_app (goodIn_of _ (by decide +kernel)) ggX6_readNumber_X6_isFigure
theorem ggX6_readNumber_X6_faulty : GoodIn wsX6_readNumber wsX6_faulty := fun w h => ⟨List.mem_cons_of_mem _ (List.mem_append_right _ (List.mem_append_right _ (List.mem_append_right _ (List.mem_append_left _ h)))), good_of_word (gdX6_faulty w h)⟩
set_option maxRecDepth 20000 in
theorem gX6_readNumber_X6_faulty : GoodIn wsX6_readNumber (wsV RX6 78 RX6 yX6_faulty wsX6_faulty) := goodIn_app (goodIn_of _ (by decide +kernel)) ggX6_readNumber_X6_faulty
def tb_X6_readNumber_1 : List (Nat × Instr × Nat) := [(0, .iconst 0, 1), (1, .istore_n 2, 1), (2, .aload_n 0, 1), (3, .iconst 0, 1), (4, .putfield 66, 3), (7, .aload_n 0, 1), (8, .getfield 26, 3), (11, .istore_n 3, 1), (12, .iload_n 3, 1), (13, .aload_n 0, 1), (14, .getfield 22, 3), (17, .if_icmp .ge 50, 3), (20, .iload_n 2, 1), (21, .iconst 3, 1), (22, .if_icmp .ge 45, 3), (25, .aload_n 0, 1), (26, .getfield 9, 3), (29, .iload_n 3, 1), (30, .iaload, 1), (31, .invokestatic 102, 3), (34, .ifCond .eq 33, 3), (37, .aload_n 0, 1), (38, .aload_n 0, 1), (39, .getfield 66, 3), (42, .bipush 10, 2), (44, .imul, 1), (45, .aload_n 0, 1), (46, .getfield 9, 3), (49, .iload_n 3, 1), (50, .iaload, 1), (51, .iadd, 1), (52, .bipush 48, 2), (54, .isub, 1), (55, .putfield 66, 3), (58, .iinc 2 1, 3), (61, .iinc 3 1, 3), (64, .goto (-52), 3), (67, .iload_n 2, 1), (68, .ifCond .eq 8, 3), (71, .iload_n 2, 1)]
set_option maxRecDepth 100000 in
theorem tk_X6_readNumber_1 : (tb_X6_readNumber_1.all fun q => decide (decode cX6_readNumber q.1 = .ok q.2)) = true := by decide +kernel
theorem dX6_readNumber_0 : decode cX6_readNumber 0 = .ok (.iconst 0, 1) := tb_d tk_X6_readNumber_1 0 (0, .iconst 0, 1) rfl
theorem dX6_readNumber_1 : decode cX6_readNumber 1 = .ok (.istore_n 2, 1) := tb_d tk_X6_readNumber_1 1 (1, .istore_n 2, 1) rfl
theorem dX6_readNumber_2 : decode cX6_readNumber 2 = .ok (.aload_n 0, 1) := tb_d tk_X6_readNumber_1 2 (2, .aload_n 0, 1) rfl
theorem dX6_readNumber_3 : decode cX6_readNumber 3 = .ok (.iconst 0, 1) := tb_d tk_X6_readNumber_1 3 (3, .iconst 0, 1) rfl
theorem dX6_readNumber_4 : decode cX6_readNumber 4 = .ok (.putfield 66, 3) := tb_d tk_X6_readNumber_1 4 (4, .putfield 66, 3) rfl
theorem dX6_readNumber_7 : decode cX6_readNumber 7 = .ok (.aload_n 0, 1) := tb_d tk_X6_readNumber_1 5 (7, .aload_n 0, 1) rfl
theorem dX6_readNumber_8 : decode cX6_readNumber 8 = .ok (.getfield 26, 3) := tb_d tk_X6_readNumber_1 6 (8, .getfield 26, 3) rfl
theorem dX6_readNumber_11 : decode cX6_readNumber 11 = .ok (.istore_n 3, 1) := tb_d tk_X6_readNumber_1 7 (11, .istore_n 3, 1) rfl
theorem dX6_readNumber_12 : decode cX6_readNumber 12 = .ok (.iload_n 3, 1) := tb_d tk_X6_readNumber_1 8 (12, .iload_n 3, 1) rfl
theorem dX6_readNumber_13 : decode cX6_readNumber 13 = .ok (.aload_n 0, 1) := tb_d tk_X6_readNumber_1 9 (13, .aload_n 0, 1) rfl
theorem dX6_readNumber_14 : decode cX6_readNumber 14 = .ok (.getfield 22, 3) := tb_d tk_X6_readNumber_1 10 (14, .getfield 22, 3) rfl
theorem dX6_readNumber_17 : decode cX6_readNumber 17 = .ok (.if_icmp .ge 50, 3) := tb_d tk_X6_readNumber_1 11 (17, .if_icmp .ge 50, 3) rfl
theorem dX6_readNumber_20 : decode cX6_readNumber 20 = .ok (.iload_n 2, 1) := tb_d tk_X6_readNumber_1 12 (20, .iload_n 2, 1) rfl
theorem dX6_readNumber_21 : decode cX6_readNumber 21 = .ok (.iconst 3, 1) := tb_d tk_X6_readNumber_1 13 (21, .iconst 3, 1) rfl
theorem dX6_readNumber_22 : decode cX6_readNumber 22 = .ok (.if_icmp .ge 45, 3) := tb_d tk_X6_readNumber_1 14 (22, .if_icmp .ge 45, 3) rfl
theorem dX6_readNumber_25 : decode cX6_readNumber 25 = .ok (.aload_n 0, 1) := tb_d tk_X6_readNumber_1 15 (25, .aload_n 0, 1) rfl
theorem dX6_readNumber_26 : decode cX6_readNumber 26 = .ok (.getfield 9, 3) := tb_d tk_X6_readNumber_1 16 (26, .getfield 9, 3) rfl
theorem dX6_readNumber_29 : decode cX6_readNumber 29 = .ok (.iload_n 3, 1) := tb_d tk_X6_readNumber_1 17 (29, .iload_n 3, 1) rfl
theorem dX6_readNumber_30 : decode cX6_readNumber 30 = .ok (.iaload, 1) := tb_d tk_X6_readNumber_1 18 (30, .iaload, 1) rfl
theorem dX6_readNumber_31 : decode cX6_readNumber 31 = .ok (.invokestatic 102, 3) := tb_d tk_X6_readNumber_1 19 (31, .invokestatic 102, 3) rfl
theorem dX6_readNumber_34 : decode cX6_readNumber 34 = .ok (.ifCond .eq 33, 3) := tb_d tk_X6_readNumber_1 20 (34, .ifCond .eq 33, 3) rfl
theorem dX6_readNumber_37 : decode cX6_readNumber 37 = .ok (.aload_n 0, 1) := tb_d tk_X6_readNumber_1 21 (37, .aload_n 0, 1) rfl
theorem dX6_readNumber_38 : decode cX6_readNumber 38 = .ok (.aload_n 0, 1) := tb_d tk_X6_readNumber_1 22 (38, .aload_n 0, 1) rfl
theorem dX6_readNumber_39 : decode cX6_readNumber 39 = .ok (.getfield 66, 3) := tb_d tk_X6_readNumber_1 23 (39, .getfield 66, 3) rfl
theorem dX6_readNumber_42 : decode cX6_readNumber 42 = .ok (.bipush 10, 2) := tb_d tk_X6_readNumber_1 24 (42, .bipush 10, 2) rfl
theorem dX6_readNumber_44 : decode cX6_readNumber 44 = .ok (.imul, 1) := tb_d tk_X6_readNumber_1 25 (44, .imul, 1) rfl
theorem dX6_readNumber_45 : decode cX6_readNumber 45 = .ok (.aload_n 0, 1) := tb_d tk_X6_readNumber_1 26 (45, .aload_n 0, 1) rfl
theorem dX6_readNumber_46 : decode cX6_readNumber 46 = .ok (.getfield 9, 3) := tb_d tk_X6_readNumber_1 27 (46, .getfield 9, 3) rfl
theorem dX6_readNumber_49 : decode cX6_readNumber 49 = .ok (.iload_n 3, 1) := tb_d tk_X6_readNumber_1 28 (49, .iload_n 3, 1) rfl
theorem dX6_readNumber_50 : decode cX6_readNumber 50 = .ok (.iaload, 1) := tb_d tk_X6_readNumber_1 29 (50, .iaload, 1) rfl
theorem dX6_readNumber_51 : decode cX6_readNumber 51 = .ok (.iadd, 1) := tb_d tk_X6_readNumber_1 30 (51, .iadd, 1) rfl
theorem dX6_readNumber_52 : decode cX6_readNumber 52 = .ok (.bipush 48, 2) := tb_d tk_X6_readNumber_1 31 (52, .bipush 48, 2) rfl
theorem dX6_readNumber_54 : decode cX6_readNumber 54 = .ok (.isub, 1) := tb_d tk_X6_readNumber_1 32 (54, .isub, 1) rfl
theorem dX6_readNumber_55 : decode cX6_readNumber 55 = .ok (.putfield 66, 3) := tb_d tk_X6_readNumber_1 33 (55, .putfield 66, 3) rfl
theorem dX6_readNumber_58 : decode cX6_readNumber 58 = .ok (.iinc 2 1, 3) := tb_d tk_X6_readNumber_1 34 (58, .iinc 2 1, 3) rfl
theorem dX6_readNumber_61 : decode cX6_readNumber 61 = .ok (.iinc 3 1, 3) := tb_d tk_X6_readNumber_1 35 (61, .iinc 3 1, 3) rfl
theorem dX6_readNumber_64 : decode cX6_readNumber 64 = .ok (.goto (-52), 3) := tb_d tk_X6_readNumber_1 36 (64, .goto (-52), 3) rfl
theorem dX6_readNumber_67 : decode cX6_readNumber 67 = .ok (.iload_n 2, 1) := tb_d tk_X6_readNumber_1 37 (67, .iload_n 2, 1) rfl
theorem dX6_readNumber_68 : decode cX6_readNumber 68 = .ok (.ifCond .eq 8, 3) := tb_d tk_X6_readNumber_1 38 (68, .ifCond .eq 8, 3) rfl
theorem dX6_readNumber_71 : decode cX6_readNumber 71 = .ok (.iload_n 2, 1) := tb_d tk_X6_readNumber_1 39 (71, .iload_n 2, 1) rfl
def tb_X6_readNumber_2 : List (Nat × Instr × Nat) := [(72, .iconst 2, 1), (73, .if_icmp .le 9, 3), (76, .aload_n 0, 1), (77, .iconst 1, 1), (78, .invokevirtual 78, 3), (81, .ireturn, 1), (82, .aload_n 0, 1), (83, .getfield 66, 3), (86, .iload_n 1, 1), (87, .if_icmp .le 9, 3), (90, .aload_n 0, 1), (91, .iconst 2, 1), (92, .invokevirtual 78, 3), (95, .ireturn, 1), (96, .aload_n 0, 1), (97, .dup, 1), (98, .getfield 26, 3), (101, .iload_n 2, 1), (102, .iadd, 1), (103, .putfield 26, 3), (106, .iconst 1, 1), (107, .ireturn, 1)]
set_option maxRecDepth 100000 in
theorem tk_X6_readNumber_2 : (tb_X6_readNumber_2.all fun q => decide (decode cX6_readNumber q.1 = .ok q.2)) = true := by decide +kernel
theorem dX6_readNumber_72 : decode cX6_readNumber 72 = .ok (.iconst 2, 1) := tb_d tk_X6_readNumber_2 0 (72, .iconst 2, 1) rfl
theorem dX6_readNumber_73 : decode cX6_readNumber 73 = .ok (.if_icmp .le 9, 3) := tb_d tk_X6_readNumber_2 1 (73, .if_icmp .le 9, 3) rfl
theorem dX6_readNumber_76 : decode cX6_readNumber 76 = .ok (.aload_n 0, 1) := tb_d tk_X6_readNumber_2 2 (76, .aload_n 0, 1) rfl
theorem dX6_readNumber_77 : decode cX6_readNumber 77 = .ok (.iconst 1, 1) := tb_d tk_X6_readNumber_2 3 (77, .iconst 1, 1) rfl
theorem dX6_readNumber_78 : decode cX6_readNumber 78 = .ok (.invokevirtual 78, 3) := tb_d tk_X6_readNumber_2 4 (78, .invokevirtual 78, 3) rfl
theorem dX6_readNumber_81 : decode cX6_readNumber 81 = .ok (.ireturn, 1) := tb_d tk_X6_readNumber_2 5 (81, .ireturn, 1) rfl
theorem dX6_readNumber_82 : decode cX6_readNumber 82 = .ok (.aload_n 0, 1) := tb_d tk_X6_readNumber_2 6 (82, .aload_n 0, 1) rfl
theorem dX6_readNumber_83 : decode cX6_readNumber 83 = .ok (.getfield 66, 3) := tb_d tk_X6_readNumber_2 7 (83, .getfield 66, 3) rfl
theorem dX6_readNumber_86 : decode cX6_readNumber 86 = .ok (.iload_n 1, 1) := tb_d tk_X6_readNumber_2 8 (86, .iload_n 1, 1) rfl
theorem dX6_readNumber_87 : decode cX6_readNumber 87 = .ok (.if_icmp .le 9, 3) := tb_d tk_X6_readNumber_2 9 (87, .if_icmp .le 9, 3) rfl
theorem dX6_readNumber_90 : decode cX6_readNumber 90 = .ok (.aload_n 0, 1) := tb_d tk_X6_readNumber_2 10 (90, .aload_n 0, 1) rfl
theorem dX6_readNumber_91 : decode cX6_readNumber 91 = .ok (.iconst 2, 1) := tb_d tk_X6_readNumber_2 11 (91, .iconst 2, 1) rfl
theorem dX6_readNumber_92 : decode cX6_readNumber 92 = .ok (.invokevirtual 78, 3) := tb_d tk_X6_readNumber_2 12 (92, .invokevirtual 78, 3) rfl
theorem dX6_readNumber_95 : decode cX6_readNumber 95 = .ok (.ireturn, 1) := tb_d tk_X6_readNumber_2 13 (95, .ireturn, 1) rfl
theorem dX6_readNumber_96 : decode cX6_readNumber 96 = .ok (.aload_n 0, 1) := tb_d tk_X6_readNumber_2 14 (96, .aload_n 0, 1) rfl
theorem dX6_readNumber_97 : decode cX6_readNumber 97 = .ok (.dup, 1) := tb_d tk_X6_readNumber_2 15 (97, .dup, 1) rfl
theorem dX6_readNumber_98 : decode cX6_readNumber 98 = .ok (.getfield 26, 3) := tb_d tk_X6_readNumber_2 16 (98, .getfield 26, 3) rfl
theorem dX6_readNumber_101 : decode cX6_readNumber 101 = .ok (.iload_n 2, 1) := tb_d tk_X6_readNumber_2 17 (101, .iload_n 2, 1) rfl
theorem dX6_readNumber_102 : decode cX6_readNumber 102 = .ok (.iadd, 1) := tb_d tk_X6_readNumber_2 18 (102, .iadd, 1) rfl
theorem dX6_readNumber_103 : decode cX6_readNumber 103 = .ok (.putfield 26, 3) := tb_d tk_X6_readNumber_2 19 (103, .putfield 26, 3) rfl
theorem dX6_readNumber_106 : decode cX6_readNumber 106 = .ok (.iconst 1, 1) := tb_d tk_X6_readNumber_2 20 (106, .iconst 1, 1) rfl
theorem dX6_readNumber_107 : decode cX6_readNumber 107 = .ok (.ireturn, 1) := tb_d tk_X6_readNumber_2 21 (107, .ireturn, 1) rfl
def tb_X6_isFigure_1 : List (Nat × Instr × Nat) := [(0, .iload_n 0, 1), (1, .bipush 48, 2), (3, .if_icmp .lt 13, 3), (6, .iload_n 0, 1), (7, .bipush 57, 2), (9, .if_icmp .gt 7, 3), (12, .iconst 1, 1), (13, .goto 4, 3), (16, .iconst 0, 1), (17, .ireturn, 1)]
set_option maxRecDepth 100000 in
theorem tk_X6_isFigure_1 : (tb_X6_isFigure_1.all fun q => decide (decode cX6_isFigure q.1 = .ok q.2)) = true := by decide +kernel
theorem dX6_isFigure_0 : decode cX6_isFigure 0 = .ok (.iload_n 0, 1) := tb_d tk_X6_isFigure_1 0 (0, .iload_n 0, 1) rfl
theorem dX6_isFigure_1 : decode cX6_isFigure 1 = .ok (.bipush 48, 2) := tb_d tk_X6_isFigure_1 1 (1, .bipush 48, 2) rfl
theorem dX6_isFigure_3 : decode cX6_isFigure 3 = .ok (.if_icmp .lt 13, 3) := tb_d tk_X6_isFigure_1 2 (3, .if_icmp .lt 13, 3) rfl
theorem dX6_isFigure_6 : decode cX6_isFigure 6 = .ok (.iload_n 0, 1) := tb_d tk_X6_isFigure_1 3 (6, .iload_n 0, 1) rfl
theorem dX6_isFigure_7 : decode cX6_isFigure 7 = .ok (.bipush 57, 2) := tb_d tk_X6_isFigure_1 4 (7, .bipush 57, 2) rfl
theorem dX6_isFigure_9 : decode cX6_isFigure 9 = .ok (.if_icmp .gt 7, 3) := tb_d tk_X6_isFigure_1 5 (9, .if_icmp .gt 7, 3) rfl
theorem dX6_isFigure_12 : decode cX6_isFigure 12 = .ok (.iconst 1, 1) := tb_d tk_X6_isFigure_1 6 (12, .iconst 1, 1) rfl
theorem dX6_isFigure_13 : decode cX6_isFigure 13 = .ok (.goto 4, 3) := tb_d tk_X6_isFigure_1 7 (13, .goto 4, 3) rfl
theorem dX6_isFigure_16 : decode cX6_isFigure 16 = .ok (.iconst 0, 1) := tb_d tk_X6_isFigure_1 8 (16, .iconst 0, 1) rfl
theorem dX6_isFigure_17 : decode cX6_isFigure 17 = .ok (.ireturn, 1) := tb_d tk_X6_isFigure_1 9 (17, .ireturn, 1) rfl
def tb_X6_here_1 : List (Nat × Instr × Nat) := [(0, .aload_n 0, 1), (1, .getfield 26, 3), (4, .aload_n 0, 1), (5, .getfield 22, 3), (8, .if_icmp .ge 15, 3), (11, .aload_n 0, 1), (12, .getfield 9, 3), (15, .aload_n 0, 1), (16, .getfield 26, 3), (19, .iaload, 1), (20, .goto 4, 3), (23, .iconst (-1), 1), (24, .ireturn, 1)]
set_option maxRecDepth 100000 in
theorem tk_X6_here_1 : (tb_X6_here_1.all fun q => decide (decode cX6_here q.1 = .ok q.2)) = true := by decide +kernel
theorem dX6_here_0 : decode cX6_here 0 = .ok (.aload_n 0, 1) := tb_d tk_X6_here_1 0 (0, .aload_n 0, 1) rfl
theorem dX6_here_1 : decode cX6_here 1 = .ok (.getfield 26, 3) := tb_d tk_X6_here_1 1 (1, .getfield 26, 3) rfl
theorem dX6_here_4 : decode cX6_here 4 = .ok (.aload_n 0, 1) := tb_d tk_X6_here_1 2 (4, .aload_n 0, 1) rfl
theorem dX6_here_5 : decode cX6_here 5 = .ok (.getfield 22, 3) := tb_d tk_X6_here_1 3 (5, .getfield 22, 3) rfl
theorem dX6_here_8 : decode cX6_here 8 = .ok (.if_icmp .ge 15, 3) := tb_d tk_X6_here_1 4 (8, .if_icmp .ge 15, 3) rfl
theorem dX6_here_11 : decode cX6_here 11 = .ok (.aload_n 0, 1) := tb_d tk_X6_here_1 5 (11, .aload_n 0, 1) rfl
theorem dX6_here_12 : decode cX6_here 12 = .ok (.getfield 9, 3) := tb_d tk_X6_here_1 6 (12, .getfield 9, 3) rfl
theorem dX6_here_15 : decode cX6_here 15 = .ok (.aload_n 0, 1) := tb_d tk_X6_here_1 7 (15, .aload_n 0, 1) rfl
theorem dX6_here_16 : decode cX6_here 16 = .ok (.getfield 26, 3) := tb_d tk_X6_here_1 8 (16, .getfield 26, 3) rfl
theorem dX6_here_19 : decode cX6_here 19 = .ok (.iaload, 1) := tb_d tk_X6_here_1 9 (19, .iaload, 1) rfl
theorem dX6_here_20 : decode cX6_here 20 = .ok (.goto 4, 3) := tb_d tk_X6_here_1 10 (20, .goto 4, 3) rfl
theorem dX6_here_23 : decode cX6_here 23 = .ok (.iconst (-1), 1) := tb_d tk_X6_here_1 11 (23, .iconst (-1), 1) rfl
theorem dX6_here_24 : decode cX6_here 24 = .ok (.ireturn, 1) := tb_d tk_X6_here_1 12 (24, .ireturn, 1) rfl
def tb_X6_faulty_1 : List (Nat × Instr × Nat) := [(0, .aload_n 0, 1), (1, .iload_n 1, 1), (2, .putfield 105, 3), (5, .aload_n 0, 1), (6, .aload_n 0, 1), (7, .getfield 26, 3), (10, .putfield 108, 3), (13, .iconst 0, 1), (14, .ireturn, 1)]
set_option maxRecDepth 100000 in
theorem tk_X6_faulty_1 : (tb_X6_faulty_1.all fun q => decide (decode cX6_faulty q.1 = .ok q.2)) = true := by decide +kernel
theorem dX6_faulty_0 : decode cX6_faulty 0 = .ok (.aload_n 0, 1) := tb_d tk_X6_faulty_1 0 (0, .aload_n 0, 1) rfl
theorem dX6_faulty_1 : decode cX6_faulty 1 = .ok (.iload_n 1, 1) := tb_d tk_X6_faulty_1 1 (1, .iload_n 1, 1) rfl
theorem dX6_faulty_2 : decode cX6_faulty 2 = .ok (.putfield 105, 3) := tb_d tk_X6_faulty_1 2 (2, .putfield 105, 3) rfl
theorem dX6_faulty_5 : decode cX6_faulty 5 = .ok (.aload_n 0, 1) := tb_d tk_X6_faulty_1 3 (5, .aload_n 0, 1) rfl
theorem dX6_faulty_6 : decode cX6_faulty 6 = .ok (.aload_n 0, 1) := tb_d tk_X6_faulty_1 4 (6, .aload_n 0, 1) rfl
theorem dX6_faulty_7 : decode cX6_faulty 7 = .ok (.getfield 26, 3) := tb_d tk_X6_faulty_1 5 (7, .getfield 26, 3) rfl
theorem dX6_faulty_10 : decode cX6_faulty 10 = .ok (.putfield 108, 3) := tb_d tk_X6_faulty_1 6 (10, .putfield 108, 3) rfl
theorem dX6_faulty_13 : decode cX6_faulty 13 = .ok (.iconst 0, 1) := tb_d tk_X6_faulty_1 7 (13, .iconst 0, 1) rfl
theorem dX6_faulty_14 : decode cX6_faulty 14 = .ok (.ireturn, 1) := tb_d tk_X6_faulty_1 8 (14, .ireturn, 1) rfl
theorem ggX7_init_X6_init : GoodIn wsX7_init wsX6_init := fun w h => ⟨List.mem_cons_of_mem _ (List.mem_append_right _ (List.mem_append_right _ (List.mem_append_right _ (List.mem_append_right _ (List.mem_append_right _ (List.mem_append_right _ (List.mem_append_right _ (List.mem_append_right _ (List.mem_append_right _ (List.mem_append_left _ h)))))))))), good_of_word (gdX6_init w h)⟩
set_option maxRecDepth 20000 in
theorem gX7_init_X6_init_n17 : GoodIn wsX7_init (wsX6_init) := ggX7_init_X6_init
theorem ggX7_init_X2_init : GoodIn wsX7_init wsX2_init := fun w h => ⟨List.mem_cons_of_mem _ (List.mem_append_right _ (List.mem_append_right _ (List.mem_append_right _ (List.mem_append_right _ (List.mem_append_right _ (List.mem_append_right _ (List.mem_append_right _ (List.mem_append_right _ (List.mem_append_right _ (List.mem_append_right _ (List.mem_append_left _ h))))))))))), good_of_word (gdX2_init w h)⟩
set_option maxRecDepth 20000 in
theorem gX7_init_X2_init_n24 : GoodIn wsX7_init (wsX2_init) := ggX7_init_X2_init
theorem ggX7_init_X0_init : GoodIn wsX7_init wsX0_init := fun w h => ⟨List.mem_cons_of_mem _ (List.mem_append_right _ (List.mem_append_right _ (List.mem_append_right _ (List.mem_append_right _ (List.mem_append_right _ (List.mem_append_right _ (List.mem_append_right _ (List.mem_append_right _ (List.mem_append_right _ (List.mem_append_right _ (List.mem_append_right _ (List.mem_append_left _ h)))))))))))), good_of_word (gdX0_init w h)⟩
set_option maxRecDepth 20000 in
theorem gX7_init_X0_init : GoodIn wsX7_init (wsX0_init) := ggX7_init_X0_init
theorem ggX7_init_X3_init : GoodIn wsX7_init wsX3_init := fun w h => ⟨List.mem_cons_of_mem _ (List.mem_append_right _ (List.mem_append_right _ (List.mem_append_right _ (List.mem_append_right _ (List.mem_append_right _ (List.mem_append_right _ (List.mem_append_right _ (List.mem_append_right _ (List.mem_append_right _ (List.mem_append_right _ (List.mem_append_right _ (List.mem_append_right _ (List.mem_append_left _ h))))))))))))), good_of_word (gdX3_init w h)⟩
set_option maxRecDepth 20000 in
theorem gX7_init_X3_init_n42 : GoodIn wsX7_init (wsX3_init) := ggX7_init_X3_init
theorem ggX7_init_X1_init : GoodIn wsX7_init wsX1_init := fun w h => ⟨List.mem_cons_of_mem _ (List.mem_append_right _ (List.mem_append_right _ (List.mem_append_right _ (List.mem_append_right _ (List.mem_append_right _ (List.mem_append_right _ (List.mem_append_right _ (List.mem_append_right _ (List.mem_append_right _ (List.mem_append_right _ (List.mem_append_right _ (List.mem_append_right _ (List.mem_append_right _ (List.mem_append_left _ h)))))))))))))), good_of_word (gdX1_init w h)⟩
set_option maxRecDepth 20000 in
theorem gX7_init_X1_init_n49 : GoodIn wsX7_init (wsX1_init) := ggX7_init_X1_init
theorem ggX7_init_X5_init : GoodIn wsX7_init wsX5_init := fun w h => ⟨List.mem_cons_of_mem _ (List.mem_append_right _ (List.mem_append_right _ (List.mem_append_right _ (List.mem_append_right _ (List.mem_append_right _ (List.mem_append_right _ (List.mem_append_right _ (List.mem_append_right _ (List.mem_append_right _ (List.mem_append_right _ (List.mem_append_right _ (List.mem_append_right _ (List.mem_append_right _ (List.mem_append_right _ (List.mem_append_left _ h))))))))))))))), good_of_word (gdX5_init w h)⟩
set_option maxRecDepth 20000 in
theorem gX7_init_X5_init_n54 : GoodIn wsX7_init (wsX5_init) := ggX7_init_X5_init
def tb_X7_init_1 : List (Nat × Instr × Nat) := [(0, .aload_n 0, 1), (1, .invokespecial 1, 3), (4, .aload_n 0, 1), (5, .bipush 8, 2), (7, .anewarray 9, 3), (10, .putfield 11, 3), (13, .aload_n 0, 1), (14, .new 15, 3), (17, .dup, 1), (18, .invokespecial 17, 3), (21, .putfield 18, 3), (24, .aload_n 0, 1), (25, .new 22, 3), (28, .dup, 1), (29, .invokespecial 24, 3), (32, .putfield 25, 3), (35, .aload_n 0, 1), (36, .new 29, 3), (39, .dup, 1), (40, .invokespecial 31, 3), (43, .putfield 32, 3), (46, .aload_n 0, 1), (47, .iconst 2, 1), (48, .anewarray 22, 3), (51, .putfield 36, 3), (54, .aload_n 0, 1), (55, .new 40, 3), (58, .dup, 1), (59, .invokespecial 42, 3), (62, .putfield 43, 3), (65, .aload_n 0, 1), (66, .new 47, 3), (69, .dup, 1), (70, .invokespecial 49, 3), (73, .putfield 50, 3), (76, .iconst 0, 1), (77, .istore_n 1, 1), (78, .iload_n 1, 1), (79, .bipush 8, 2), (81, .if_icmp .ge 22, 3)]
set_option maxRecDepth 100000 in
theorem tk_X7_init_1 : (tb_X7_init_1.all fun q => decide (decode cX7_init q.1 = .ok q.2)) = true := by decide +kernel
theorem dX7_init_0 : decode cX7_init 0 = .ok (.aload_n 0, 1) := tb_d tk_X7_init_1 0 (0, .aload_n 0, 1) rfl
theorem dX7_init_1 : decode cX7_init 1 = .ok (.invokespecial 1, 3) := tb_d tk_X7_init_1 1 (1, .invokespecial 1, 3) rfl
theorem dX7_init_4 : decode cX7_init 4 = .ok (.aload_n 0, 1) := tb_d tk_X7_init_1 2 (4, .aload_n 0, 1) rfl
theorem dX7_init_5 : decode cX7_init 5 = .ok (.bipush 8, 2) := tb_d tk_X7_init_1 3 (5, .bipush 8, 2) rfl
theorem dX7_init_7 : decode cX7_init 7 = .ok (.anewarray 9, 3) := tb_d tk_X7_init_1 4 (7, .anewarray 9, 3) rfl
theorem dX7_init_10 : decode cX7_init 10 = .ok (.putfield 11, 3) := tb_d tk_X7_init_1 5 (10, .putfield 11, 3) rfl
theorem dX7_init_13 : decode cX7_init 13 = .ok (.aload_n 0, 1) := tb_d tk_X7_init_1 6 (13, .aload_n 0, 1) rfl
theorem dX7_init_14 : decode cX7_init 14 = .ok (.new 15, 3) := tb_d tk_X7_init_1 7 (14, .new 15, 3) rfl
theorem dX7_init_17 : decode cX7_init 17 = .ok (.dup, 1) := tb_d tk_X7_init_1 8 (17, .dup, 1) rfl
theorem dX7_init_18 : decode cX7_init 18 = .ok (.invokespecial 17, 3) := tb_d tk_X7_init_1 9 (18, .invokespecial 17, 3) rfl
theorem dX7_init_21 : decode cX7_init 21 = .ok (.putfield 18, 3) := tb_d tk_X7_init_1 10 (21, .putfield 18, 3) rfl
theorem dX7_init_24 : decode cX7_init 24 = .ok (.aload_n 0, 1) := tb_d tk_X7_init_1 11 (24, .aload_n 0, 1) rfl
theorem dX7_init_25 : decode cX7_init 25 = .ok (.new 22, 3) := tb_d tk_X7_init_1 12 (25, .new 22, 3) rfl
theorem dX7_init_28 : decode cX7_init 28 = .ok (.dup, 1) := tb_d tk_X7_init_1 13 (28, .dup, 1) rfl
theorem dX7_init_29 : decode cX7_init 29 = .ok (.invokespecial 24, 3) := tb_d tk_X7_init_1 14 (29, .invokespecial 24, 3) rfl
theorem dX7_init_32 : decode cX7_init 32 = .ok (.putfield 25, 3) := tb_d tk_X7_init_1 15 (32, .putfield 25, 3) rfl
theorem dX7_init_35 : decode cX7_init 35 = .ok (.aload_n 0, 1) := tb_d tk_X7_init_1 16 (35, .aload_n 0, 1) rfl
theorem dX7_init_36 : decode cX7_init 36 = .ok (.new 29, 3) := tb_d tk_X7_init_1 17 (36, .new 29, 3) rfl
theorem dX7_init_39 : decode cX7_init 39 = .ok (.dup, 1) := tb_d tk_X7_init_1 18 (39, .dup, 1) rfl
theorem dX7_init_40 : decode cX7_init 40 = .ok (.invokespecial 31, 3) := tb_d tk_X7_init_1 19 (40, .invokespecial 31, 3) rfl
theorem dX7_init_43 : decode cX7_init 43 = .ok (.putfield 32, 3) := tb_d tk_X7_init_1 20 (43, .putfield 32, 3) rfl
theorem dX7_init_46 : decode cX7_init 46 = .ok (.aload_n 0, 1) := tb_d tk_X7_init_1 21 (46, .aload_n 0, 1) rfl
theorem dX7_init_47 : decode cX7_init 47 = .ok (.iconst 2, 1) := tb_d tk_X7_init_1 22 (47, .iconst 2, 1) rfl
theorem dX7_init_48 : decode cX7_init 48 = .ok (.anewarray 22, 3) := tb_d tk_X7_init_1 23 (48, .anewarray 22, 3) rfl
theorem dX7_init_51 : decode cX7_init 51 = .ok (.putfield 36, 3) := tb_d tk_X7_init_1 24 (51, .putfield 36, 3) rfl
theorem dX7_init_54 : decode cX7_init 54 = .ok (.aload_n 0, 1) := tb_d tk_X7_init_1 25 (54, .aload_n 0, 1) rfl
theorem dX7_init_55 : decode cX7_init 55 = .ok (.new 40, 3) := tb_d tk_X7_init_1 26 (55, .new 40, 3) rfl
theorem dX7_init_58 : decode cX7_init 58 = .ok (.dup, 1) := tb_d tk_X7_init_1 27 (58, .dup, 1) rfl
theorem dX7_init_59 : decode cX7_init 59 = .ok (.invokespecial 42, 3) := tb_d tk_X7_init_1 28 (59, .invokespecial 42, 3) rfl
theorem dX7_init_62 : decode cX7_init 62 = .ok (.putfield 43, 3) := tb_d tk_X7_init_1 29 (62, .putfield 43, 3) rfl
theorem dX7_init_65 : decode cX7_init 65 = .ok (.aload_n 0, 1) := tb_d tk_X7_init_1 30 (65, .aload_n 0, 1) rfl
theorem dX7_init_66 : decode cX7_init 66 = .ok (.new 47, 3) := tb_d tk_X7_init_1 31 (66, .new 47, 3) rfl
theorem dX7_init_69 : decode cX7_init 69 = .ok (.dup, 1) := tb_d tk_X7_init_1 32 (69, .dup, 1) rfl
theorem dX7_init_70 : decode cX7_init 70 = .ok (.invokespecial 49, 3) := tb_d tk_X7_init_1 33 (70, .invokespecial 49, 3) rfl
theorem dX7_init_73 : decode cX7_init 73 = .ok (.putfield 50, 3) := tb_d tk_X7_init_1 34 (73, .putfield 50, 3) rfl
theorem dX7_init_76 : decode cX7_init 76 = .ok (.iconst 0, 1) := tb_d tk_X7_init_1 35 (76, .iconst 0, 1) rfl
theorem dX7_init_77 : decode cX7_init 77 = .ok (.istore_n 1, 1) := tb_d tk_X7_init_1 36 (77, .istore_n 1, 1) rfl
theorem dX7_init_78 : decode cX7_init 78 = .ok (.iload_n 1, 1) := tb_d tk_X7_init_1 37 (78, .iload_n 1, 1) rfl
theorem dX7_init_79 : decode cX7_init 79 = .ok (.bipush 8, 2) := tb_d tk_X7_init_1 38 (79, .bipush 8, 2) rfl
theorem dX7_init_81 : decode cX7_init 81 = .ok (.if_icmp .ge 22, 3) := tb_d tk_X7_init_1 39 (81, .if_icmp .ge 22, 3) rfl
def tb_X7_init_2 : List (Nat × Instr × Nat) := [(84, .aload_n 0, 1), (85, .getfield 11, 3), (88, .iload_n 1, 1), (89, .new 9, 3), (92, .dup, 1), (93, .invokespecial 54, 3), (96, .aastore, 1), (97, .iinc 1 1, 3), (100, .goto (-22), 3), (103, .iconst 0, 1), (104, .istore_n 1, 1), (105, .iload_n 1, 1), (106, .iconst 2, 1), (107, .if_icmp .ge 22, 3), (110, .aload_n 0, 1), (111, .getfield 36, 3), (114, .iload_n 1, 1), (115, .new 22, 3), (118, .dup, 1), (119, .invokespecial 24, 3), (122, .aastore, 1), (123, .iinc 1 1, 3), (126, .goto (-21), 3), (129, .return_, 1)]
set_option maxRecDepth 100000 in
theorem tk_X7_init_2 : (tb_X7_init_2.all fun q => decide (decode cX7_init q.1 = .ok q.2)) = true := by decide +kernel
theorem dX7_init_84 : decode cX7_init 84 = .ok (.aload_n 0, 1) := tb_d tk_X7_init_2 0 (84, .aload_n 0, 1) rfl
theorem dX7_init_85 : decode cX7_init 85 = .ok (.getfield 11, 3) := tb_d tk_X7_init_2 1 (85, .getfield 11, 3) rfl
theorem dX7_init_88 : decode cX7_init 88 = .ok (.iload_n 1, 1) := tb_d tk_X7_init_2 2 (88, .iload_n 1, 1) rfl
theorem dX7_init_89 : decode cX7_init 89 = .ok (.new 9, 3) := tb_d tk_X7_init_2 3 (89, .new 9, 3) rfl
theorem dX7_init_92 : decode cX7_init 92 = .ok (.dup, 1) := tb_d tk_X7_init_2 4 (92, .dup, 1) rfl
theorem dX7_init_93 : decode cX7_init 93 = .ok (.invokespecial 54, 3) := tb_d tk_X7_init_2 5 (93, .invokespecial 54, 3) rfl
theorem dX7_init_96 : decode cX7_init 96 = .ok (.aastore, 1) := tb_d tk_X7_init_2 6 (96, .aastore, 1) rfl
theorem dX7_init_97 : decode cX7_init 97 = .ok (.iinc 1 1, 3) := tb_d tk_X7_init_2 7 (97, .iinc 1 1, 3) rfl
theorem dX7_init_100 : decode cX7_init 100 = .ok (.goto (-22), 3) := tb_d tk_X7_init_2 8 (100, .goto (-22), 3) rfl
theorem dX7_init_103 : decode cX7_init 103 = .ok (.iconst 0, 1) := tb_d tk_X7_init_2 9 (103, .iconst 0, 1) rfl
theorem dX7_init_104 : decode cX7_init 104 = .ok (.istore_n 1, 1) := tb_d tk_X7_init_2 10 (104, .istore_n 1, 1) rfl
theorem dX7_init_105 : decode cX7_init 105 = .ok (.iload_n 1, 1) := tb_d tk_X7_init_2 11 (105, .iload_n 1, 1) rfl
theorem dX7_init_106 : decode cX7_init 106 = .ok (.iconst 2, 1) := tb_d tk_X7_init_2 12 (106, .iconst 2, 1) rfl
theorem dX7_init_107 : decode cX7_init 107 = .ok (.if_icmp .ge 22, 3) := tb_d tk_X7_init_2 13 (107, .if_icmp .ge 22, 3) rfl
theorem dX7_init_110 : decode cX7_init 110 = .ok (.aload_n 0, 1) := tb_d tk_X7_init_2 14 (110, .aload_n 0, 1) rfl
theorem dX7_init_111 : decode cX7_init 111 = .ok (.getfield 36, 3) := tb_d tk_X7_init_2 15 (111, .getfield 36, 3) rfl
theorem dX7_init_114 : decode cX7_init 114 = .ok (.iload_n 1, 1) := tb_d tk_X7_init_2 16 (114, .iload_n 1, 1) rfl
theorem dX7_init_115 : decode cX7_init 115 = .ok (.new 22, 3) := tb_d tk_X7_init_2 17 (115, .new 22, 3) rfl
theorem dX7_init_118 : decode cX7_init 118 = .ok (.dup, 1) := tb_d tk_X7_init_2 18 (118, .dup, 1) rfl
theorem dX7_init_119 : decode cX7_init 119 = .ok (.invokespecial 24, 3) := tb_d tk_X7_init_2 19 (119, .invokespecial 24, 3) rfl
theorem dX7_init_122 : decode cX7_init 122 = .ok (.aastore, 1) := tb_d tk_X7_init_2 20 (122, .aastore, 1) rfl
theorem dX7_init_123 : decode cX7_init 123 = .ok (.iinc 1 1, 3) := tb_d tk_X7_init_2 21 (123, .iinc 1 1, 3) rfl
theorem dX7_init_126 : decode cX7_init 126 = .ok (.goto (-21), 3) := tb_d tk_X7_init_2 22 (126, .goto (-21), 3) rfl
theorem dX7_init_129 : decode cX7_init 129 = .ok (.return_, 1) := tb_d tk_X7_init_2 23 (129, .return_, 1) rfl
theorem ggX7_row_X7_isRow : GoodIn wsX7_row wsX7_isRow := fun w h => ⟨List.mem_cons_of_mem _ (List.mem_append_right _ (List.mem_append_right _ (List.mem_append_right _ (List.mem_append_left _ h)))), good_of_word (gdX7_isRow w h)⟩
set_option maxRecDepth 20000 in
theorem gX7_row_X7_isRow : GoodIn wsX7_row (wsV RX7 55 RX7 yX7_isRow wsX7_isRow) := goodIn_app (goodIn_of _ (by decide +kernel)) ggX7_row_X7_isRow
theorem ggX7_row_X7_found : GoodIn wsX7_row wsX7_found := fun w h => ⟨List.mem_cons_of_mem _ (List.mem_append_right _ (List.mem_append_right _ (List.mem_append_right _ (List.mem_append_right _ (List.mem_append_left _ h))))), good_of_word (gdX7_found w h)⟩
set_option maxRecDepth 20000 in
theorem gX7_row_X7_found : GoodIn wsX7_row (wsV RX7 60 RX7 yX7_found wsX7_found) := goodIn_app (goodIn_of _ (by decide +kernel)) ggX7_row_X7_found
theorem ggX7_row_X5_make : GoodIn wsX7_row wsX5_make := fun w h => ⟨List.mem_cons_of_mem _ (List.mem_append_right _ (List.mem_append_right _ (List.mem_append_right _ (List.mem_append_right _ (List.mem_append_right _ (List.mem_append_left _ h)))))), good_of_word (gdX5_make w h)⟩
set_option maxRecDepth 20000 in
theorem gX7_row_X5_make : GoodIn wsX7_row (wsV RX7 64 RX5 yX5_make wsX5_make) := goodIn_app (goodIn_of _ (by decide +kernel)) ggX7_row_X5_make
theorem ggX7_row_X7_unfound : GoodIn wsX7_row wsX7_unfound := fun w h => ⟨List.mem_cons_of_mem _ (List.mem_append_right _ (List.mem_append_right _ (List.mem_append_right _ (List.mem_append_right _ (List.mem_append_right _ (List.mem_append_right _ (List.mem_append_left _ h))))))), good_of_word (gdX7_unfound w h)⟩
set_option maxRecDepth 20000 in
theorem gX7_row_X7_unfound : GoodIn wsX7_row (wsV RX7 68 RX7 yX7_unfound wsX7_unfound) := goodIn_app (goodIn_of _ (by decide +kernel)) ggX7_row_X7_unfound
def tb_X7_row_1 : List (Nat × Instr × Nat) := [(0, .aload_n 0, 1), (1, .iload_n 1, 1), (2, .invokevirtual 55, 3), (5, .ifCond .eq 18, 3), (8, .iload_n 2, 1), (9, .ifCond .lt 14, 3), (12, .iload_n 2, 1), (13, .iconst 2, 1), (14, .if_icmp .gt 9, 3), (17, .iload_n 3, 1), (18, .bipush 40, 2), (20, .if_icmp .le 6, 3), (23, .ldc 59, 2), (25, .ireturn, 1), (26, .iload_n 3, 1), (27, .ifCond .ge 9, 3), (30, .aload_n 0, 1), (31, .iconst 4, 1), (32, .invokevirtual 60, 3), (35, .ireturn, 1), (36, .aload_n 0, 1), (37, .getfield 11, 3), (40, .iload_n 1, 1), (41, .aaload, 1), (42, .iload_n 2, 1), (43, .iload_n 3, 1), (44, .invokevirtual 64, 3), (47, .aload_n 0, 1), (48, .iload_n 3, 1), (49, .invokevirtual 68, 3), (52, .ireturn, 1)]
set_option maxRecDepth 100000 in
theorem tk_X7_row_1 : (tb_X7_row_1.all fun q => decide (decode cX7_row q.1 = .ok q.2)) = true := by decide +kernel
theorem dX7_row_0 : decode cX7_row 0 = .ok (.aload_n 0, 1) := tb_d tk_X7_row_1 0 (0, .aload_n 0, 1) rfl
theorem dX7_row_1 : decode cX7_row 1 = .ok (.iload_n 1, 1) := tb_d tk_X7_row_1 1 (1, .iload_n 1, 1) rfl
theorem dX7_row_2 : decode cX7_row 2 = .ok (.invokevirtual 55, 3) := tb_d tk_X7_row_1 2 (2, .invokevirtual 55, 3) rfl
theorem dX7_row_5 : decode cX7_row 5 = .ok (.ifCond .eq 18, 3) := tb_d tk_X7_row_1 3 (5, .ifCond .eq 18, 3) rfl
theorem dX7_row_8 : decode cX7_row 8 = .ok (.iload_n 2, 1) := tb_d tk_X7_row_1 4 (8, .iload_n 2, 1) rfl
theorem dX7_row_9 : decode cX7_row 9 = .ok (.ifCond .lt 14, 3) := tb_d tk_X7_row_1 5 (9, .ifCond .lt 14, 3) rfl
theorem dX7_row_12 : decode cX7_row 12 = .ok (.iload_n 2, 1) := tb_d tk_X7_row_1 6 (12, .iload_n 2, 1) rfl
theorem dX7_row_13 : decode cX7_row 13 = .ok (.iconst 2, 1) := tb_d tk_X7_row_1 7 (13, .iconst 2, 1) rfl
theorem dX7_row_14 : decode cX7_row 14 = .ok (.if_icmp .gt 9, 3) := tb_d tk_X7_row_1 8 (14, .if_icmp .gt 9, 3) rfl
theorem dX7_row_17 : decode cX7_row 17 = .ok (.iload_n 3, 1) := tb_d tk_X7_row_1 9 (17, .iload_n 3, 1) rfl
theorem dX7_row_18 : decode cX7_row 18 = .ok (.bipush 40, 2) := tb_d tk_X7_row_1 10 (18, .bipush 40, 2) rfl
theorem dX7_row_20 : decode cX7_row 20 = .ok (.if_icmp .le 6, 3) := tb_d tk_X7_row_1 11 (20, .if_icmp .le 6, 3) rfl
theorem dX7_row_23 : decode cX7_row 23 = .ok (.ldc 59, 2) := tb_d tk_X7_row_1 12 (23, .ldc 59, 2) rfl
theorem dX7_row_25 : decode cX7_row 25 = .ok (.ireturn, 1) := tb_d tk_X7_row_1 13 (25, .ireturn, 1) rfl
theorem dX7_row_26 : decode cX7_row 26 = .ok (.iload_n 3, 1) := tb_d tk_X7_row_1 14 (26, .iload_n 3, 1) rfl
theorem dX7_row_27 : decode cX7_row 27 = .ok (.ifCond .ge 9, 3) := tb_d tk_X7_row_1 15 (27, .ifCond .ge 9, 3) rfl
theorem dX7_row_30 : decode cX7_row 30 = .ok (.aload_n 0, 1) := tb_d tk_X7_row_1 16 (30, .aload_n 0, 1) rfl
theorem dX7_row_31 : decode cX7_row 31 = .ok (.iconst 4, 1) := tb_d tk_X7_row_1 17 (31, .iconst 4, 1) rfl
theorem dX7_row_32 : decode cX7_row 32 = .ok (.invokevirtual 60, 3) := tb_d tk_X7_row_1 18 (32, .invokevirtual 60, 3) rfl
theorem dX7_row_35 : decode cX7_row 35 = .ok (.ireturn, 1) := tb_d tk_X7_row_1 19 (35, .ireturn, 1) rfl
theorem dX7_row_36 : decode cX7_row 36 = .ok (.aload_n 0, 1) := tb_d tk_X7_row_1 20 (36, .aload_n 0, 1) rfl
theorem dX7_row_37 : decode cX7_row 37 = .ok (.getfield 11, 3) := tb_d tk_X7_row_1 21 (37, .getfield 11, 3) rfl
theorem dX7_row_40 : decode cX7_row 40 = .ok (.iload_n 1, 1) := tb_d tk_X7_row_1 22 (40, .iload_n 1, 1) rfl
theorem dX7_row_41 : decode cX7_row 41 = .ok (.aaload, 1) := tb_d tk_X7_row_1 23 (41, .aaload, 1) rfl
theorem dX7_row_42 : decode cX7_row 42 = .ok (.iload_n 2, 1) := tb_d tk_X7_row_1 24 (42, .iload_n 2, 1) rfl
theorem dX7_row_43 : decode cX7_row 43 = .ok (.iload_n 3, 1) := tb_d tk_X7_row_1 25 (43, .iload_n 3, 1) rfl
theorem dX7_row_44 : decode cX7_row 44 = .ok (.invokevirtual 64, 3) := tb_d tk_X7_row_1 26 (44, .invokevirtual 64, 3) rfl
theorem dX7_row_47 : decode cX7_row 47 = .ok (.aload_n 0, 1) := tb_d tk_X7_row_1 27 (47, .aload_n 0, 1) rfl
theorem dX7_row_48 : decode cX7_row 48 = .ok (.iload_n 3, 1) := tb_d tk_X7_row_1 28 (48, .iload_n 3, 1) rfl
theorem dX7_row_49 : decode cX7_row 49 = .ok (.invokevirtual 68, 3) := tb_d tk_X7_row_1 29 (49, .invokevirtual 68, 3) rfl
theorem dX7_row_52 : decode cX7_row 52 = .ok (.ireturn, 1) := tb_d tk_X7_row_1 30 (52, .ireturn, 1) rfl
theorem ggX7_set_X7_isRow : GoodIn wsX7_set wsX7_isRow := fun w h => ⟨List.mem_cons_of_mem _ (List.mem_append_right _ (List.mem_append_right _ (List.mem_append_right _ (List.mem_append_left _ h)))), good_of_word (gdX7_isRow w h)⟩
set_option maxRecDepth 20000 in
theorem gX7_set_X7_isRow : GoodIn wsX7_set (wsV RX7 55 RX7 yX7_isRow wsX7_isRow) := goodIn_app (goodIn_of _ (by decide +kernel)) ggX7_set_X7_isRow
theorem ggX7_set_X5_findingOf : GoodIn wsX7_set wsX5_findingOf := fun w h => ⟨List.mem_cons_of_mem _ (List.mem_append_right _ (List.mem_append_right _ (List.mem_append_right _ (List.mem_append_right _ (List.mem_append_left _ h))))), good_of_word (gdX5_findingOf w h)⟩
set_option maxRecDepth 20000 in
theorem gX7_set_X5_findingOf : GoodIn wsX7_set (wsV RX7 71 RX5 yX5_findingOf wsX5_findingOf) := goodIn_app (goodIn_of _ (by decide +kernel)) ggX7_set_X5_findingOf
theorem ggX7_set_X7_found : GoodIn wsX7_set wsX7_found := fun w h => ⟨List.mem_cons_of_mem _ (List.mem_append_right _ (List.mem_append_right _ (List.mem_append_right _ (List.mem_append_right _ (List.mem_append_right _ (List.mem_append_left _ h)))))), good_of_word (gdX7_found w h)⟩
set_option maxRecDepth 20000 in
theorem gX7_set_X7_found : GoodIn wsX7_set (wsV RX7 60 RX7 yX7_found wsX7_found) := goodIn_app (goodIn_of _ (by decide +kernel)) ggX7_set_X7_found
theorem ggX7_set_X5_put : GoodIn wsX7_set wsX5_put := fun w h => ⟨List.mem_cons_of_mem _ (List.mem_append_right _ (List.mem_append_right _ (List.mem_append_right _ (List.mem_append_right _ (List.mem_append_right _ (List.mem_append_right _ (List.mem_append_left _ h))))))), good_of_word (gdX5_put w h)⟩
set_option maxRecDepth 20000 in
theorem gX7_set_X5_put : GoodIn wsX7_set (wsV RX7 75 RX5 yX5_put wsX5_put) := goodIn_app (goodIn_of _ (by decide +kernel)) ggX7_set_X5_put
theorem ggX7_set_X7_unfound : GoodIn wsX7_set wsX7_unfound := fun w h => ⟨List.mem_cons_of_mem _ (List.mem_append_right _ (List.mem_append_right _ (List.mem_append_right _ (List.mem_append_right _ (List.mem_append_right _ (List.mem_append_right _ (List.mem_append_right _ (List.mem_append_left _ h)))))))), good_of_word (gdX7_unfound w h)⟩
set_option maxRecDepth 20000 in
theorem gX7_set_X7_unfound : GoodIn wsX7_set (wsV RX7 68 RX7 yX7_unfound wsX7_unfound) := goodIn_app (goodIn_of _ (by decide +kernel)) ggX7_set_X7_unfound
def tb_X7_set_1 : List (Nat × Instr × Nat) := [(0, .aload_n 0, 1), (1, .iload_n 1, 1), (2, .invokevirtual 55, 3), (5, .ifCond .ne 6, 3), (8, .ldc 59, 2), (10, .ireturn, 1), (11, .aload_n 0, 1), (12, .getfield 11, 3), (15, .iload_n 1, 1), (16, .aaload, 1), (17, .iload_n 2, 1), (18, .iconst 1, 1), (19, .invokevirtual 71, 3), (22, .istore 4, 2), (24, .iload 4, 2), (26, .ifCond .eq 12, 3), (29, .aload_n 0, 1), (30, .iload 4, 2), (32, .invokevirtual 60, 3), (35, .goto 18, 3), (38, .aload_n 0, 1), (39, .aload_n 0, 1), (40, .getfield 11, 3), (43, .iload_n 1, 1), (44, .aaload, 1), (45, .iload_n 2, 1), (46, .iload_n 3, 1), (47, .invokevirtual 75, 3), (50, .invokevirtual 68, 3), (53, .ireturn, 1)]
set_option maxRecDepth 100000 in
theorem tk_X7_set_1 : (tb_X7_set_1.all fun q => decide (decode cX7_set q.1 = .ok q.2)) = true := by decide +kernel
theorem dX7_set_0 : decode cX7_set 0 = .ok (.aload_n 0, 1) := tb_d tk_X7_set_1 0 (0, .aload_n 0, 1) rfl
theorem dX7_set_1 : decode cX7_set 1 = .ok (.iload_n 1, 1) := tb_d tk_X7_set_1 1 (1, .iload_n 1, 1) rfl
theorem dX7_set_2 : decode cX7_set 2 = .ok (.invokevirtual 55, 3) := tb_d tk_X7_set_1 2 (2, .invokevirtual 55, 3) rfl
theorem dX7_set_5 : decode cX7_set 5 = .ok (.ifCond .ne 6, 3) := tb_d tk_X7_set_1 3 (5, .ifCond .ne 6, 3) rfl
theorem dX7_set_8 : decode cX7_set 8 = .ok (.ldc 59, 2) := tb_d tk_X7_set_1 4 (8, .ldc 59, 2) rfl
theorem dX7_set_10 : decode cX7_set 10 = .ok (.ireturn, 1) := tb_d tk_X7_set_1 5 (10, .ireturn, 1) rfl
theorem dX7_set_11 : decode cX7_set 11 = .ok (.aload_n 0, 1) := tb_d tk_X7_set_1 6 (11, .aload_n 0, 1) rfl
theorem dX7_set_12 : decode cX7_set 12 = .ok (.getfield 11, 3) := tb_d tk_X7_set_1 7 (12, .getfield 11, 3) rfl
theorem dX7_set_15 : decode cX7_set 15 = .ok (.iload_n 1, 1) := tb_d tk_X7_set_1 8 (15, .iload_n 1, 1) rfl
theorem dX7_set_16 : decode cX7_set 16 = .ok (.aaload, 1) := tb_d tk_X7_set_1 9 (16, .aaload, 1) rfl
theorem dX7_set_17 : decode cX7_set 17 = .ok (.iload_n 2, 1) := tb_d tk_X7_set_1 10 (17, .iload_n 2, 1) rfl
theorem dX7_set_18 : decode cX7_set 18 = .ok (.iconst 1, 1) := tb_d tk_X7_set_1 11 (18, .iconst 1, 1) rfl
theorem dX7_set_19 : decode cX7_set 19 = .ok (.invokevirtual 71, 3) := tb_d tk_X7_set_1 12 (19, .invokevirtual 71, 3) rfl
theorem dX7_set_22 : decode cX7_set 22 = .ok (.istore 4, 2) := tb_d tk_X7_set_1 13 (22, .istore 4, 2) rfl
theorem dX7_set_24 : decode cX7_set 24 = .ok (.iload 4, 2) := tb_d tk_X7_set_1 14 (24, .iload 4, 2) rfl
theorem dX7_set_26 : decode cX7_set 26 = .ok (.ifCond .eq 12, 3) := tb_d tk_X7_set_1 15 (26, .ifCond .eq 12, 3) rfl
theorem dX7_set_29 : decode cX7_set 29 = .ok (.aload_n 0, 1) := tb_d tk_X7_set_1 16 (29, .aload_n 0, 1) rfl
theorem dX7_set_30 : decode cX7_set 30 = .ok (.iload 4, 2) := tb_d tk_X7_set_1 17 (30, .iload 4, 2) rfl
theorem dX7_set_32 : decode cX7_set 32 = .ok (.invokevirtual 60, 3) := tb_d tk_X7_set_1 18 (32, .invokevirtual 60, 3) rfl
theorem dX7_set_35 : decode cX7_set 35 = .ok (.goto 18, 3) := tb_d tk_X7_set_1 19 (35, .goto 18, 3) rfl
theorem dX7_set_38 : decode cX7_set 38 = .ok (.aload_n 0, 1) := tb_d tk_X7_set_1 20 (38, .aload_n 0, 1) rfl
theorem dX7_set_39 : decode cX7_set 39 = .ok (.aload_n 0, 1) := tb_d tk_X7_set_1 21 (39, .aload_n 0, 1) rfl
theorem dX7_set_40 : decode cX7_set 40 = .ok (.getfield 11, 3) := tb_d tk_X7_set_1 22 (40, .getfield 11, 3) rfl
theorem dX7_set_43 : decode cX7_set 43 = .ok (.iload_n 1, 1) := tb_d tk_X7_set_1 23 (43, .iload_n 1, 1) rfl
theorem dX7_set_44 : decode cX7_set 44 = .ok (.aaload, 1) := tb_d tk_X7_set_1 24 (44, .aaload, 1) rfl
theorem dX7_set_45 : decode cX7_set 45 = .ok (.iload_n 2, 1) := tb_d tk_X7_set_1 25 (45, .iload_n 2, 1) rfl
theorem dX7_set_46 : decode cX7_set 46 = .ok (.iload_n 3, 1) := tb_d tk_X7_set_1 26 (46, .iload_n 3, 1) rfl
theorem dX7_set_47 : decode cX7_set 47 = .ok (.invokevirtual 75, 3) := tb_d tk_X7_set_1 27 (47, .invokevirtual 75, 3) rfl
theorem dX7_set_50 : decode cX7_set 50 = .ok (.invokevirtual 68, 3) := tb_d tk_X7_set_1 28 (50, .invokevirtual 68, 3) rfl
theorem dX7_set_53 : decode cX7_set 53 = .ok (.ireturn, 1) := tb_d tk_X7_set_1 29 (53, .ireturn, 1) rfl
theorem ggX7_copy_X7_isRow : GoodIn wsX7_copy wsX7_isRow := fun w h => ⟨List.mem_cons_of_mem _ (List.mem_append_right _ (List.mem_append_right _ (List.mem_append_right _ (List.mem_append_left _ h)))), good_of_word (gdX7_isRow w h)⟩
set_option maxRecDepth 20000 in
theorem gX7_copy_X7_isRow : GoodIn wsX7_copy (wsV RX7 55 RX7 yX7_isRow wsX7_isRow) := goodIn_app (goodIn_of _ (by decide +kernel)) ggX7_copy_X7_isRow
theorem ggX7_copy_X7_found : GoodIn wsX7_copy wsX7_found := fun w h => ⟨List.mem_cons_of_mem _ (List.mem_append_right _ (List.mem_append_right _ (List.mem_append_right _ (List.mem_append_right _ (List.mem_append_left _ h))))), good_of_word (gdX7_found w h)⟩
set_option maxRecDepth 20000 in
theorem gX7_copy_X7_found : GoodIn wsX7_copy (wsV RX7 60 RX7 yX7_found wsX7_found) := goodIn_app (goodIn_of _ (by decide +kernel)) ggX7_copy_X7_found
theorem ggX7_copy_X5_reaches : GoodIn wsX7_copy wsX5_reaches := fun w h => ⟨List.mem_cons_of_mem _ (List.mem_append_right _ (List.mem_append_right _ (List.mem_append_right _ (List.mem_append_right _ (List.mem_append_right _ (List.mem_append_left _ h)))))), good_of_word (gdX5_reaches w h)⟩
set_option maxRecDepth 20000 in
theorem gX7_copy_X5_reaches : GoodIn wsX7_copy (wsV RX7 82 RX5 yX5_reaches wsX5_reaches) := goodIn_app (goodIn_of _ (by decide +kernel)) ggX7_copy_X5_reaches
theorem ggX7_copy_X7_unfound : GoodIn wsX7_copy wsX7_unfound := fun w h => ⟨List.mem_cons_of_mem _ (List.mem_append_right _ (List.mem_append_right _ (List.mem_append_right _ (List.mem_append_right _ (List.mem_append_right _ (List.mem_append_right _ (List.mem_append_left _ h))))))), good_of_word (gdX7_unfound w h)⟩
set_option maxRecDepth 20000 in
theorem gX7_copy_X7_unfound : GoodIn wsX7_copy (wsV RX7 68 RX7 yX7_unfound wsX7_unfound) := goodIn_app (goodIn_of _ (by decide +kernel)) ggX7_copy_X7_unfound
def tb_X7_copy_1 : List (Nat × Instr × Nat) := [(0, .aload_n 0, 1), (1, .iload_n 1, 1), (2, .invokevirtual 55, 3), (5, .ifCond .eq 11, 3), (8, .aload_n 0, 1), (9, .iload_n 3, 1), (10, .invokevirtual 55, 3), (13, .ifCond .ne 6, 3), (16, .ldc 59, 2), (18, .ireturn, 1), (19, .aload_n 0, 1), (20, .getfield 11, 3), (23, .iload_n 1, 1), (24, .aaload, 1), (25, .astore 6, 2), (27, .aload_n 0, 1), (28, .getfield 11, 3), (31, .iload_n 3, 1), (32, .aaload, 1), (33, .astore 7, 2), (35, .aload 6, 2), (37, .getfield 78, 3), (40, .iconst (-1), 1), (41, .if_icmp .eq 12, 3), (44, .aload 7, 2), (46, .getfield 78, 3), (49, .iconst (-1), 1), (50, .if_icmp .ne 9, 3), (53, .aload_n 0, 1), (54, .iconst 1, 1), (55, .invokevirtual 60, 3), (58, .ireturn, 1), (59, .aload 6, 2), (61, .getfield 78, 3), (64, .aload 7, 2), (66, .getfield 78, 3), (69, .if_icmp .eq 9, 3), (72, .aload_n 0, 1), (73, .iconst 5, 1), (74, .invokevirtual 60, 3)]
set_option maxRecDepth 100000 in
theorem tk_X7_copy_1 : (tb_X7_copy_1.all fun q => decide (decode cX7_copy q.1 = .ok q.2)) = true := by decide +kernel
theorem dX7_copy_0 : decode cX7_copy 0 = .ok (.aload_n 0, 1) := tb_d tk_X7_copy_1 0 (0, .aload_n 0, 1) rfl
theorem dX7_copy_1 : decode cX7_copy 1 = .ok (.iload_n 1, 1) := tb_d tk_X7_copy_1 1 (1, .iload_n 1, 1) rfl
theorem dX7_copy_2 : decode cX7_copy 2 = .ok (.invokevirtual 55, 3) := tb_d tk_X7_copy_1 2 (2, .invokevirtual 55, 3) rfl
theorem dX7_copy_5 : decode cX7_copy 5 = .ok (.ifCond .eq 11, 3) := tb_d tk_X7_copy_1 3 (5, .ifCond .eq 11, 3) rfl
theorem dX7_copy_8 : decode cX7_copy 8 = .ok (.aload_n 0, 1) := tb_d tk_X7_copy_1 4 (8, .aload_n 0, 1) rfl
theorem dX7_copy_9 : decode cX7_copy 9 = .ok (.iload_n 3, 1) := tb_d tk_X7_copy_1 5 (9, .iload_n 3, 1) rfl
theorem dX7_copy_10 : decode cX7_copy 10 = .ok (.invokevirtual 55, 3) := tb_d tk_X7_copy_1 6 (10, .invokevirtual 55, 3) rfl
theorem dX7_copy_13 : decode cX7_copy 13 = .ok (.ifCond .ne 6, 3) := tb_d tk_X7_copy_1 7 (13, .ifCond .ne 6, 3) rfl
theorem dX7_copy_16 : decode cX7_copy 16 = .ok (.ldc 59, 2) := tb_d tk_X7_copy_1 8 (16, .ldc 59, 2) rfl
theorem dX7_copy_18 : decode cX7_copy 18 = .ok (.ireturn, 1) := tb_d tk_X7_copy_1 9 (18, .ireturn, 1) rfl
theorem dX7_copy_19 : decode cX7_copy 19 = .ok (.aload_n 0, 1) := tb_d tk_X7_copy_1 10 (19, .aload_n 0, 1) rfl
theorem dX7_copy_20 : decode cX7_copy 20 = .ok (.getfield 11, 3) := tb_d tk_X7_copy_1 11 (20, .getfield 11, 3) rfl
theorem dX7_copy_23 : decode cX7_copy 23 = .ok (.iload_n 1, 1) := tb_d tk_X7_copy_1 12 (23, .iload_n 1, 1) rfl
theorem dX7_copy_24 : decode cX7_copy 24 = .ok (.aaload, 1) := tb_d tk_X7_copy_1 13 (24, .aaload, 1) rfl
theorem dX7_copy_25 : decode cX7_copy 25 = .ok (.astore 6, 2) := tb_d tk_X7_copy_1 14 (25, .astore 6, 2) rfl
theorem dX7_copy_27 : decode cX7_copy 27 = .ok (.aload_n 0, 1) := tb_d tk_X7_copy_1 15 (27, .aload_n 0, 1) rfl
theorem dX7_copy_28 : decode cX7_copy 28 = .ok (.getfield 11, 3) := tb_d tk_X7_copy_1 16 (28, .getfield 11, 3) rfl
theorem dX7_copy_31 : decode cX7_copy 31 = .ok (.iload_n 3, 1) := tb_d tk_X7_copy_1 17 (31, .iload_n 3, 1) rfl
theorem dX7_copy_32 : decode cX7_copy 32 = .ok (.aaload, 1) := tb_d tk_X7_copy_1 18 (32, .aaload, 1) rfl
theorem dX7_copy_33 : decode cX7_copy 33 = .ok (.astore 7, 2) := tb_d tk_X7_copy_1 19 (33, .astore 7, 2) rfl
theorem dX7_copy_35 : decode cX7_copy 35 = .ok (.aload 6, 2) := tb_d tk_X7_copy_1 20 (35, .aload 6, 2) rfl
theorem dX7_copy_37 : decode cX7_copy 37 = .ok (.getfield 78, 3) := tb_d tk_X7_copy_1 21 (37, .getfield 78, 3) rfl
theorem dX7_copy_40 : decode cX7_copy 40 = .ok (.iconst (-1), 1) := tb_d tk_X7_copy_1 22 (40, .iconst (-1), 1) rfl
theorem dX7_copy_41 : decode cX7_copy 41 = .ok (.if_icmp .eq 12, 3) := tb_d tk_X7_copy_1 23 (41, .if_icmp .eq 12, 3) rfl
theorem dX7_copy_44 : decode cX7_copy 44 = .ok (.aload 7, 2) := tb_d tk_X7_copy_1 24 (44, .aload 7, 2) rfl
theorem dX7_copy_46 : decode cX7_copy 46 = .ok (.getfield 78, 3) := tb_d tk_X7_copy_1 25 (46, .getfield 78, 3) rfl
theorem dX7_copy_49 : decode cX7_copy 49 = .ok (.iconst (-1), 1) := tb_d tk_X7_copy_1 26 (49, .iconst (-1), 1) rfl
theorem dX7_copy_50 : decode cX7_copy 50 = .ok (.if_icmp .ne 9, 3) := tb_d tk_X7_copy_1 27 (50, .if_icmp .ne 9, 3) rfl
theorem dX7_copy_53 : decode cX7_copy 53 = .ok (.aload_n 0, 1) := tb_d tk_X7_copy_1 28 (53, .aload_n 0, 1) rfl
theorem dX7_copy_54 : decode cX7_copy 54 = .ok (.iconst 1, 1) := tb_d tk_X7_copy_1 29 (54, .iconst 1, 1) rfl
theorem dX7_copy_55 : decode cX7_copy 55 = .ok (.invokevirtual 60, 3) := tb_d tk_X7_copy_1 30 (55, .invokevirtual 60, 3) rfl
theorem dX7_copy_58 : decode cX7_copy 58 = .ok (.ireturn, 1) := tb_d tk_X7_copy_1 31 (58, .ireturn, 1) rfl
theorem dX7_copy_59 : decode cX7_copy 59 = .ok (.aload 6, 2) := tb_d tk_X7_copy_1 32 (59, .aload 6, 2) rfl
theorem dX7_copy_61 : decode cX7_copy 61 = .ok (.getfield 78, 3) := tb_d tk_X7_copy_1 33 (61, .getfield 78, 3) rfl
theorem dX7_copy_64 : decode cX7_copy 64 = .ok (.aload 7, 2) := tb_d tk_X7_copy_1 34 (64, .aload 7, 2) rfl
theorem dX7_copy_66 : decode cX7_copy 66 = .ok (.getfield 78, 3) := tb_d tk_X7_copy_1 35 (66, .getfield 78, 3) rfl
theorem dX7_copy_69 : decode cX7_copy 69 = .ok (.if_icmp .eq 9, 3) := tb_d tk_X7_copy_1 36 (69, .if_icmp .eq 9, 3) rfl
theorem dX7_copy_72 : decode cX7_copy 72 = .ok (.aload_n 0, 1) := tb_d tk_X7_copy_1 37 (72, .aload_n 0, 1) rfl
theorem dX7_copy_73 : decode cX7_copy 73 = .ok (.iconst 5, 1) := tb_d tk_X7_copy_1 38 (73, .iconst 5, 1) rfl
theorem dX7_copy_74 : decode cX7_copy 74 = .ok (.invokevirtual 60, 3) := tb_d tk_X7_copy_1 39 (74, .invokevirtual 60, 3) rfl
def tb_X7_copy_2 : List (Nat × Instr × Nat) := [(77, .ireturn, 1), (78, .aload 6, 2), (80, .iload_n 2, 1), (81, .iload 5, 2), (83, .invokevirtual 82, 3), (86, .ifCond .eq 15, 3), (89, .aload 7, 2), (91, .iload 4, 2), (93, .iload 5, 2), (95, .invokevirtual 82, 3), (98, .ifCond .ne 9, 3), (101, .aload_n 0, 1), (102, .iconst 2, 1), (103, .invokevirtual 60, 3), (106, .ireturn, 1), (107, .aload 6, 2), (109, .getfield 86, 3), (112, .iload_n 2, 1), (113, .aload 7, 2), (115, .getfield 86, 3), (118, .iload 4, 2), (120, .iload 5, 2), (122, .invokestatic 90, 3), (125, .aload_n 0, 1), (126, .iload 5, 2), (128, .invokevirtual 68, 3), (131, .ireturn, 1)]
set_option maxRecDepth 100000 in
theorem tk_X7_copy_2 : (tb_X7_copy_2.all fun q => decide (decode cX7_copy q.1 = .ok q.2)) = true := by decide +kernel
theorem dX7_copy_77 : decode cX7_copy 77 = .ok (.ireturn, 1) := tb_d tk_X7_copy_2 0 (77, .ireturn, 1) rfl
theorem dX7_copy_78 : decode cX7_copy 78 = .ok (.aload 6, 2) := tb_d tk_X7_copy_2 1 (78, .aload 6, 2) rfl
theorem dX7_copy_80 : decode cX7_copy 80 = .ok (.iload_n 2, 1) := tb_d tk_X7_copy_2 2 (80, .iload_n 2, 1) rfl
theorem dX7_copy_81 : decode cX7_copy 81 = .ok (.iload 5, 2) := tb_d tk_X7_copy_2 3 (81, .iload 5, 2) rfl
theorem dX7_copy_83 : decode cX7_copy 83 = .ok (.invokevirtual 82, 3) := tb_d tk_X7_copy_2 4 (83, .invokevirtual 82, 3) rfl
theorem dX7_copy_86 : decode cX7_copy 86 = .ok (.ifCond .eq 15, 3) := tb_d tk_X7_copy_2 5 (86, .ifCond .eq 15, 3) rfl
theorem dX7_copy_89 : decode cX7_copy 89 = .ok (.aload 7, 2) := tb_d tk_X7_copy_2 6 (89, .aload 7, 2) rfl
theorem dX7_copy_91 : decode cX7_copy 91 = .ok (.iload 4, 2) := tb_d tk_X7_copy_2 7 (91, .iload 4, 2) rfl
theorem dX7_copy_93 : decode cX7_copy 93 = .ok (.iload 5, 2) := tb_d tk_X7_copy_2 8 (93, .iload 5, 2) rfl
theorem dX7_copy_95 : decode cX7_copy 95 = .ok (.invokevirtual 82, 3) := tb_d tk_X7_copy_2 9 (95, .invokevirtual 82, 3) rfl
theorem dX7_copy_98 : decode cX7_copy 98 = .ok (.ifCond .ne 9, 3) := tb_d tk_X7_copy_2 10 (98, .ifCond .ne 9, 3) rfl
theorem dX7_copy_101 : decode cX7_copy 101 = .ok (.aload_n 0, 1) := tb_d tk_X7_copy_2 11 (101, .aload_n 0, 1) rfl
theorem dX7_copy_102 : decode cX7_copy 102 = .ok (.iconst 2, 1) := tb_d tk_X7_copy_2 12 (102, .iconst 2, 1) rfl
theorem dX7_copy_103 : decode cX7_copy 103 = .ok (.invokevirtual 60, 3) := tb_d tk_X7_copy_2 13 (103, .invokevirtual 60, 3) rfl
theorem dX7_copy_106 : decode cX7_copy 106 = .ok (.ireturn, 1) := tb_d tk_X7_copy_2 14 (106, .ireturn, 1) rfl
theorem dX7_copy_107 : decode cX7_copy 107 = .ok (.aload 6, 2) := tb_d tk_X7_copy_2 15 (107, .aload 6, 2) rfl
theorem dX7_copy_109 : decode cX7_copy 109 = .ok (.getfield 86, 3) := tb_d tk_X7_copy_2 16 (109, .getfield 86, 3) rfl
theorem dX7_copy_112 : decode cX7_copy 112 = .ok (.iload_n 2, 1) := tb_d tk_X7_copy_2 17 (112, .iload_n 2, 1) rfl
theorem dX7_copy_113 : decode cX7_copy 113 = .ok (.aload 7, 2) := tb_d tk_X7_copy_2 18 (113, .aload 7, 2) rfl
theorem dX7_copy_115 : decode cX7_copy 115 = .ok (.getfield 86, 3) := tb_d tk_X7_copy_2 19 (115, .getfield 86, 3) rfl
theorem dX7_copy_118 : decode cX7_copy 118 = .ok (.iload 4, 2) := tb_d tk_X7_copy_2 20 (118, .iload 4, 2) rfl
theorem dX7_copy_120 : decode cX7_copy 120 = .ok (.iload 5, 2) := tb_d tk_X7_copy_2 21 (120, .iload 5, 2) rfl
theorem dX7_copy_122 : decode cX7_copy 122 = .ok (.invokestatic 90, 3) := tb_d tk_X7_copy_2 22 (122, .invokestatic 90, 3) rfl
theorem dX7_copy_125 : decode cX7_copy 125 = .ok (.aload_n 0, 1) := tb_d tk_X7_copy_2 23 (125, .aload_n 0, 1) rfl
theorem dX7_copy_126 : decode cX7_copy 126 = .ok (.iload 5, 2) := tb_d tk_X7_copy_2 24 (126, .iload 5, 2) rfl
theorem dX7_copy_128 : decode cX7_copy 128 = .ok (.invokevirtual 68, 3) := tb_d tk_X7_copy_2 25 (128, .invokevirtual 68, 3) rfl
theorem dX7_copy_131 : decode cX7_copy 131 = .ok (.ireturn, 1) := tb_d tk_X7_copy_2 26 (131, .ireturn, 1) rfl
theorem ggX7_drop_X7_isRow : GoodIn wsX7_drop wsX7_isRow := fun w h => ⟨List.mem_cons_of_mem _ (List.mem_append_right _ (List.mem_append_right _ (List.mem_append_right _ (List.mem_append_left _ h)))), good_of_word (gdX7_isRow w h)⟩
set_option maxRecDepth 20000 in
theorem gX7_drop_X7_isRow : GoodIn wsX7_drop (wsV RX7 55 RX7 yX7_isRow wsX7_isRow) := goodIn_app (goodIn_of _ (by decide +kernel)) ggX7_drop_X7_isRow
theorem ggX7_drop_X7_found : GoodIn wsX7_drop wsX7_found := fun w h => ⟨List.mem_cons_of_mem _ (List.mem_append_right _ (List.mem_append_right _ (List.mem_append_right _ (List.mem_append_right _ (List.mem_append_left _ h))))), good_of_word (gdX7_found w h)⟩
set_option maxRecDepth 20000 in
theorem gX7_drop_X7_found : GoodIn wsX7_drop (wsV RX7 60 RX7 yX7_found wsX7_found) := goodIn_app (goodIn_of _ (by decide +kernel)) ggX7_drop_X7_found
theorem ggX7_drop_X7_unfound : GoodIn wsX7_drop wsX7_unfound := fun w h => ⟨List.mem_cons_of_mem _ (List.mem_append_right _ (List.mem_append_right _ (List.mem_append_right _ (List.mem_append_right _ (List.mem_append_right _ (List.mem_append_left _ h)))))), good_of_word (gdX7_unfound w h)⟩
set_option maxRecDepth 20000 in
theorem gX7_drop_X7_unfound : GoodIn wsX7_drop (wsV RX7 68 RX7 yX7_unfound wsX7_unfound) := goodIn_app (goodIn_of _ (by decide +kernel)) ggX7_drop_X7_unfound
def tb_X7_drop_1 : List (Nat × Instr × Nat) := [(0, .aload_n 0, 1), (1, .iload_n 1, 1), (2, .invokevirtual 55, 3), (5, .ifCond .ne 6, 3), (8, .ldc 59, 2), (10, .ireturn, 1), (11, .aload_n 0, 1), (12, .getfield 11, 3), (15, .iload_n 1, 1), (16, .aaload, 1), (17, .getfield 78, 3), (20, .iconst (-1), 1), (21, .if_icmp .ne 9, 3), (24, .aload_n 0, 1), (25, .iconst 1, 1), (26, .invokevirtual 60, 3), (29, .ireturn, 1), (30, .aload_n 0, 1), (31, .getfield 11, 3), (34, .iload_n 1, 1), (35, .aaload, 1), (36, .iconst (-1), 1), (37, .putfield 78, 3), (40, .aload_n 0, 1), (41, .aload_n 0, 1), (42, .getfield 11, 3), (45, .iload_n 1, 1), (46, .aaload, 1), (47, .getfield 96, 3), (50, .invokevirtual 68, 3), (53, .ireturn, 1)]
set_option maxRecDepth 100000 in
theorem tk_X7_drop_1 : (tb_X7_drop_1.all fun q => decide (decode cX7_drop q.1 = .ok q.2)) = true := by decide +kernel
theorem dX7_drop_0 : decode cX7_drop 0 = .ok (.aload_n 0, 1) := tb_d tk_X7_drop_1 0 (0, .aload_n 0, 1) rfl
theorem dX7_drop_1 : decode cX7_drop 1 = .ok (.iload_n 1, 1) := tb_d tk_X7_drop_1 1 (1, .iload_n 1, 1) rfl
theorem dX7_drop_2 : decode cX7_drop 2 = .ok (.invokevirtual 55, 3) := tb_d tk_X7_drop_1 2 (2, .invokevirtual 55, 3) rfl
theorem dX7_drop_5 : decode cX7_drop 5 = .ok (.ifCond .ne 6, 3) := tb_d tk_X7_drop_1 3 (5, .ifCond .ne 6, 3) rfl
theorem dX7_drop_8 : decode cX7_drop 8 = .ok (.ldc 59, 2) := tb_d tk_X7_drop_1 4 (8, .ldc 59, 2) rfl
theorem dX7_drop_10 : decode cX7_drop 10 = .ok (.ireturn, 1) := tb_d tk_X7_drop_1 5 (10, .ireturn, 1) rfl
theorem dX7_drop_11 : decode cX7_drop 11 = .ok (.aload_n 0, 1) := tb_d tk_X7_drop_1 6 (11, .aload_n 0, 1) rfl
theorem dX7_drop_12 : decode cX7_drop 12 = .ok (.getfield 11, 3) := tb_d tk_X7_drop_1 7 (12, .getfield 11, 3) rfl
theorem dX7_drop_15 : decode cX7_drop 15 = .ok (.iload_n 1, 1) := tb_d tk_X7_drop_1 8 (15, .iload_n 1, 1) rfl
theorem dX7_drop_16 : decode cX7_drop 16 = .ok (.aaload, 1) := tb_d tk_X7_drop_1 9 (16, .aaload, 1) rfl
theorem dX7_drop_17 : decode cX7_drop 17 = .ok (.getfield 78, 3) := tb_d tk_X7_drop_1 10 (17, .getfield 78, 3) rfl
theorem dX7_drop_20 : decode cX7_drop 20 = .ok (.iconst (-1), 1) := tb_d tk_X7_drop_1 11 (20, .iconst (-1), 1) rfl
theorem dX7_drop_21 : decode cX7_drop 21 = .ok (.if_icmp .ne 9, 3) := tb_d tk_X7_drop_1 12 (21, .if_icmp .ne 9, 3) rfl
theorem dX7_drop_24 : decode cX7_drop 24 = .ok (.aload_n 0, 1) := tb_d tk_X7_drop_1 13 (24, .aload_n 0, 1) rfl
theorem dX7_drop_25 : decode cX7_drop 25 = .ok (.iconst 1, 1) := tb_d tk_X7_drop_1 14 (25, .iconst 1, 1) rfl
theorem dX7_drop_26 : decode cX7_drop 26 = .ok (.invokevirtual 60, 3) := tb_d tk_X7_drop_1 15 (26, .invokevirtual 60, 3) rfl
theorem dX7_drop_29 : decode cX7_drop 29 = .ok (.ireturn, 1) := tb_d tk_X7_drop_1 16 (29, .ireturn, 1) rfl
theorem dX7_drop_30 : decode cX7_drop 30 = .ok (.aload_n 0, 1) := tb_d tk_X7_drop_1 17 (30, .aload_n 0, 1) rfl
theorem dX7_drop_31 : decode cX7_drop 31 = .ok (.getfield 11, 3) := tb_d tk_X7_drop_1 18 (31, .getfield 11, 3) rfl
theorem dX7_drop_34 : decode cX7_drop 34 = .ok (.iload_n 1, 1) := tb_d tk_X7_drop_1 19 (34, .iload_n 1, 1) rfl
theorem dX7_drop_35 : decode cX7_drop 35 = .ok (.aaload, 1) := tb_d tk_X7_drop_1 20 (35, .aaload, 1) rfl
theorem dX7_drop_36 : decode cX7_drop 36 = .ok (.iconst (-1), 1) := tb_d tk_X7_drop_1 21 (36, .iconst (-1), 1) rfl
theorem dX7_drop_37 : decode cX7_drop 37 = .ok (.putfield 78, 3) := tb_d tk_X7_drop_1 22 (37, .putfield 78, 3) rfl
theorem dX7_drop_40 : decode cX7_drop 40 = .ok (.aload_n 0, 1) := tb_d tk_X7_drop_1 23 (40, .aload_n 0, 1) rfl
theorem dX7_drop_41 : decode cX7_drop 41 = .ok (.aload_n 0, 1) := tb_d tk_X7_drop_1 24 (41, .aload_n 0, 1) rfl
theorem dX7_drop_42 : decode cX7_drop 42 = .ok (.getfield 11, 3) := tb_d tk_X7_drop_1 25 (42, .getfield 11, 3) rfl
theorem dX7_drop_45 : decode cX7_drop 45 = .ok (.iload_n 1, 1) := tb_d tk_X7_drop_1 26 (45, .iload_n 1, 1) rfl
theorem dX7_drop_46 : decode cX7_drop 46 = .ok (.aaload, 1) := tb_d tk_X7_drop_1 27 (46, .aaload, 1) rfl
theorem dX7_drop_47 : decode cX7_drop 47 = .ok (.getfield 96, 3) := tb_d tk_X7_drop_1 28 (47, .getfield 96, 3) rfl
theorem dX7_drop_50 : decode cX7_drop 50 = .ok (.invokevirtual 68, 3) := tb_d tk_X7_drop_1 29 (50, .invokevirtual 68, 3) rfl
theorem dX7_drop_53 : decode cX7_drop 53 = .ok (.ireturn, 1) := tb_d tk_X7_drop_1 30 (53, .ireturn, 1) rfl
theorem ggX7_feed_X6_append : GoodIn wsX7_feed wsX6_append := fun w h => ⟨List.mem_cons_of_mem _ (List.mem_append_right _ (List.mem_append_right _ (List.mem_append_right _ (List.mem_append_left _ h)))), good_of_word (gdX6_append w h)⟩
set_option maxRecDepth 20000 in
theorem gX7_feed_X6_append : GoodIn wsX7_feed (wsV RX7 99 RX6 yX6_append wsX6_append) := goodIn_app (goodIn_of _ (by decide +kernel)) ggX7_feed_X6_append
def tb_X7_feed_1 : List (Nat × Instr × Nat) := [(0, .iload_n 1, 1), (1, .ifCond .lt 10, 3), (4, .iload_n 1, 1), (5, .sipush 255, 3), (8, .if_icmp .le 6, 3), (11, .ldc 59, 2), (13, .ireturn, 1), (14, .aload_n 0, 1), (15, .getfield 18, 3), (18, .iload_n 1, 1), (19, .invokevirtual 99, 3), (22, .ifCond .eq 13, 3), (25, .aload_n 0, 1), (26, .getfield 18, 3), (29, .getfield 102, 3), (32, .goto 5, 3), (35, .ldc 105, 2), (37, .ireturn, 1)]
set_option maxRecDepth 100000 in
theorem tk_X7_feed_1 : (tb_X7_feed_1.all fun q => decide (decode cX7_feed q.1 = .ok q.2)) = true := by decide +kernel
theorem dX7_feed_0 : decode cX7_feed 0 = .ok (.iload_n 1, 1) := tb_d tk_X7_feed_1 0 (0, .iload_n 1, 1) rfl
theorem dX7_feed_1 : decode cX7_feed 1 = .ok (.ifCond .lt 10, 3) := tb_d tk_X7_feed_1 1 (1, .ifCond .lt 10, 3) rfl
theorem dX7_feed_4 : decode cX7_feed 4 = .ok (.iload_n 1, 1) := tb_d tk_X7_feed_1 2 (4, .iload_n 1, 1) rfl
theorem dX7_feed_5 : decode cX7_feed 5 = .ok (.sipush 255, 3) := tb_d tk_X7_feed_1 3 (5, .sipush 255, 3) rfl
theorem dX7_feed_8 : decode cX7_feed 8 = .ok (.if_icmp .le 6, 3) := tb_d tk_X7_feed_1 4 (8, .if_icmp .le 6, 3) rfl
theorem dX7_feed_11 : decode cX7_feed 11 = .ok (.ldc 59, 2) := tb_d tk_X7_feed_1 5 (11, .ldc 59, 2) rfl
theorem dX7_feed_13 : decode cX7_feed 13 = .ok (.ireturn, 1) := tb_d tk_X7_feed_1 6 (13, .ireturn, 1) rfl
theorem dX7_feed_14 : decode cX7_feed 14 = .ok (.aload_n 0, 1) := tb_d tk_X7_feed_1 7 (14, .aload_n 0, 1) rfl
theorem dX7_feed_15 : decode cX7_feed 15 = .ok (.getfield 18, 3) := tb_d tk_X7_feed_1 8 (15, .getfield 18, 3) rfl
theorem dX7_feed_18 : decode cX7_feed 18 = .ok (.iload_n 1, 1) := tb_d tk_X7_feed_1 9 (18, .iload_n 1, 1) rfl
theorem dX7_feed_19 : decode cX7_feed 19 = .ok (.invokevirtual 99, 3) := tb_d tk_X7_feed_1 10 (19, .invokevirtual 99, 3) rfl
theorem dX7_feed_22 : decode cX7_feed 22 = .ok (.ifCond .eq 13, 3) := tb_d tk_X7_feed_1 11 (22, .ifCond .eq 13, 3) rfl
theorem dX7_feed_25 : decode cX7_feed 25 = .ok (.aload_n 0, 1) := tb_d tk_X7_feed_1 12 (25, .aload_n 0, 1) rfl
theorem dX7_feed_26 : decode cX7_feed 26 = .ok (.getfield 18, 3) := tb_d tk_X7_feed_1 13 (26, .getfield 18, 3) rfl
theorem dX7_feed_29 : decode cX7_feed 29 = .ok (.getfield 102, 3) := tb_d tk_X7_feed_1 14 (29, .getfield 102, 3) rfl
theorem dX7_feed_32 : decode cX7_feed 32 = .ok (.goto 5, 3) := tb_d tk_X7_feed_1 15 (32, .goto 5, 3) rfl
theorem dX7_feed_35 : decode cX7_feed 35 = .ok (.ldc 105, 2) := tb_d tk_X7_feed_1 16 (35, .ldc 105, 2) rfl
theorem dX7_feed_37 : decode cX7_feed 37 = .ok (.ireturn, 1) := tb_d tk_X7_feed_1 17 (37, .ireturn, 1) rfl
theorem ggX7_gate_X6_read : GoodIn wsX7_gate wsX6_read := fun w h => ⟨List.mem_cons_of_mem _ (List.mem_append_right _ (List.mem_append_right _ (List.mem_append_right _ (List.mem_append_right _ (List.mem_append_right _ (List.mem_append_right _ (List.mem_append_left _ h))))))), good_of_word (gdX6_read w h)⟩
set_option maxRecDepth 20000 in
theorem gX7_gate_X6_read : GoodIn wsX7_gate (wsV RX7 106 RX6 yX6_read wsX6_read) := goodIn_app (goodIn_of _ (by decide +kernel)) ggX7_gate_X6_read
theorem ggX7_gate_X2_become : GoodIn wsX7_gate wsX2_become := fun w h => ⟨List.mem_cons_of_mem _ (List.mem_append_right _ (List.mem_append_right _ (List.mem_append_right _ (List.mem_append_right _ (List.mem_append_right _ (List.mem_append_right _ (List.mem_append_right _ (List.mem_append_left _ h)))))))), good_of_word (gdX2_become w h)⟩
set_option maxRecDepth 20000 in
theorem gX7_gate_X2_become : GoodIn wsX7_gate (wsV RX7 123 RX2 yX2_become wsX2_become) := goodIn_app (goodIn_of _ (by decide +kernel)) ggX7_gate_X2_become
theorem ggX7_gate_X0_forget : GoodIn wsX7_gate wsX0_forget := fun w h => ⟨List.mem_cons_of_mem _ (List.mem_append_right _ (List.mem_append_right _ (List.mem_append_right _ (List.mem_append_right _ (List.mem_append_right _ (List.mem_append_right _ (List.mem_append_right _ (List.mem_append_right _ (List.mem_append_left _ h))))))))), good_of_word (gdX0_forget w h)⟩
set_option maxRecDepth 20000 in
theorem gX7_gate_X0_forget : GoodIn wsX7_gate (wsV RX7 127 RX0 yX0_forget wsX0_forget) := goodIn_app (goodIn_of _ (by decide +kernel)) ggX7_gate_X0_forget
def tb_X7_gate_1 : List (Nat × Instr × Nat) := [(0, .aload_n 0, 1), (1, .getfield 18, 3), (4, .invokevirtual 106, 3), (7, .istore_n 1, 1), (8, .aload_n 0, 1), (9, .getfield 18, 3), (12, .iconst 0, 1), (13, .putfield 102, 3), (16, .iload_n 1, 1), (17, .ifCond .ne 25, 3), (20, .aload_n 0, 1), (21, .aload_n 0, 1), (22, .getfield 18, 3), (25, .getfield 110, 3), (28, .putfield 113, 3), (31, .ldc 116, 2), (33, .aload_n 0, 1), (34, .getfield 18, 3), (37, .getfield 117, 3), (40, .isub, 1), (41, .ireturn, 1), (42, .aload_n 0, 1), (43, .getfield 25, 3), (46, .aload_n 0, 1), (47, .getfield 18, 3), (50, .getfield 120, 3), (53, .invokevirtual 123, 3), (56, .aload_n 0, 1), (57, .getfield 32, 3), (60, .invokevirtual 127, 3), (63, .aload_n 0, 1), (64, .getfield 25, 3), (67, .getfield 130, 3), (70, .ireturn, 1)]
set_option maxRecDepth 100000 in
theorem tk_X7_gate_1 : (tb_X7_gate_1.all fun q => decide (decode cX7_gate q.1 = .ok q.2)) = true := by decide +kernel
theorem dX7_gate_0 : decode cX7_gate 0 = .ok (.aload_n 0, 1) := tb_d tk_X7_gate_1 0 (0, .aload_n 0, 1) rfl
theorem dX7_gate_1 : decode cX7_gate 1 = .ok (.getfield 18, 3) := tb_d tk_X7_gate_1 1 (1, .getfield 18, 3) rfl
theorem dX7_gate_4 : decode cX7_gate 4 = .ok (.invokevirtual 106, 3) := tb_d tk_X7_gate_1 2 (4, .invokevirtual 106, 3) rfl
theorem dX7_gate_7 : decode cX7_gate 7 = .ok (.istore_n 1, 1) := tb_d tk_X7_gate_1 3 (7, .istore_n 1, 1) rfl
theorem dX7_gate_8 : decode cX7_gate 8 = .ok (.aload_n 0, 1) := tb_d tk_X7_gate_1 4 (8, .aload_n 0, 1) rfl
theorem dX7_gate_9 : decode cX7_gate 9 = .ok (.getfield 18, 3) := tb_d tk_X7_gate_1 5 (9, .getfield 18, 3) rfl
theorem dX7_gate_12 : decode cX7_gate 12 = .ok (.iconst 0, 1) := tb_d tk_X7_gate_1 6 (12, .iconst 0, 1) rfl
theorem dX7_gate_13 : decode cX7_gate 13 = .ok (.putfield 102, 3) := tb_d tk_X7_gate_1 7 (13, .putfield 102, 3) rfl
theorem dX7_gate_16 : decode cX7_gate 16 = .ok (.iload_n 1, 1) := tb_d tk_X7_gate_1 8 (16, .iload_n 1, 1) rfl
theorem dX7_gate_17 : decode cX7_gate 17 = .ok (.ifCond .ne 25, 3) := tb_d tk_X7_gate_1 9 (17, .ifCond .ne 25, 3) rfl
theorem dX7_gate_20 : decode cX7_gate 20 = .ok (.aload_n 0, 1) := tb_d tk_X7_gate_1 10 (20, .aload_n 0, 1) rfl
theorem dX7_gate_21 : decode cX7_gate 21 = .ok (.aload_n 0, 1) := tb_d tk_X7_gate_1 11 (21, .aload_n 0, 1) rfl
theorem dX7_gate_22 : decode cX7_gate 22 = .ok (.getfield 18, 3) := tb_d tk_X7_gate_1 12 (22, .getfield 18, 3) rfl
theorem dX7_gate_25 : decode cX7_gate 25 = .ok (.getfield 110, 3) := tb_d tk_X7_gate_1 13 (25, .getfield 110, 3) rfl
theorem dX7_gate_28 : decode cX7_gate 28 = .ok (.putfield 113, 3) := tb_d tk_X7_gate_1 14 (28, .putfield 113, 3) rfl
theorem dX7_gate_31 : decode cX7_gate 31 = .ok (.ldc 116, 2) := tb_d tk_X7_gate_1 15 (31, .ldc 116, 2) rfl
theorem dX7_gate_33 : decode cX7_gate 33 = .ok (.aload_n 0, 1) := tb_d tk_X7_gate_1 16 (33, .aload_n 0, 1) rfl
theorem dX7_gate_34 : decode cX7_gate 34 = .ok (.getfield 18, 3) := tb_d tk_X7_gate_1 17 (34, .getfield 18, 3) rfl
theorem dX7_gate_37 : decode cX7_gate 37 = .ok (.getfield 117, 3) := tb_d tk_X7_gate_1 18 (37, .getfield 117, 3) rfl
theorem dX7_gate_40 : decode cX7_gate 40 = .ok (.isub, 1) := tb_d tk_X7_gate_1 19 (40, .isub, 1) rfl
theorem dX7_gate_41 : decode cX7_gate 41 = .ok (.ireturn, 1) := tb_d tk_X7_gate_1 20 (41, .ireturn, 1) rfl
theorem dX7_gate_42 : decode cX7_gate 42 = .ok (.aload_n 0, 1) := tb_d tk_X7_gate_1 21 (42, .aload_n 0, 1) rfl
theorem dX7_gate_43 : decode cX7_gate 43 = .ok (.getfield 25, 3) := tb_d tk_X7_gate_1 22 (43, .getfield 25, 3) rfl
theorem dX7_gate_46 : decode cX7_gate 46 = .ok (.aload_n 0, 1) := tb_d tk_X7_gate_1 23 (46, .aload_n 0, 1) rfl
theorem dX7_gate_47 : decode cX7_gate 47 = .ok (.getfield 18, 3) := tb_d tk_X7_gate_1 24 (47, .getfield 18, 3) rfl
theorem dX7_gate_50 : decode cX7_gate 50 = .ok (.getfield 120, 3) := tb_d tk_X7_gate_1 25 (50, .getfield 120, 3) rfl
theorem dX7_gate_53 : decode cX7_gate 53 = .ok (.invokevirtual 123, 3) := tb_d tk_X7_gate_1 26 (53, .invokevirtual 123, 3) rfl
theorem dX7_gate_56 : decode cX7_gate 56 = .ok (.aload_n 0, 1) := tb_d tk_X7_gate_1 27 (56, .aload_n 0, 1) rfl
theorem dX7_gate_57 : decode cX7_gate 57 = .ok (.getfield 32, 3) := tb_d tk_X7_gate_1 28 (57, .getfield 32, 3) rfl
theorem dX7_gate_60 : decode cX7_gate 60 = .ok (.invokevirtual 127, 3) := tb_d tk_X7_gate_1 29 (60, .invokevirtual 127, 3) rfl
theorem dX7_gate_63 : decode cX7_gate 63 = .ok (.aload_n 0, 1) := tb_d tk_X7_gate_1 30 (63, .aload_n 0, 1) rfl
theorem dX7_gate_64 : decode cX7_gate 64 = .ok (.getfield 25, 3) := tb_d tk_X7_gate_1 31 (64, .getfield 25, 3) rfl
theorem dX7_gate_67 : decode cX7_gate 67 = .ok (.getfield 130, 3) := tb_d tk_X7_gate_1 32 (67, .getfield 130, 3) rfl
theorem dX7_gate_70 : decode cX7_gate 70 = .ok (.ireturn, 1) := tb_d tk_X7_gate_1 33 (70, .ireturn, 1) rfl
def tb_X7_fault_1 : List (Nat × Instr × Nat) := [(0, .aload_n 0, 1), (1, .getfield 113, 3), (4, .ireturn, 1)]
set_option maxRecDepth 100000 in
theorem tk_X7_fault_1 : (tb_X7_fault_1.all fun q => decide (decode cX7_fault q.1 = .ok q.2)) = true := by decide +kernel
theorem dX7_fault_0 : decode cX7_fault 0 = .ok (.aload_n 0, 1) := tb_d tk_X7_fault_1 0 (0, .aload_n 0, 1) rfl
theorem dX7_fault_1 : decode cX7_fault 1 = .ok (.getfield 113, 3) := tb_d tk_X7_fault_1 1 (1, .getfield 113, 3) rfl
theorem dX7_fault_4 : decode cX7_fault 4 = .ok (.ireturn, 1) := tb_d tk_X7_fault_1 2 (4, .ireturn, 1) rfl
theorem ggX7_nights_X7_noGate : GoodIn wsX7_nights wsX7_noGate := fun w h => ⟨List.mem_cons_of_mem _ (List.mem_append_right _ (List.mem_append_right _ (List.mem_append_right _ (List.mem_append_right _ (List.mem_append_right _ (List.mem_append_left _ h)))))), good_of_word (gdX7_noGate w h)⟩
set_option maxRecDepth 20000 in
theorem gX7_nights_X7_noGate : GoodIn wsX7_nights (wsV RX7 133 RX7 yX7_noGate wsX7_noGate) := goodIn_app (goodIn_of _ (by decide +kernel)) ggX7_nights_X7_noGate
theorem ggX7_nights_X0_keep : GoodIn wsX7_nights wsX0_keep := fun w h => ⟨List.mem_cons_of_mem _ (List.mem_append_right _ (List.mem_append_right _ (List.mem_append_right _ (List.mem_append_right _ (List.mem_append_right _ (List.mem_append_right _ (List.mem_append_left _ h))))))), good_of_word (gdX0_keep w h)⟩
set_option maxRecDepth 20000 in
theorem gX7_nights_X0_keep : GoodIn wsX7_nights (wsV RX7 146 RX0 yX0_keep wsX0_keep) := goodIn_app (goodIn_of _ (by decide +kernel)) ggX7_nights_X0_keep
theorem ggX7_nights_X4_goBy : GoodIn wsX7_nights wsX4_goBy := fun w h => ⟨List.mem_cons_of_mem _ (List.mem_append_right _ (List.mem_append_right _ (List.mem_append_right _ (List.mem_append_right _ (List.mem_append_right _ (List.mem_append_right _ (List.mem_append_right _ (List.mem_append_left _ h)))))))), good_of_word (gdX4_goBy w h)⟩
set_option maxRecDepth 20000 in
theorem gX7_nights_X4_goBy : GoodIn wsX7_nights (wsV RX7 150 RX4 yX4_goBy wsX4_goBy) := goodIn_app (goodIn_of _ (by decide +kernel)) ggX7_nights_X4_goBy
theorem ggX7_nights_X2_secretIn : GoodIn wsX7_nights wsX2_secretIn := fun w h => ⟨List.mem_cons_of_mem _ (List.mem_append_right _ (List.mem_append_right _ (List.mem_append_right _ (List.mem_append_right _ (List.mem_append_right _ (List.mem_append_right _ (List.mem_append_right _ (List.mem_append_right _ (List.mem_append_left _ h))))))))), good_of_word (gdX2_secretIn w h)⟩
set_option maxRecDepth 20000 in
theorem gX7_nights_X2_secretIn : GoodIn wsX7_nights (wsV RX7 153 RX2 yX2_secretIn wsX2_secretIn) := goodIn_app (goodIn_of _ (by decide +kernel)) ggX7_nights_X2_secretIn
def tb_X7_nights_1 : List (Nat × Instr × Nat) := [(0, .aload_n 0, 1), (1, .invokevirtual 133, 3), (4, .ifCond .eq 6, 3), (7, .ldc 136, 2), (9, .ireturn, 1), (10, .iload_n 1, 1), (11, .iconst 1, 1), (12, .if_icmp .lt 9, 3), (15, .iload_n 1, 1), (16, .bipush 24, 2), (18, .if_icmp .le 6, 3), (21, .ldc 59, 2), (23, .ireturn, 1), (24, .aload_n 0, 1), (25, .getfield 25, 3), (28, .getfield 137, 3), (31, .getfield 141, 3), (34, .iload_n 1, 1), (35, .iadd, 1), (36, .sipush 999, 3), (39, .if_icmp .le 6, 3), (42, .ldc 105, 2), (44, .ireturn, 1), (45, .iconst 0, 1), (46, .istore_n 2, 1), (47, .iload_n 2, 1), (48, .iload_n 1, 1), (49, .if_icmp .ge 33, 3), (52, .aload_n 0, 1), (53, .getfield 32, 3), (56, .aload_n 0, 1), (57, .getfield 25, 3), (60, .getfield 137, 3), (63, .invokevirtual 146, 3), (66, .aload_n 0, 1), (67, .getfield 25, 3), (70, .getfield 137, 3), (73, .invokevirtual 150, 3), (76, .iinc 2 1, 3), (79, .goto (-32), 3)]
set_option maxRecDepth 100000 in
theorem tk_X7_nights_1 : (tb_X7_nights_1.all fun q => decide (decode cX7_nights q.1 = .ok q.2)) = true := by decide +kernel
theorem dX7_nights_0 : decode cX7_nights 0 = .ok (.aload_n 0, 1) := tb_d tk_X7_nights_1 0 (0, .aload_n 0, 1) rfl
theorem dX7_nights_1 : decode cX7_nights 1 = .ok (.invokevirtual 133, 3) := tb_d tk_X7_nights_1 1 (1, .invokevirtual 133, 3) rfl
theorem dX7_nights_4 : decode cX7_nights 4 = .ok (.ifCond .eq 6, 3) := tb_d tk_X7_nights_1 2 (4, .ifCond .eq 6, 3) rfl
theorem dX7_nights_7 : decode cX7_nights 7 = .ok (.ldc 136, 2) := tb_d tk_X7_nights_1 3 (7, .ldc 136, 2) rfl
theorem dX7_nights_9 : decode cX7_nights 9 = .ok (.ireturn, 1) := tb_d tk_X7_nights_1 4 (9, .ireturn, 1) rfl
theorem dX7_nights_10 : decode cX7_nights 10 = .ok (.iload_n 1, 1) := tb_d tk_X7_nights_1 5 (10, .iload_n 1, 1) rfl
theorem dX7_nights_11 : decode cX7_nights 11 = .ok (.iconst 1, 1) := tb_d tk_X7_nights_1 6 (11, .iconst 1, 1) rfl
theorem dX7_nights_12 : decode cX7_nights 12 = .ok (.if_icmp .lt 9, 3) := tb_d tk_X7_nights_1 7 (12, .if_icmp .lt 9, 3) rfl
theorem dX7_nights_15 : decode cX7_nights 15 = .ok (.iload_n 1, 1) := tb_d tk_X7_nights_1 8 (15, .iload_n 1, 1) rfl
theorem dX7_nights_16 : decode cX7_nights 16 = .ok (.bipush 24, 2) := tb_d tk_X7_nights_1 9 (16, .bipush 24, 2) rfl
theorem dX7_nights_18 : decode cX7_nights 18 = .ok (.if_icmp .le 6, 3) := tb_d tk_X7_nights_1 10 (18, .if_icmp .le 6, 3) rfl
theorem dX7_nights_21 : decode cX7_nights 21 = .ok (.ldc 59, 2) := tb_d tk_X7_nights_1 11 (21, .ldc 59, 2) rfl
theorem dX7_nights_23 : decode cX7_nights 23 = .ok (.ireturn, 1) := tb_d tk_X7_nights_1 12 (23, .ireturn, 1) rfl
theorem dX7_nights_24 : decode cX7_nights 24 = .ok (.aload_n 0, 1) := tb_d tk_X7_nights_1 13 (24, .aload_n 0, 1) rfl
theorem dX7_nights_25 : decode cX7_nights 25 = .ok (.getfield 25, 3) := tb_d tk_X7_nights_1 14 (25, .getfield 25, 3) rfl
theorem dX7_nights_28 : decode cX7_nights 28 = .ok (.getfield 137, 3) := tb_d tk_X7_nights_1 15 (28, .getfield 137, 3) rfl
theorem dX7_nights_31 : decode cX7_nights 31 = .ok (.getfield 141, 3) := tb_d tk_X7_nights_1 16 (31, .getfield 141, 3) rfl
theorem dX7_nights_34 : decode cX7_nights 34 = .ok (.iload_n 1, 1) := tb_d tk_X7_nights_1 17 (34, .iload_n 1, 1) rfl
theorem dX7_nights_35 : decode cX7_nights 35 = .ok (.iadd, 1) := tb_d tk_X7_nights_1 18 (35, .iadd, 1) rfl
theorem dX7_nights_36 : decode cX7_nights 36 = .ok (.sipush 999, 3) := tb_d tk_X7_nights_1 19 (36, .sipush 999, 3) rfl
theorem dX7_nights_39 : decode cX7_nights 39 = .ok (.if_icmp .le 6, 3) := tb_d tk_X7_nights_1 20 (39, .if_icmp .le 6, 3) rfl
theorem dX7_nights_42 : decode cX7_nights 42 = .ok (.ldc 105, 2) := tb_d tk_X7_nights_1 21 (42, .ldc 105, 2) rfl
theorem dX7_nights_44 : decode cX7_nights 44 = .ok (.ireturn, 1) := tb_d tk_X7_nights_1 22 (44, .ireturn, 1) rfl
theorem dX7_nights_45 : decode cX7_nights 45 = .ok (.iconst 0, 1) := tb_d tk_X7_nights_1 23 (45, .iconst 0, 1) rfl
theorem dX7_nights_46 : decode cX7_nights 46 = .ok (.istore_n 2, 1) := tb_d tk_X7_nights_1 24 (46, .istore_n 2, 1) rfl
theorem dX7_nights_47 : decode cX7_nights 47 = .ok (.iload_n 2, 1) := tb_d tk_X7_nights_1 25 (47, .iload_n 2, 1) rfl
theorem dX7_nights_48 : decode cX7_nights 48 = .ok (.iload_n 1, 1) := tb_d tk_X7_nights_1 26 (48, .iload_n 1, 1) rfl
theorem dX7_nights_49 : decode cX7_nights 49 = .ok (.if_icmp .ge 33, 3) := tb_d tk_X7_nights_1 27 (49, .if_icmp .ge 33, 3) rfl
theorem dX7_nights_52 : decode cX7_nights 52 = .ok (.aload_n 0, 1) := tb_d tk_X7_nights_1 28 (52, .aload_n 0, 1) rfl
theorem dX7_nights_53 : decode cX7_nights 53 = .ok (.getfield 32, 3) := tb_d tk_X7_nights_1 29 (53, .getfield 32, 3) rfl
theorem dX7_nights_56 : decode cX7_nights 56 = .ok (.aload_n 0, 1) := tb_d tk_X7_nights_1 30 (56, .aload_n 0, 1) rfl
theorem dX7_nights_57 : decode cX7_nights 57 = .ok (.getfield 25, 3) := tb_d tk_X7_nights_1 31 (57, .getfield 25, 3) rfl
theorem dX7_nights_60 : decode cX7_nights 60 = .ok (.getfield 137, 3) := tb_d tk_X7_nights_1 32 (60, .getfield 137, 3) rfl
theorem dX7_nights_63 : decode cX7_nights 63 = .ok (.invokevirtual 146, 3) := tb_d tk_X7_nights_1 33 (63, .invokevirtual 146, 3) rfl
theorem dX7_nights_66 : decode cX7_nights 66 = .ok (.aload_n 0, 1) := tb_d tk_X7_nights_1 34 (66, .aload_n 0, 1) rfl
theorem dX7_nights_67 : decode cX7_nights 67 = .ok (.getfield 25, 3) := tb_d tk_X7_nights_1 35 (67, .getfield 25, 3) rfl
theorem dX7_nights_70 : decode cX7_nights 70 = .ok (.getfield 137, 3) := tb_d tk_X7_nights_1 36 (70, .getfield 137, 3) rfl
theorem dX7_nights_73 : decode cX7_nights 73 = .ok (.invokevirtual 150, 3) := tb_d tk_X7_nights_1 37 (73, .invokevirtual 150, 3) rfl
theorem dX7_nights_76 : decode cX7_nights 76 = .ok (.iinc 2 1, 3) := tb_d tk_X7_nights_1 38 (76, .iinc 2 1, 3) rfl
theorem dX7_nights_79 : decode cX7_nights 79 = .ok (.goto (-32), 3) := tb_d tk_X7_nights_1 39 (79, .goto (-32), 3) rfl
def tb_X7_nights_2 : List (Nat × Instr × Nat) := [(82, .aload_n 0, 1), (83, .getfield 25, 3), (86, .iconst 0, 1), (87, .invokevirtual 153, 3), (90, .ireturn, 1)]
set_option maxRecDepth 100000 in
theorem tk_X7_nights_2 : (tb_X7_nights_2.all fun q => decide (decode cX7_nights q.1 = .ok q.2)) = true := by decide +kernel
theorem dX7_nights_82 : decode cX7_nights 82 = .ok (.aload_n 0, 1) := tb_d tk_X7_nights_2 0 (82, .aload_n 0, 1) rfl
theorem dX7_nights_83 : decode cX7_nights 83 = .ok (.getfield 25, 3) := tb_d tk_X7_nights_2 1 (83, .getfield 25, 3) rfl
theorem dX7_nights_86 : decode cX7_nights 86 = .ok (.iconst 0, 1) := tb_d tk_X7_nights_2 2 (86, .iconst 0, 1) rfl
theorem dX7_nights_87 : decode cX7_nights 87 = .ok (.invokevirtual 153, 3) := tb_d tk_X7_nights_2 3 (87, .invokevirtual 153, 3) rfl
theorem dX7_nights_90 : decode cX7_nights 90 = .ok (.ireturn, 1) := tb_d tk_X7_nights_2 4 (90, .ireturn, 1) rfl
theorem ggX7_say_X7_isWord : GoodIn wsX7_say wsX7_isWord := fun w h => ⟨List.mem_cons_of_mem _ (List.mem_append_right _ (List.mem_append_right _ (List.mem_append_right _ (List.mem_append_right _ (List.mem_append_right _ (List.mem_append_left _ h)))))), good_of_word (gdX7_isWord w h)⟩
set_option maxRecDepth 20000 in
theorem gX7_say_X7_isWord : GoodIn wsX7_say (wsV RX7 156 RX7 yX7_isWord wsX7_isWord) := goodIn_app (goodIn_of _ (by decide +kernel)) ggX7_say_X7_isWord
theorem ggX7_say_X7_isHour : GoodIn wsX7_say wsX7_isHour := fun w h => ⟨List.mem_cons_of_mem _ (List.mem_append_right _ (List.mem_append_right _ (List.mem_append_right _ (List.mem_append_right _ (List.mem_append_right _ (List.mem_append_right _ (List.mem_append_left _ h))))))), good_of_word (gdX7_isHour w h)⟩
set_option maxRecDepth 20000 in
theorem gX7_say_X7_isHour : GoodIn wsX7_say (wsV RX7 159 RX7 yX7_isHour wsX7_isHour) := goodIn_app (goodIn_of _ (by decide +kernel)) ggX7_say_X7_isHour
theorem ggX7_say_X2_guardOn : GoodIn wsX7_say wsX2_guardOn := fun w h => ⟨List.mem_cons_of_mem _ (List.mem_append_right _ (List.mem_append_right _ (List.mem_append_right _ (List.mem_append_right _ (List.mem_append_right _ (List.mem_append_right _ (List.mem_append_right _ (List.mem_append_left _ h)))))))), good_of_word (gdX2_guardOn w h)⟩
set_option maxRecDepth 20000 in
theorem gX7_say_X2_guardOn : GoodIn wsX7_say (wsV RX7 165 RX2 yX2_guardOn wsX2_guardOn) := goodIn_app (goodIn_of _ (by decide +kernel)) ggX7_say_X2_guardOn
theorem ggX7_say_X2_catches : GoodIn wsX7_say wsX2_catches := fun w h => ⟨List.mem_cons_of_mem _ (List.mem_append_right _ (List.mem_append_right _ (List.mem_append_right _ (List.mem_append_right _ (List.mem_append_right _ (List.mem_append_right _ (List.mem_append_right _ (List.mem_append_right _ (List.mem_append_left _ h))))))))), good_of_word (gdX2_catches w h)⟩
set_option maxRecDepth 20000 in
theorem gX7_say_X2_catches : GoodIn wsX7_say (wsV RX7 168 RX2 yX2_catches wsX2_catches) := goodIn_app (goodIn_of _ (by decide +kernel)) ggX7_say_X2_catches
theorem ggX7_say_X0_keep : GoodIn wsX7_say wsX0_keep := fun w h => ⟨List.mem_cons_of_mem _ (List.mem_append_right _ (List.mem_append_right _ (List.mem_append_right _ (List.mem_append_right _ (List.mem_append_right _ (List.mem_append_right _ (List.mem_append_right _ (List.mem_append_right _ (List.mem_append_right _ (List.mem_append_left _ h)))))))))), good_of_word (gdX0_keep w h)⟩
set_option maxRecDepth 20000 in
theorem gX7_say_X0_keep : GoodIn wsX7_say (wsV RX7 146 RX0 yX0_keep wsX0_keep) := goodIn_app (goodIn_of _ (by decide +kernel)) ggX7_say_X0_keep
theorem ggX7_say_X2_isThere : GoodIn wsX7_say wsX2_isThere := fun w h => ⟨List.mem_cons_of_mem _ (List.mem_append_right _ (List.mem_append_right _ (List.mem_append_right _ (List.mem_append_right _ (List.mem_append_right _ (List.mem_append_right _ (List.mem_append_right _ (List.mem_append_right _ (List.mem_append_right _ (List.mem_append_right _ (List.mem_append_left _ h))))))))))), good_of_word (gdX2_isThere w h)⟩
set_option maxRecDepth 20000 in
theorem gX7_say_X2_isThere : GoodIn wsX7_say (wsV RX7 172 RX2 yX2_isThere wsX2_isThere) := goodIn_app (goodIn_of _ (by decide +kernel)) ggX7_say_X2_isThere
theorem ggX7_say_X4_addTry : GoodIn wsX7_say wsX4_addTry := fun w h => ⟨List.mem_cons_of_mem _ (List.mem_append_right _ (List.mem_append_right _ (List.mem_append_right _ (List.mem_append_right _ (List.mem_append_right _ (List.mem_append_right _ (List.mem_append_right _ (List.mem_append_right _ (List.mem_append_right _ (List.mem_append_right _ (List.mem_append_right _ (List.mem_append_left _ h)))))))))))), good_of_word (gdX4_addTry w h)⟩
set_option maxRecDepth 20000 in
theorem gX7_say_X4_addTry : GoodIn wsX7_say (wsV RX7 176 RX4 yX4_addTry wsX4_addTry) := goodIn_app (goodIn_of _ (by decide +kernel)) ggX7_say_X4_addTry
theorem ggX7_say_X7_bit : GoodIn wsX7_say wsX7_bit := fun w h => ⟨List.mem_cons_of_mem _ (List.mem_append_right _ (List.mem_append_right _ (List.mem_append_right _ (List.mem_append_right _ (List.mem_append_right _ (List.mem_append_right _ (List.mem_append_right _ (List.mem_append_right _ (List.mem_append_right _ (List.mem_append_right _ (List.mem_append_right _ (List.mem_append_right _ (List.mem_append_left _ h))))))))))))), good_of_word (gdX7_bit w h)⟩
set_option maxRecDepth 20000 in
theorem gX7_say_X7_bit : GoodIn wsX7_say (va_wsS RX7 180 yX7_bit wsX7_bit) := goodIn_app (goodIn_of _ (by decide +kernel)) ggX7_say_X7_bit
def tb_X7_say_1 : List (Nat × Instr × Nat) := [(0, .aload_n 0, 1), (1, .iload_n 1, 1), (2, .invokevirtual 156, 3), (5, .ifCond .eq 11, 3), (8, .aload_n 0, 1), (9, .iload_n 2, 1), (10, .invokevirtual 159, 3), (13, .ifCond .ne 6, 3), (16, .ldc 59, 2), (18, .ireturn, 1), (19, .aload_n 0, 1), (20, .getfield 25, 3), (23, .getfield 137, 3), (26, .getfield 162, 3), (29, .bipush 9, 2), (31, .if_icmp .lt 6, 3), (34, .ldc 105, 2), (36, .ireturn, 1), (37, .aload_n 0, 1), (38, .getfield 25, 3), (41, .aload_n 0, 1), (42, .getfield 25, 3), (45, .getfield 137, 3), (48, .getfield 141, 3), (51, .iload_n 2, 1), (52, .invokevirtual 165, 3), (55, .istore_n 3, 1), (56, .aload_n 0, 1), (57, .getfield 25, 3), (60, .iload_n 1, 1), (61, .iload_n 2, 1), (62, .iconst 0, 1), (63, .invokevirtual 168, 3), (66, .istore 4, 2), (68, .aload_n 0, 1), (69, .getfield 32, 3), (72, .aload_n 0, 1), (73, .getfield 25, 3), (76, .getfield 137, 3), (79, .invokevirtual 146, 3)]
set_option maxRecDepth 100000 in
theorem tk_X7_say_1 : (tb_X7_say_1.all fun q => decide (decode cX7_say q.1 = .ok q.2)) = true := by decide +kernel
theorem dX7_say_0 : decode cX7_say 0 = .ok (.aload_n 0, 1) := tb_d tk_X7_say_1 0 (0, .aload_n 0, 1) rfl
theorem dX7_say_1 : decode cX7_say 1 = .ok (.iload_n 1, 1) := tb_d tk_X7_say_1 1 (1, .iload_n 1, 1) rfl
theorem dX7_say_2 : decode cX7_say 2 = .ok (.invokevirtual 156, 3) := tb_d tk_X7_say_1 2 (2, .invokevirtual 156, 3) rfl
theorem dX7_say_5 : decode cX7_say 5 = .ok (.ifCond .eq 11, 3) := tb_d tk_X7_say_1 3 (5, .ifCond .eq 11, 3) rfl
theorem dX7_say_8 : decode cX7_say 8 = .ok (.aload_n 0, 1) := tb_d tk_X7_say_1 4 (8, .aload_n 0, 1) rfl
theorem dX7_say_9 : decode cX7_say 9 = .ok (.iload_n 2, 1) := tb_d tk_X7_say_1 5 (9, .iload_n 2, 1) rfl
theorem dX7_say_10 : decode cX7_say 10 = .ok (.invokevirtual 159, 3) := tb_d tk_X7_say_1 6 (10, .invokevirtual 159, 3) rfl
theorem dX7_say_13 : decode cX7_say 13 = .ok (.ifCond .ne 6, 3) := tb_d tk_X7_say_1 7 (13, .ifCond .ne 6, 3) rfl
theorem dX7_say_16 : decode cX7_say 16 = .ok (.ldc 59, 2) := tb_d tk_X7_say_1 8 (16, .ldc 59, 2) rfl
theorem dX7_say_18 : decode cX7_say 18 = .ok (.ireturn, 1) := tb_d tk_X7_say_1 9 (18, .ireturn, 1) rfl
theorem dX7_say_19 : decode cX7_say 19 = .ok (.aload_n 0, 1) := tb_d tk_X7_say_1 10 (19, .aload_n 0, 1) rfl
theorem dX7_say_20 : decode cX7_say 20 = .ok (.getfield 25, 3) := tb_d tk_X7_say_1 11 (20, .getfield 25, 3) rfl
theorem dX7_say_23 : decode cX7_say 23 = .ok (.getfield 137, 3) := tb_d tk_X7_say_1 12 (23, .getfield 137, 3) rfl
theorem dX7_say_26 : decode cX7_say 26 = .ok (.getfield 162, 3) := tb_d tk_X7_say_1 13 (26, .getfield 162, 3) rfl
theorem dX7_say_29 : decode cX7_say 29 = .ok (.bipush 9, 2) := tb_d tk_X7_say_1 14 (29, .bipush 9, 2) rfl
theorem dX7_say_31 : decode cX7_say 31 = .ok (.if_icmp .lt 6, 3) := tb_d tk_X7_say_1 15 (31, .if_icmp .lt 6, 3) rfl
theorem dX7_say_34 : decode cX7_say 34 = .ok (.ldc 105, 2) := tb_d tk_X7_say_1 16 (34, .ldc 105, 2) rfl
theorem dX7_say_36 : decode cX7_say 36 = .ok (.ireturn, 1) := tb_d tk_X7_say_1 17 (36, .ireturn, 1) rfl
theorem dX7_say_37 : decode cX7_say 37 = .ok (.aload_n 0, 1) := tb_d tk_X7_say_1 18 (37, .aload_n 0, 1) rfl
theorem dX7_say_38 : decode cX7_say 38 = .ok (.getfield 25, 3) := tb_d tk_X7_say_1 19 (38, .getfield 25, 3) rfl
theorem dX7_say_41 : decode cX7_say 41 = .ok (.aload_n 0, 1) := tb_d tk_X7_say_1 20 (41, .aload_n 0, 1) rfl
theorem dX7_say_42 : decode cX7_say 42 = .ok (.getfield 25, 3) := tb_d tk_X7_say_1 21 (42, .getfield 25, 3) rfl
theorem dX7_say_45 : decode cX7_say 45 = .ok (.getfield 137, 3) := tb_d tk_X7_say_1 22 (45, .getfield 137, 3) rfl
theorem dX7_say_48 : decode cX7_say 48 = .ok (.getfield 141, 3) := tb_d tk_X7_say_1 23 (48, .getfield 141, 3) rfl
theorem dX7_say_51 : decode cX7_say 51 = .ok (.iload_n 2, 1) := tb_d tk_X7_say_1 24 (51, .iload_n 2, 1) rfl
theorem dX7_say_52 : decode cX7_say 52 = .ok (.invokevirtual 165, 3) := tb_d tk_X7_say_1 25 (52, .invokevirtual 165, 3) rfl
theorem dX7_say_55 : decode cX7_say 55 = .ok (.istore_n 3, 1) := tb_d tk_X7_say_1 26 (55, .istore_n 3, 1) rfl
theorem dX7_say_56 : decode cX7_say 56 = .ok (.aload_n 0, 1) := tb_d tk_X7_say_1 27 (56, .aload_n 0, 1) rfl
theorem dX7_say_57 : decode cX7_say 57 = .ok (.getfield 25, 3) := tb_d tk_X7_say_1 28 (57, .getfield 25, 3) rfl
theorem dX7_say_60 : decode cX7_say 60 = .ok (.iload_n 1, 1) := tb_d tk_X7_say_1 29 (60, .iload_n 1, 1) rfl
theorem dX7_say_61 : decode cX7_say 61 = .ok (.iload_n 2, 1) := tb_d tk_X7_say_1 30 (61, .iload_n 2, 1) rfl
theorem dX7_say_62 : decode cX7_say 62 = .ok (.iconst 0, 1) := tb_d tk_X7_say_1 31 (62, .iconst 0, 1) rfl
theorem dX7_say_63 : decode cX7_say 63 = .ok (.invokevirtual 168, 3) := tb_d tk_X7_say_1 32 (63, .invokevirtual 168, 3) rfl
theorem dX7_say_66 : decode cX7_say 66 = .ok (.istore 4, 2) := tb_d tk_X7_say_1 33 (66, .istore 4, 2) rfl
theorem dX7_say_68 : decode cX7_say 68 = .ok (.aload_n 0, 1) := tb_d tk_X7_say_1 34 (68, .aload_n 0, 1) rfl
theorem dX7_say_69 : decode cX7_say 69 = .ok (.getfield 32, 3) := tb_d tk_X7_say_1 35 (69, .getfield 32, 3) rfl
theorem dX7_say_72 : decode cX7_say 72 = .ok (.aload_n 0, 1) := tb_d tk_X7_say_1 36 (72, .aload_n 0, 1) rfl
theorem dX7_say_73 : decode cX7_say 73 = .ok (.getfield 25, 3) := tb_d tk_X7_say_1 37 (73, .getfield 25, 3) rfl
theorem dX7_say_76 : decode cX7_say 76 = .ok (.getfield 137, 3) := tb_d tk_X7_say_1 38 (76, .getfield 137, 3) rfl
theorem dX7_say_79 : decode cX7_say 79 = .ok (.invokevirtual 146, 3) := tb_d tk_X7_say_1 39 (79, .invokevirtual 146, 3) rfl
def tb_X7_say_2 : List (Nat × Instr × Nat) := [(82, .aload_n 0, 1), (83, .getfield 25, 3), (86, .getfield 137, 3), (89, .iload_n 1, 1), (90, .aload_n 0, 1), (91, .getfield 25, 3), (94, .iload_n 3, 1), (95, .invokevirtual 172, 3), (98, .ifCond .eq 7, 3), (101, .iload_n 3, 1), (102, .goto 5, 3), (105, .ldc 175, 2), (107, .iload 4, 2), (109, .invokevirtual 176, 3), (112, .iload 4, 2), (114, .invokestatic 180, 3), (117, .ireturn, 1)]
set_option maxRecDepth 100000 in
theorem tk_X7_say_2 : (tb_X7_say_2.all fun q => decide (decode cX7_say q.1 = .ok q.2)) = true := by decide +kernel
theorem dX7_say_82 : decode cX7_say 82 = .ok (.aload_n 0, 1) := tb_d tk_X7_say_2 0 (82, .aload_n 0, 1) rfl
theorem dX7_say_83 : decode cX7_say 83 = .ok (.getfield 25, 3) := tb_d tk_X7_say_2 1 (83, .getfield 25, 3) rfl
theorem dX7_say_86 : decode cX7_say 86 = .ok (.getfield 137, 3) := tb_d tk_X7_say_2 2 (86, .getfield 137, 3) rfl
theorem dX7_say_89 : decode cX7_say 89 = .ok (.iload_n 1, 1) := tb_d tk_X7_say_2 3 (89, .iload_n 1, 1) rfl
theorem dX7_say_90 : decode cX7_say 90 = .ok (.aload_n 0, 1) := tb_d tk_X7_say_2 4 (90, .aload_n 0, 1) rfl
theorem dX7_say_91 : decode cX7_say 91 = .ok (.getfield 25, 3) := tb_d tk_X7_say_2 5 (91, .getfield 25, 3) rfl
theorem dX7_say_94 : decode cX7_say 94 = .ok (.iload_n 3, 1) := tb_d tk_X7_say_2 6 (94, .iload_n 3, 1) rfl
theorem dX7_say_95 : decode cX7_say 95 = .ok (.invokevirtual 172, 3) := tb_d tk_X7_say_2 7 (95, .invokevirtual 172, 3) rfl
theorem dX7_say_98 : decode cX7_say 98 = .ok (.ifCond .eq 7, 3) := tb_d tk_X7_say_2 8 (98, .ifCond .eq 7, 3) rfl
theorem dX7_say_101 : decode cX7_say 101 = .ok (.iload_n 3, 1) := tb_d tk_X7_say_2 9 (101, .iload_n 3, 1) rfl
theorem dX7_say_102 : decode cX7_say 102 = .ok (.goto 5, 3) := tb_d tk_X7_say_2 10 (102, .goto 5, 3) rfl
theorem dX7_say_105 : decode cX7_say 105 = .ok (.ldc 175, 2) := tb_d tk_X7_say_2 11 (105, .ldc 175, 2) rfl
theorem dX7_say_107 : decode cX7_say 107 = .ok (.iload 4, 2) := tb_d tk_X7_say_2 12 (107, .iload 4, 2) rfl
theorem dX7_say_109 : decode cX7_say 109 = .ok (.invokevirtual 176, 3) := tb_d tk_X7_say_2 13 (109, .invokevirtual 176, 3) rfl
theorem dX7_say_112 : decode cX7_say 112 = .ok (.iload 4, 2) := tb_d tk_X7_say_2 14 (112, .iload 4, 2) rfl
theorem dX7_say_114 : decode cX7_say 114 = .ok (.invokestatic 180, 3) := tb_d tk_X7_say_2 15 (114, .invokestatic 180, 3) rfl
theorem dX7_say_117 : decode cX7_say 117 = .ok (.ireturn, 1) := tb_d tk_X7_say_2 16 (117, .ireturn, 1) rfl
theorem ggX7_start_X7_noGate : GoodIn wsX7_start wsX7_noGate := fun w h => ⟨List.mem_cons_of_mem _ (List.mem_append_right _ (List.mem_append_right _ (List.mem_append_right _ (List.mem_append_right _ (List.mem_append_right _ (List.mem_append_left _ h)))))), good_of_word (gdX7_noGate w h)⟩
set_option maxRecDepth 20000 in
theorem gX7_start_X7_noGate : GoodIn wsX7_start (wsV RX7 133 RX7 yX7_noGate wsX7_noGate) := goodIn_app (goodIn_of _ (by decide +kernel)) ggX7_start_X7_noGate
theorem ggX7_start_X0_keep : GoodIn wsX7_start wsX0_keep := fun w h => ⟨List.mem_cons_of_mem _ (List.mem_append_right _ (List.mem_append_right _ (List.mem_append_right _ (List.mem_append_right _ (List.mem_append_right _ (List.mem_append_right _ (List.mem_append_left _ h))))))), good_of_word (gdX0_keep w h)⟩
set_option maxRecDepth 20000 in
theorem gX7_start_X0_keep : GoodIn wsX7_start (wsV RX7 146 RX0 yX0_keep wsX0_keep) := goodIn_app (goodIn_of _ (by decide +kernel)) ggX7_start_X0_keep
def tb_X7_start_1 : List (Nat × Instr × Nat) := [(0, .aload_n 0, 1), (1, .invokevirtual 133, 3), (4, .ifCond .eq 6, 3), (7, .ldc 136, 2), (9, .ireturn, 1), (10, .iload_n 1, 1), (11, .ifCond .lt 9, 3), (14, .iload_n 1, 1), (15, .bipush 9, 2), (17, .if_icmp .le 6, 3), (20, .ldc 59, 2), (22, .ireturn, 1), (23, .aload_n 0, 1), (24, .getfield 25, 3), (27, .getfield 137, 3), (30, .getfield 184, 3), (33, .istore_n 2, 1), (34, .aload_n 0, 1), (35, .getfield 32, 3), (38, .aload_n 0, 1), (39, .getfield 25, 3), (42, .getfield 137, 3), (45, .invokevirtual 146, 3), (48, .aload_n 0, 1), (49, .getfield 25, 3), (52, .getfield 137, 3), (55, .iload_n 1, 1), (56, .putfield 184, 3), (59, .iload_n 2, 1), (60, .ireturn, 1)]
set_option maxRecDepth 100000 in
theorem tk_X7_start_1 : (tb_X7_start_1.all fun q => decide (decode cX7_start q.1 = .ok q.2)) = true := by decide +kernel
theorem dX7_start_0 : decode cX7_start 0 = .ok (.aload_n 0, 1) := tb_d tk_X7_start_1 0 (0, .aload_n 0, 1) rfl
theorem dX7_start_1 : decode cX7_start 1 = .ok (.invokevirtual 133, 3) := tb_d tk_X7_start_1 1 (1, .invokevirtual 133, 3) rfl
theorem dX7_start_4 : decode cX7_start 4 = .ok (.ifCond .eq 6, 3) := tb_d tk_X7_start_1 2 (4, .ifCond .eq 6, 3) rfl
theorem dX7_start_7 : decode cX7_start 7 = .ok (.ldc 136, 2) := tb_d tk_X7_start_1 3 (7, .ldc 136, 2) rfl
theorem dX7_start_9 : decode cX7_start 9 = .ok (.ireturn, 1) := tb_d tk_X7_start_1 4 (9, .ireturn, 1) rfl
theorem dX7_start_10 : decode cX7_start 10 = .ok (.iload_n 1, 1) := tb_d tk_X7_start_1 5 (10, .iload_n 1, 1) rfl
theorem dX7_start_11 : decode cX7_start 11 = .ok (.ifCond .lt 9, 3) := tb_d tk_X7_start_1 6 (11, .ifCond .lt 9, 3) rfl
theorem dX7_start_14 : decode cX7_start 14 = .ok (.iload_n 1, 1) := tb_d tk_X7_start_1 7 (14, .iload_n 1, 1) rfl
theorem dX7_start_15 : decode cX7_start 15 = .ok (.bipush 9, 2) := tb_d tk_X7_start_1 8 (15, .bipush 9, 2) rfl
theorem dX7_start_17 : decode cX7_start 17 = .ok (.if_icmp .le 6, 3) := tb_d tk_X7_start_1 9 (17, .if_icmp .le 6, 3) rfl
theorem dX7_start_20 : decode cX7_start 20 = .ok (.ldc 59, 2) := tb_d tk_X7_start_1 10 (20, .ldc 59, 2) rfl
theorem dX7_start_22 : decode cX7_start 22 = .ok (.ireturn, 1) := tb_d tk_X7_start_1 11 (22, .ireturn, 1) rfl
theorem dX7_start_23 : decode cX7_start 23 = .ok (.aload_n 0, 1) := tb_d tk_X7_start_1 12 (23, .aload_n 0, 1) rfl
theorem dX7_start_24 : decode cX7_start 24 = .ok (.getfield 25, 3) := tb_d tk_X7_start_1 13 (24, .getfield 25, 3) rfl
theorem dX7_start_27 : decode cX7_start 27 = .ok (.getfield 137, 3) := tb_d tk_X7_start_1 14 (27, .getfield 137, 3) rfl
theorem dX7_start_30 : decode cX7_start 30 = .ok (.getfield 184, 3) := tb_d tk_X7_start_1 15 (30, .getfield 184, 3) rfl
theorem dX7_start_33 : decode cX7_start 33 = .ok (.istore_n 2, 1) := tb_d tk_X7_start_1 16 (33, .istore_n 2, 1) rfl
theorem dX7_start_34 : decode cX7_start 34 = .ok (.aload_n 0, 1) := tb_d tk_X7_start_1 17 (34, .aload_n 0, 1) rfl
theorem dX7_start_35 : decode cX7_start 35 = .ok (.getfield 32, 3) := tb_d tk_X7_start_1 18 (35, .getfield 32, 3) rfl
theorem dX7_start_38 : decode cX7_start 38 = .ok (.aload_n 0, 1) := tb_d tk_X7_start_1 19 (38, .aload_n 0, 1) rfl
theorem dX7_start_39 : decode cX7_start 39 = .ok (.getfield 25, 3) := tb_d tk_X7_start_1 20 (39, .getfield 25, 3) rfl
theorem dX7_start_42 : decode cX7_start 42 = .ok (.getfield 137, 3) := tb_d tk_X7_start_1 21 (42, .getfield 137, 3) rfl
theorem dX7_start_45 : decode cX7_start 45 = .ok (.invokevirtual 146, 3) := tb_d tk_X7_start_1 22 (45, .invokevirtual 146, 3) rfl
theorem dX7_start_48 : decode cX7_start 48 = .ok (.aload_n 0, 1) := tb_d tk_X7_start_1 23 (48, .aload_n 0, 1) rfl
theorem dX7_start_49 : decode cX7_start 49 = .ok (.getfield 25, 3) := tb_d tk_X7_start_1 24 (49, .getfield 25, 3) rfl
theorem dX7_start_52 : decode cX7_start 52 = .ok (.getfield 137, 3) := tb_d tk_X7_start_1 25 (52, .getfield 137, 3) rfl
theorem dX7_start_55 : decode cX7_start 55 = .ok (.iload_n 1, 1) := tb_d tk_X7_start_1 26 (55, .iload_n 1, 1) rfl
theorem dX7_start_56 : decode cX7_start 56 = .ok (.putfield 184, 3) := tb_d tk_X7_start_1 27 (56, .putfield 184, 3) rfl
theorem dX7_start_59 : decode cX7_start 59 = .ok (.iload_n 2, 1) := tb_d tk_X7_start_1 28 (59, .iload_n 2, 1) rfl
theorem dX7_start_60 : decode cX7_start 60 = .ok (.ireturn, 1) := tb_d tk_X7_start_1 29 (60, .ireturn, 1) rfl
theorem ggX7_dismiss_X7_isGuard : GoodIn wsX7_dismiss wsX7_isGuard := fun w h => ⟨List.mem_cons_of_mem _ (List.mem_append_right _ (List.mem_append_right _ (List.mem_append_right _ (List.mem_append_right _ (List.mem_append_right _ (List.mem_append_left _ h)))))), good_of_word (gdX7_isGuard w h)⟩
set_option maxRecDepth 20000 in
theorem gX7_dismiss_X7_isGuard : GoodIn wsX7_dismiss (wsV RX7 187 RX7 yX7_isGuard wsX7_isGuard) := goodIn_app (goodIn_of _ (by decide +kernel)) ggX7_dismiss_X7_isGuard
theorem ggX7_dismiss_X2_isThere : GoodIn wsX7_dismiss wsX2_isThere := fun w h => ⟨List.mem_cons_of_mem _ (List.mem_append_right _ (List.mem_append_right _ (List.mem_append_right _ (List.mem_append_right _ (List.mem_append_right _ (List.mem_append_right _ (List.mem_append_left _ h))))))), good_of_word (gdX2_isThere w h)⟩
set_option maxRecDepth 20000 in
theorem gX7_dismiss_X2_isThere : GoodIn wsX7_dismiss (wsV RX7 172 RX2 yX2_isThere wsX2_isThere) := goodIn_app (goodIn_of _ (by decide +kernel)) ggX7_dismiss_X2_isThere
theorem ggX7_dismiss_X7_bit : GoodIn wsX7_dismiss wsX7_bit := fun w h => ⟨List.mem_cons_of_mem _ (List.mem_append_right _ (List.mem_append_right _ (List.mem_append_right _ (List.mem_append_right _ (List.mem_append_right _ (List.mem_append_right _ (List.mem_append_right _ (List.mem_append_left _ h)))))))), good_of_word (gdX7_bit w h)⟩
set_option maxRecDepth 20000 in
theorem gX7_dismiss_X7_bit : GoodIn wsX7_dismiss (va_wsS RX7 180 yX7_bit wsX7_bit) := goodIn_app (goodIn_of _ (by decide +kernel)) ggX7_dismiss_X7_bit
theorem ggX7_dismiss_X0_keep : GoodIn wsX7_dismiss wsX0_keep := fun w h => ⟨List.mem_cons_of_mem _ (List.mem_append_right _ (List.mem_append_right _ (List.mem_append_right _ (List.mem_append_right _ (List.mem_append_right _ (List.mem_append_right _ (List.mem_append_right _ (List.mem_append_right _ (List.mem_append_left _ h))))))))), good_of_word (gdX0_keep w h)⟩
set_option maxRecDepth 20000 in
theorem gX7_dismiss_X0_keep : GoodIn wsX7_dismiss (wsV RX7 146 RX0 yX0_keep wsX0_keep) := goodIn_app (goodIn_of _ (by decide +kernel)) ggX7_dismiss_X0_keep
def tb_X7_dismiss_1 : List (Nat × Instr × Nat) := [(0, .aload_n 0, 1), (1, .iload_n 1, 1), (2, .invokevirtual 187, 3), (5, .ifCond .eq 12, 3), (8, .iload_n 2, 1), (9, .ifCond .lt 8, 3), (12, .iload_n 2, 1), (13, .iconst 1, 1), (14, .if_icmp .le 6, 3), (17, .ldc 59, 2), (19, .ireturn, 1), (20, .aload_n 0, 1), (21, .getfield 25, 3), (24, .iload_n 1, 1), (25, .invokevirtual 172, 3), (28, .invokestatic 180, 3), (31, .iload_n 2, 1), (32, .if_icmp .ne 6, 3), (35, .ldc 136, 2), (37, .ireturn, 1), (38, .aload_n 0, 1), (39, .getfield 32, 3), (42, .aload_n 0, 1), (43, .getfield 25, 3), (46, .getfield 137, 3), (49, .invokevirtual 146, 3), (52, .aload_n 0, 1), (53, .getfield 25, 3), (56, .getfield 137, 3), (59, .dup, 1), (60, .getfield 190, 3), (63, .iconst 1, 1), (64, .iload_n 1, 1), (65, .ishl, 1), (66, .ixor, 1), (67, .putfield 190, 3), (70, .aload_n 0, 1), (71, .getfield 25, 3), (74, .getfield 137, 3), (77, .getfield 190, 3)]
set_option maxRecDepth 100000 in
theorem tk_X7_dismiss_1 : (tb_X7_dismiss_1.all fun q => decide (decode cX7_dismiss q.1 = .ok q.2)) = true := by decide +kernel
theorem dX7_dismiss_0 : decode cX7_dismiss 0 = .ok (.aload_n 0, 1) := tb_d tk_X7_dismiss_1 0 (0, .aload_n 0, 1) rfl
theorem dX7_dismiss_1 : decode cX7_dismiss 1 = .ok (.iload_n 1, 1) := tb_d tk_X7_dismiss_1 1 (1, .iload_n 1, 1) rfl
theorem dX7_dismiss_2 : decode cX7_dismiss 2 = .ok (.invokevirtual 187, 3) := tb_d tk_X7_dismiss_1 2 (2, .invokevirtual 187, 3) rfl
theorem dX7_dismiss_5 : decode cX7_dismiss 5 = .ok (.ifCond .eq 12, 3) := tb_d tk_X7_dismiss_1 3 (5, .ifCond .eq 12, 3) rfl
theorem dX7_dismiss_8 : decode cX7_dismiss 8 = .ok (.iload_n 2, 1) := tb_d tk_X7_dismiss_1 4 (8, .iload_n 2, 1) rfl
theorem dX7_dismiss_9 : decode cX7_dismiss 9 = .ok (.ifCond .lt 8, 3) := tb_d tk_X7_dismiss_1 5 (9, .ifCond .lt 8, 3) rfl
theorem dX7_dismiss_12 : decode cX7_dismiss 12 = .ok (.iload_n 2, 1) := tb_d tk_X7_dismiss_1 6 (12, .iload_n 2, 1) rfl
theorem dX7_dismiss_13 : decode cX7_dismiss 13 = .ok (.iconst 1, 1) := tb_d tk_X7_dismiss_1 7 (13, .iconst 1, 1) rfl
theorem dX7_dismiss_14 : decode cX7_dismiss 14 = .ok (.if_icmp .le 6, 3) := tb_d tk_X7_dismiss_1 8 (14, .if_icmp .le 6, 3) rfl
theorem dX7_dismiss_17 : decode cX7_dismiss 17 = .ok (.ldc 59, 2) := tb_d tk_X7_dismiss_1 9 (17, .ldc 59, 2) rfl
theorem dX7_dismiss_19 : decode cX7_dismiss 19 = .ok (.ireturn, 1) := tb_d tk_X7_dismiss_1 10 (19, .ireturn, 1) rfl
theorem dX7_dismiss_20 : decode cX7_dismiss 20 = .ok (.aload_n 0, 1) := tb_d tk_X7_dismiss_1 11 (20, .aload_n 0, 1) rfl
theorem dX7_dismiss_21 : decode cX7_dismiss 21 = .ok (.getfield 25, 3) := tb_d tk_X7_dismiss_1 12 (21, .getfield 25, 3) rfl
theorem dX7_dismiss_24 : decode cX7_dismiss 24 = .ok (.iload_n 1, 1) := tb_d tk_X7_dismiss_1 13 (24, .iload_n 1, 1) rfl
theorem dX7_dismiss_25 : decode cX7_dismiss 25 = .ok (.invokevirtual 172, 3) := tb_d tk_X7_dismiss_1 14 (25, .invokevirtual 172, 3) rfl
theorem dX7_dismiss_28 : decode cX7_dismiss 28 = .ok (.invokestatic 180, 3) := tb_d tk_X7_dismiss_1 15 (28, .invokestatic 180, 3) rfl
theorem dX7_dismiss_31 : decode cX7_dismiss 31 = .ok (.iload_n 2, 1) := tb_d tk_X7_dismiss_1 16 (31, .iload_n 2, 1) rfl
theorem dX7_dismiss_32 : decode cX7_dismiss 32 = .ok (.if_icmp .ne 6, 3) := tb_d tk_X7_dismiss_1 17 (32, .if_icmp .ne 6, 3) rfl
theorem dX7_dismiss_35 : decode cX7_dismiss 35 = .ok (.ldc 136, 2) := tb_d tk_X7_dismiss_1 18 (35, .ldc 136, 2) rfl
theorem dX7_dismiss_37 : decode cX7_dismiss 37 = .ok (.ireturn, 1) := tb_d tk_X7_dismiss_1 19 (37, .ireturn, 1) rfl
theorem dX7_dismiss_38 : decode cX7_dismiss 38 = .ok (.aload_n 0, 1) := tb_d tk_X7_dismiss_1 20 (38, .aload_n 0, 1) rfl
theorem dX7_dismiss_39 : decode cX7_dismiss 39 = .ok (.getfield 32, 3) := tb_d tk_X7_dismiss_1 21 (39, .getfield 32, 3) rfl
theorem dX7_dismiss_42 : decode cX7_dismiss 42 = .ok (.aload_n 0, 1) := tb_d tk_X7_dismiss_1 22 (42, .aload_n 0, 1) rfl
theorem dX7_dismiss_43 : decode cX7_dismiss 43 = .ok (.getfield 25, 3) := tb_d tk_X7_dismiss_1 23 (43, .getfield 25, 3) rfl
theorem dX7_dismiss_46 : decode cX7_dismiss 46 = .ok (.getfield 137, 3) := tb_d tk_X7_dismiss_1 24 (46, .getfield 137, 3) rfl
theorem dX7_dismiss_49 : decode cX7_dismiss 49 = .ok (.invokevirtual 146, 3) := tb_d tk_X7_dismiss_1 25 (49, .invokevirtual 146, 3) rfl
theorem dX7_dismiss_52 : decode cX7_dismiss 52 = .ok (.aload_n 0, 1) := tb_d tk_X7_dismiss_1 26 (52, .aload_n 0, 1) rfl
theorem dX7_dismiss_53 : decode cX7_dismiss 53 = .ok (.getfield 25, 3) := tb_d tk_X7_dismiss_1 27 (53, .getfield 25, 3) rfl
theorem dX7_dismiss_56 : decode cX7_dismiss 56 = .ok (.getfield 137, 3) := tb_d tk_X7_dismiss_1 28 (56, .getfield 137, 3) rfl
theorem dX7_dismiss_59 : decode cX7_dismiss 59 = .ok (.dup, 1) := tb_d tk_X7_dismiss_1 29 (59, .dup, 1) rfl
theorem dX7_dismiss_60 : decode cX7_dismiss 60 = .ok (.getfield 190, 3) := tb_d tk_X7_dismiss_1 30 (60, .getfield 190, 3) rfl
theorem dX7_dismiss_63 : decode cX7_dismiss 63 = .ok (.iconst 1, 1) := tb_d tk_X7_dismiss_1 31 (63, .iconst 1, 1) rfl
theorem dX7_dismiss_64 : decode cX7_dismiss 64 = .ok (.iload_n 1, 1) := tb_d tk_X7_dismiss_1 32 (64, .iload_n 1, 1) rfl
theorem dX7_dismiss_65 : decode cX7_dismiss 65 = .ok (.ishl, 1) := tb_d tk_X7_dismiss_1 33 (65, .ishl, 1) rfl
theorem dX7_dismiss_66 : decode cX7_dismiss 66 = .ok (.ixor, 1) := tb_d tk_X7_dismiss_1 34 (66, .ixor, 1) rfl
theorem dX7_dismiss_67 : decode cX7_dismiss 67 = .ok (.putfield 190, 3) := tb_d tk_X7_dismiss_1 35 (67, .putfield 190, 3) rfl
theorem dX7_dismiss_70 : decode cX7_dismiss 70 = .ok (.aload_n 0, 1) := tb_d tk_X7_dismiss_1 36 (70, .aload_n 0, 1) rfl
theorem dX7_dismiss_71 : decode cX7_dismiss 71 = .ok (.getfield 25, 3) := tb_d tk_X7_dismiss_1 37 (71, .getfield 25, 3) rfl
theorem dX7_dismiss_74 : decode cX7_dismiss 74 = .ok (.getfield 137, 3) := tb_d tk_X7_dismiss_1 38 (74, .getfield 137, 3) rfl
theorem dX7_dismiss_77 : decode cX7_dismiss 77 = .ok (.getfield 190, 3) := tb_d tk_X7_dismiss_1 39 (77, .getfield 190, 3) rfl
def tb_X7_dismiss_2 : List (Nat × Instr × Nat) := [(80, .ireturn, 1)]
set_option maxRecDepth 100000 in
theorem tk_X7_dismiss_2 : (tb_X7_dismiss_2.all fun q => decide (decode cX7_dismiss q.1 = .ok q.2)) = true := by decide +kernel
theorem dX7_dismiss_80 : decode cX7_dismiss 80 = .ok (.ireturn, 1) := tb_d tk_X7_dismiss_2 0 (80, .ireturn, 1) rfl
theorem ggX7_undo_X0_takeBack : GoodIn wsX7_undo wsX0_takeBack := fun w h => ⟨List.mem_cons_of_mem _ (List.mem_append_right _ (List.mem_append_right _ (List.mem_append_right _ (List.mem_append_right _ (List.mem_append_right _ (List.mem_append_left _ h)))))), good_of_word (gdX0_takeBack w h)⟩
set_option maxRecDepth 20000 in
theorem gX7_undo_X0_takeBack : GoodIn wsX7_undo (wsV RX7 193 RX0 yX0_takeBack wsX0_takeBack) := goodIn_app (goodIn_of _ (by decide +kernel)) ggX7_undo_X0_takeBack
def tb_X7_undo_1 : List (Nat × Instr × Nat) := [(0, .aload_n 0, 1), (1, .getfield 32, 3), (4, .aload_n 0, 1), (5, .getfield 25, 3), (8, .getfield 137, 3), (11, .invokevirtual 193, 3), (14, .ifCond .eq 13, 3), (17, .aload_n 0, 1), (18, .getfield 32, 3), (21, .getfield 197, 3), (24, .goto 5, 3), (27, .ldc 136, 2), (29, .ireturn, 1)]
set_option maxRecDepth 100000 in
theorem tk_X7_undo_1 : (tb_X7_undo_1.all fun q => decide (decode cX7_undo q.1 = .ok q.2)) = true := by decide +kernel
theorem dX7_undo_0 : decode cX7_undo 0 = .ok (.aload_n 0, 1) := tb_d tk_X7_undo_1 0 (0, .aload_n 0, 1) rfl
theorem dX7_undo_1 : decode cX7_undo 1 = .ok (.getfield 32, 3) := tb_d tk_X7_undo_1 1 (1, .getfield 32, 3) rfl
theorem dX7_undo_4 : decode cX7_undo 4 = .ok (.aload_n 0, 1) := tb_d tk_X7_undo_1 2 (4, .aload_n 0, 1) rfl
theorem dX7_undo_5 : decode cX7_undo 5 = .ok (.getfield 25, 3) := tb_d tk_X7_undo_1 3 (5, .getfield 25, 3) rfl
theorem dX7_undo_8 : decode cX7_undo 8 = .ok (.getfield 137, 3) := tb_d tk_X7_undo_1 4 (8, .getfield 137, 3) rfl
theorem dX7_undo_11 : decode cX7_undo 11 = .ok (.invokevirtual 193, 3) := tb_d tk_X7_undo_1 5 (11, .invokevirtual 193, 3) rfl
theorem dX7_undo_14 : decode cX7_undo 14 = .ok (.ifCond .eq 13, 3) := tb_d tk_X7_undo_1 6 (14, .ifCond .eq 13, 3) rfl
theorem dX7_undo_17 : decode cX7_undo 17 = .ok (.aload_n 0, 1) := tb_d tk_X7_undo_1 7 (17, .aload_n 0, 1) rfl
theorem dX7_undo_18 : decode cX7_undo 18 = .ok (.getfield 32, 3) := tb_d tk_X7_undo_1 8 (18, .getfield 32, 3) rfl
theorem dX7_undo_21 : decode cX7_undo 21 = .ok (.getfield 197, 3) := tb_d tk_X7_undo_1 9 (21, .getfield 197, 3) rfl
theorem dX7_undo_24 : decode cX7_undo 24 = .ok (.goto 5, 3) := tb_d tk_X7_undo_1 10 (24, .goto 5, 3) rfl
theorem dX7_undo_27 : decode cX7_undo 27 = .ok (.ldc 136, 2) := tb_d tk_X7_undo_1 11 (27, .ldc 136, 2) rfl
theorem dX7_undo_29 : decode cX7_undo 29 = .ok (.ireturn, 1) := tb_d tk_X7_undo_1 12 (29, .ireturn, 1) rfl
theorem ggX7_letter_X7_isWord : GoodIn wsX7_letter wsX7_isWord := fun w h => ⟨List.mem_cons_of_mem _ (List.mem_append_right _ (List.mem_append_right _ (List.mem_append_right _ (List.mem_append_left _ h)))), good_of_word (gdX7_isWord w h)⟩
set_option maxRecDepth 20000 in
theorem gX7_letter_X7_isWord : GoodIn wsX7_letter (wsV RX7 156 RX7 yX7_isWord wsX7_isWord) := goodIn_app (goodIn_of _ (by decide +kernel)) ggX7_letter_X7_isWord
def tb_X7_letter_1 : List (Nat × Instr × Nat) := [(0, .aload_n 0, 1), (1, .iload_n 1, 1), (2, .invokevirtual 156, 3), (5, .ifCond .eq 12, 3), (8, .iload_n 2, 1), (9, .ifCond .lt 8, 3), (12, .iload_n 2, 1), (13, .iconst 3, 1), (14, .if_icmp .lt 6, 3), (17, .ldc 59, 2), (19, .ireturn, 1), (20, .aload_n 0, 1), (21, .getfield 25, 3), (24, .getfield 200, 3), (27, .iload_n 1, 1), (28, .iconst 3, 1), (29, .imul, 1), (30, .iload_n 2, 1), (31, .iadd, 1), (32, .iaload, 1), (33, .ireturn, 1)]
set_option maxRecDepth 100000 in
theorem tk_X7_letter_1 : (tb_X7_letter_1.all fun q => decide (decode cX7_letter q.1 = .ok q.2)) = true := by decide +kernel
theorem dX7_letter_0 : decode cX7_letter 0 = .ok (.aload_n 0, 1) := tb_d tk_X7_letter_1 0 (0, .aload_n 0, 1) rfl
theorem dX7_letter_1 : decode cX7_letter 1 = .ok (.iload_n 1, 1) := tb_d tk_X7_letter_1 1 (1, .iload_n 1, 1) rfl
theorem dX7_letter_2 : decode cX7_letter 2 = .ok (.invokevirtual 156, 3) := tb_d tk_X7_letter_1 2 (2, .invokevirtual 156, 3) rfl
theorem dX7_letter_5 : decode cX7_letter 5 = .ok (.ifCond .eq 12, 3) := tb_d tk_X7_letter_1 3 (5, .ifCond .eq 12, 3) rfl
theorem dX7_letter_8 : decode cX7_letter 8 = .ok (.iload_n 2, 1) := tb_d tk_X7_letter_1 4 (8, .iload_n 2, 1) rfl
theorem dX7_letter_9 : decode cX7_letter 9 = .ok (.ifCond .lt 8, 3) := tb_d tk_X7_letter_1 5 (9, .ifCond .lt 8, 3) rfl
theorem dX7_letter_12 : decode cX7_letter 12 = .ok (.iload_n 2, 1) := tb_d tk_X7_letter_1 6 (12, .iload_n 2, 1) rfl
theorem dX7_letter_13 : decode cX7_letter 13 = .ok (.iconst 3, 1) := tb_d tk_X7_letter_1 7 (13, .iconst 3, 1) rfl
theorem dX7_letter_14 : decode cX7_letter 14 = .ok (.if_icmp .lt 6, 3) := tb_d tk_X7_letter_1 8 (14, .if_icmp .lt 6, 3) rfl
theorem dX7_letter_17 : decode cX7_letter 17 = .ok (.ldc 59, 2) := tb_d tk_X7_letter_1 9 (17, .ldc 59, 2) rfl
theorem dX7_letter_19 : decode cX7_letter 19 = .ok (.ireturn, 1) := tb_d tk_X7_letter_1 10 (19, .ireturn, 1) rfl
theorem dX7_letter_20 : decode cX7_letter 20 = .ok (.aload_n 0, 1) := tb_d tk_X7_letter_1 11 (20, .aload_n 0, 1) rfl
theorem dX7_letter_21 : decode cX7_letter 21 = .ok (.getfield 25, 3) := tb_d tk_X7_letter_1 12 (21, .getfield 25, 3) rfl
theorem dX7_letter_24 : decode cX7_letter 24 = .ok (.getfield 200, 3) := tb_d tk_X7_letter_1 13 (24, .getfield 200, 3) rfl
theorem dX7_letter_27 : decode cX7_letter 27 = .ok (.iload_n 1, 1) := tb_d tk_X7_letter_1 14 (27, .iload_n 1, 1) rfl
theorem dX7_letter_28 : decode cX7_letter 28 = .ok (.iconst 3, 1) := tb_d tk_X7_letter_1 15 (28, .iconst 3, 1) rfl
theorem dX7_letter_29 : decode cX7_letter 29 = .ok (.imul, 1) := tb_d tk_X7_letter_1 16 (29, .imul, 1) rfl
theorem dX7_letter_30 : decode cX7_letter 30 = .ok (.iload_n 2, 1) := tb_d tk_X7_letter_1 17 (30, .iload_n 2, 1) rfl
theorem dX7_letter_31 : decode cX7_letter 31 = .ok (.iadd, 1) := tb_d tk_X7_letter_1 18 (31, .iadd, 1) rfl
theorem dX7_letter_32 : decode cX7_letter 32 = .ok (.iaload, 1) := tb_d tk_X7_letter_1 19 (32, .iaload, 1) rfl
theorem dX7_letter_33 : decode cX7_letter 33 = .ok (.ireturn, 1) := tb_d tk_X7_letter_1 20 (33, .ireturn, 1) rfl
theorem ggX7_like_X7_isWord : GoodIn wsX7_like wsX7_isWord := fun w h => ⟨List.mem_cons_of_mem _ (List.mem_append_right _ (List.mem_append_right _ (List.mem_append_right _ (List.mem_append_left _ h)))), good_of_word (gdX7_isWord w h)⟩
set_option maxRecDepth 20000 in
theorem gX7_like_X7_isWord : GoodIn wsX7_like (wsV RX7 156 RX7 yX7_isWord wsX7_isWord) := goodIn_app (goodIn_of _ (by decide +kernel)) ggX7_like_X7_isWord
theorem ggX7_like_X2_distance : GoodIn wsX7_like wsX2_distance := fun w h => ⟨List.mem_cons_of_mem _ (List.mem_append_right _ (List.mem_append_right _ (List.mem_append_right _ (List.mem_append_right _ (List.mem_append_left _ h))))), good_of_word (gdX2_distance w h)⟩
set_option maxRecDepth 20000 in
theorem gX7_like_X2_distance : GoodIn wsX7_like (wsV RX7 203 RX2 yX2_distance wsX2_distance) := goodIn_app (goodIn_of _ (by decide +kernel)) ggX7_like_X2_distance
theorem ggX7_like_X2_lips : GoodIn wsX7_like wsX2_lips := fun w h => ⟨List.mem_cons_of_mem _ (List.mem_append_right _ (List.mem_append_right _ (List.mem_append_right _ (List.mem_append_right _ (List.mem_append_right _ (List.mem_append_left _ h)))))), good_of_word (gdX2_lips w h)⟩
set_option maxRecDepth 20000 in
theorem gX7_like_X2_lips : GoodIn wsX7_like (wsV RX7 206 RX2 yX2_lips wsX2_lips) := goodIn_app (goodIn_of _ (by decide +kernel)) ggX7_like_X2_lips
def tb_X7_like_1 : List (Nat × Instr × Nat) := [(0, .aload_n 0, 1), (1, .iload_n 1, 1), (2, .invokevirtual 156, 3), (5, .ifCond .eq 20, 3), (8, .aload_n 0, 1), (9, .iload_n 2, 1), (10, .invokevirtual 156, 3), (13, .ifCond .eq 12, 3), (16, .iload_n 3, 1), (17, .ifCond .lt 8, 3), (20, .iload_n 3, 1), (21, .iconst 1, 1), (22, .if_icmp .le 6, 3), (25, .ldc 59, 2), (27, .ireturn, 1), (28, .iload_n 3, 1), (29, .ifCond .ne 15, 3), (32, .aload_n 0, 1), (33, .getfield 25, 3), (36, .iload_n 1, 1), (37, .iload_n 2, 1), (38, .invokevirtual 203, 3), (41, .goto 12, 3), (44, .aload_n 0, 1), (45, .getfield 25, 3), (48, .iload_n 1, 1), (49, .iload_n 2, 1), (50, .invokevirtual 206, 3), (53, .ireturn, 1)]
set_option maxRecDepth 100000 in
theorem tk_X7_like_1 : (tb_X7_like_1.all fun q => decide (decode cX7_like q.1 = .ok q.2)) = true := by decide +kernel
theorem dX7_like_0 : decode cX7_like 0 = .ok (.aload_n 0, 1) := tb_d tk_X7_like_1 0 (0, .aload_n 0, 1) rfl
theorem dX7_like_1 : decode cX7_like 1 = .ok (.iload_n 1, 1) := tb_d tk_X7_like_1 1 (1, .iload_n 1, 1) rfl
theorem dX7_like_2 : decode cX7_like 2 = .ok (.invokevirtual 156, 3) := tb_d tk_X7_like_1 2 (2, .invokevirtual 156, 3) rfl
theorem dX7_like_5 : decode cX7_like 5 = .ok (.ifCond .eq 20, 3) := tb_d tk_X7_like_1 3 (5, .ifCond .eq 20, 3) rfl
theorem dX7_like_8 : decode cX7_like 8 = .ok (.aload_n 0, 1) := tb_d tk_X7_like_1 4 (8, .aload_n 0, 1) rfl
theorem dX7_like_9 : decode cX7_like 9 = .ok (.iload_n 2, 1) := tb_d tk_X7_like_1 5 (9, .iload_n 2, 1) rfl
theorem dX7_like_10 : decode cX7_like 10 = .ok (.invokevirtual 156, 3) := tb_d tk_X7_like_1 6 (10, .invokevirtual 156, 3) rfl
theorem dX7_like_13 : decode cX7_like 13 = .ok (.ifCond .eq 12, 3) := tb_d tk_X7_like_1 7 (13, .ifCond .eq 12, 3) rfl
theorem dX7_like_16 : decode cX7_like 16 = .ok (.iload_n 3, 1) := tb_d tk_X7_like_1 8 (16, .iload_n 3, 1) rfl
theorem dX7_like_17 : decode cX7_like 17 = .ok (.ifCond .lt 8, 3) := tb_d tk_X7_like_1 9 (17, .ifCond .lt 8, 3) rfl
theorem dX7_like_20 : decode cX7_like 20 = .ok (.iload_n 3, 1) := tb_d tk_X7_like_1 10 (20, .iload_n 3, 1) rfl
theorem dX7_like_21 : decode cX7_like 21 = .ok (.iconst 1, 1) := tb_d tk_X7_like_1 11 (21, .iconst 1, 1) rfl
theorem dX7_like_22 : decode cX7_like 22 = .ok (.if_icmp .le 6, 3) := tb_d tk_X7_like_1 12 (22, .if_icmp .le 6, 3) rfl
theorem dX7_like_25 : decode cX7_like 25 = .ok (.ldc 59, 2) := tb_d tk_X7_like_1 13 (25, .ldc 59, 2) rfl
theorem dX7_like_27 : decode cX7_like 27 = .ok (.ireturn, 1) := tb_d tk_X7_like_1 14 (27, .ireturn, 1) rfl
theorem dX7_like_28 : decode cX7_like 28 = .ok (.iload_n 3, 1) := tb_d tk_X7_like_1 15 (28, .iload_n 3, 1) rfl
theorem dX7_like_29 : decode cX7_like 29 = .ok (.ifCond .ne 15, 3) := tb_d tk_X7_like_1 16 (29, .ifCond .ne 15, 3) rfl
theorem dX7_like_32 : decode cX7_like 32 = .ok (.aload_n 0, 1) := tb_d tk_X7_like_1 17 (32, .aload_n 0, 1) rfl
theorem dX7_like_33 : decode cX7_like 33 = .ok (.getfield 25, 3) := tb_d tk_X7_like_1 18 (33, .getfield 25, 3) rfl
theorem dX7_like_36 : decode cX7_like 36 = .ok (.iload_n 1, 1) := tb_d tk_X7_like_1 19 (36, .iload_n 1, 1) rfl
theorem dX7_like_37 : decode cX7_like 37 = .ok (.iload_n 2, 1) := tb_d tk_X7_like_1 20 (37, .iload_n 2, 1) rfl
theorem dX7_like_38 : decode cX7_like 38 = .ok (.invokevirtual 203, 3) := tb_d tk_X7_like_1 21 (38, .invokevirtual 203, 3) rfl
theorem dX7_like_41 : decode cX7_like 41 = .ok (.goto 12, 3) := tb_d tk_X7_like_1 22 (41, .goto 12, 3) rfl
theorem dX7_like_44 : decode cX7_like 44 = .ok (.aload_n 0, 1) := tb_d tk_X7_like_1 23 (44, .aload_n 0, 1) rfl
theorem dX7_like_45 : decode cX7_like 45 = .ok (.getfield 25, 3) := tb_d tk_X7_like_1 24 (45, .getfield 25, 3) rfl
theorem dX7_like_48 : decode cX7_like 48 = .ok (.iload_n 1, 1) := tb_d tk_X7_like_1 25 (48, .iload_n 1, 1) rfl
theorem dX7_like_49 : decode cX7_like 49 = .ok (.iload_n 2, 1) := tb_d tk_X7_like_1 26 (49, .iload_n 2, 1) rfl
theorem dX7_like_50 : decode cX7_like 50 = .ok (.invokevirtual 206, 3) := tb_d tk_X7_like_1 27 (50, .invokevirtual 206, 3) rfl
theorem dX7_like_53 : decode cX7_like 53 = .ok (.ireturn, 1) := tb_d tk_X7_like_1 28 (53, .ireturn, 1) rfl
theorem ggX7_guard_X7_isGuard : GoodIn wsX7_guard wsX7_isGuard := fun w h => ⟨List.mem_cons_of_mem _ (List.mem_append_right _ (List.mem_append_right _ (List.mem_append_right _ (List.mem_append_right _ (List.mem_append_left _ h))))), good_of_word (gdX7_isGuard w h)⟩
set_option maxRecDepth 20000 in
theorem gX7_guard_X7_isGuard : GoodIn wsX7_guard (wsV RX7 187 RX7 yX7_isGuard wsX7_isGuard) := goodIn_app (goodIn_of _ (by decide +kernel)) ggX7_guard_X7_isGuard
theorem ggX7_guard_X2_isThere : GoodIn wsX7_guard wsX2_isThere := fun w h => ⟨List.mem_cons_of_mem _ (List.mem_append_right _ (List.mem_append_right _ (List.mem_append_right _ (List.mem_append_right _ (List.mem_append_right _ (List.mem_append_left _ h)))))), good_of_word (gdX2_isThere w h)⟩
set_option maxRecDepth 20000 in
theorem gX7_guard_X2_isThere : GoodIn wsX7_guard (wsV RX7 172 RX2 yX2_isThere wsX2_isThere) := goodIn_app (goodIn_of _ (by decide +kernel)) ggX7_guard_X2_isThere
theorem ggX7_guard_X7_bit : GoodIn wsX7_guard wsX7_bit := fun w h => ⟨List.mem_cons_of_mem _ (List.mem_append_right _ (List.mem_append_right _ (List.mem_append_right _ (List.mem_append_right _ (List.mem_append_right _ (List.mem_append_right _ (List.mem_append_left _ h))))))), good_of_word (gdX7_bit w h)⟩
set_option maxRecDepth 20000 in
theorem gX7_guard_X7_bit : GoodIn wsX7_guard (va_wsS RX7 180 yX7_bit wsX7_bit) := goodIn_app (goodIn_of _ (by decide +kernel)) ggX7_guard_X7_bit
theorem ggX7_guard_X2_hoursOf : GoodIn wsX7_guard wsX2_hoursOf := fun w h => ⟨List.mem_cons_of_mem _ (List.mem_append_right _ (List.mem_append_right _ (List.mem_append_right _ (List.mem_append_right _ (List.mem_append_right _ (List.mem_append_right _ (List.mem_append_right _ (List.mem_append_left _ h)))))))), good_of_word (gdX2_hoursOf w h)⟩
set_option maxRecDepth 20000 in
theorem gX7_guard_X2_hoursOf : GoodIn wsX7_guard (wsV RX7 215 RX2 yX2_hoursOf wsX2_hoursOf) := goodIn_app (goodIn_of _ (by decide +kernel)) ggX7_guard_X2_hoursOf
def tb_X7_guard_1 : List (Nat × Instr × Nat) := [(0, .aload_n 0, 1), (1, .iload_n 1, 1), (2, .invokevirtual 187, 3), (5, .ifCond .ne 6, 3), (8, .ldc 59, 2), (10, .ireturn, 1), (11, .iload_n 2, 1), (12, .tableswitch 76 0 3 #[32, 42, 55, 67], 32), (44, .aload_n 0, 1), (45, .getfield 25, 3), (48, .getfield 209, 3), (51, .iload_n 1, 1), (52, .iaload, 1), (53, .ireturn, 1), (54, .aload_n 0, 1), (55, .getfield 25, 3), (58, .getfield 137, 3), (61, .getfield 212, 3), (64, .iload_n 1, 1), (65, .iaload, 1), (66, .ireturn, 1), (67, .aload_n 0, 1), (68, .getfield 25, 3), (71, .iload_n 1, 1), (72, .invokevirtual 172, 3), (75, .invokestatic 180, 3), (78, .ireturn, 1), (79, .aload_n 0, 1), (80, .getfield 25, 3), (83, .iload_n 1, 1), (84, .invokevirtual 215, 3), (87, .ireturn, 1), (88, .ldc 59, 2), (90, .ireturn, 1)]
set_option maxRecDepth 100000 in
theorem tk_X7_guard_1 : (tb_X7_guard_1.all fun q => decide (decode cX7_guard q.1 = .ok q.2)) = true := by decide +kernel
theorem dX7_guard_0 : decode cX7_guard 0 = .ok (.aload_n 0, 1) := tb_d tk_X7_guard_1 0 (0, .aload_n 0, 1) rfl
theorem dX7_guard_1 : decode cX7_guard 1 = .ok (.iload_n 1, 1) := tb_d tk_X7_guard_1 1 (1, .iload_n 1, 1) rfl
theorem dX7_guard_2 : decode cX7_guard 2 = .ok (.invokevirtual 187, 3) := tb_d tk_X7_guard_1 2 (2, .invokevirtual 187, 3) rfl
theorem dX7_guard_5 : decode cX7_guard 5 = .ok (.ifCond .ne 6, 3) := tb_d tk_X7_guard_1 3 (5, .ifCond .ne 6, 3) rfl
theorem dX7_guard_8 : decode cX7_guard 8 = .ok (.ldc 59, 2) := tb_d tk_X7_guard_1 4 (8, .ldc 59, 2) rfl
theorem dX7_guard_10 : decode cX7_guard 10 = .ok (.ireturn, 1) := tb_d tk_X7_guard_1 5 (10, .ireturn, 1) rfl
theorem dX7_guard_11 : decode cX7_guard 11 = .ok (.iload_n 2, 1) := tb_d tk_X7_guard_1 6 (11, .iload_n 2, 1) rfl
theorem dX7_guard_12 : decode cX7_guard 12 = .ok (.tableswitch 76 0 3 #[32, 42, 55, 67], 32) := tb_d tk_X7_guard_1 7 (12, .tableswitch 76 0 3 #[32, 42, 55, 67], 32) rfl
theorem dX7_guard_44 : decode cX7_guard 44 = .ok (.aload_n 0, 1) := tb_d tk_X7_guard_1 8 (44, .aload_n 0, 1) rfl
theorem dX7_guard_45 : decode cX7_guard 45 = .ok (.getfield 25, 3) := tb_d tk_X7_guard_1 9 (45, .getfield 25, 3) rfl
theorem dX7_guard_48 : decode cX7_guard 48 = .ok (.getfield 209, 3) := tb_d tk_X7_guard_1 10 (48, .getfield 209, 3) rfl
theorem dX7_guard_51 : decode cX7_guard 51 = .ok (.iload_n 1, 1) := tb_d tk_X7_guard_1 11 (51, .iload_n 1, 1) rfl
theorem dX7_guard_52 : decode cX7_guard 52 = .ok (.iaload, 1) := tb_d tk_X7_guard_1 12 (52, .iaload, 1) rfl
theorem dX7_guard_53 : decode cX7_guard 53 = .ok (.ireturn, 1) := tb_d tk_X7_guard_1 13 (53, .ireturn, 1) rfl
theorem dX7_guard_54 : decode cX7_guard 54 = .ok (.aload_n 0, 1) := tb_d tk_X7_guard_1 14 (54, .aload_n 0, 1) rfl
theorem dX7_guard_55 : decode cX7_guard 55 = .ok (.getfield 25, 3) := tb_d tk_X7_guard_1 15 (55, .getfield 25, 3) rfl
theorem dX7_guard_58 : decode cX7_guard 58 = .ok (.getfield 137, 3) := tb_d tk_X7_guard_1 16 (58, .getfield 137, 3) rfl
theorem dX7_guard_61 : decode cX7_guard 61 = .ok (.getfield 212, 3) := tb_d tk_X7_guard_1 17 (61, .getfield 212, 3) rfl
theorem dX7_guard_64 : decode cX7_guard 64 = .ok (.iload_n 1, 1) := tb_d tk_X7_guard_1 18 (64, .iload_n 1, 1) rfl
theorem dX7_guard_65 : decode cX7_guard 65 = .ok (.iaload, 1) := tb_d tk_X7_guard_1 19 (65, .iaload, 1) rfl
theorem dX7_guard_66 : decode cX7_guard 66 = .ok (.ireturn, 1) := tb_d tk_X7_guard_1 20 (66, .ireturn, 1) rfl
theorem dX7_guard_67 : decode cX7_guard 67 = .ok (.aload_n 0, 1) := tb_d tk_X7_guard_1 21 (67, .aload_n 0, 1) rfl
theorem dX7_guard_68 : decode cX7_guard 68 = .ok (.getfield 25, 3) := tb_d tk_X7_guard_1 22 (68, .getfield 25, 3) rfl
theorem dX7_guard_71 : decode cX7_guard 71 = .ok (.iload_n 1, 1) := tb_d tk_X7_guard_1 23 (71, .iload_n 1, 1) rfl
theorem dX7_guard_72 : decode cX7_guard 72 = .ok (.invokevirtual 172, 3) := tb_d tk_X7_guard_1 24 (72, .invokevirtual 172, 3) rfl
theorem dX7_guard_75 : decode cX7_guard 75 = .ok (.invokestatic 180, 3) := tb_d tk_X7_guard_1 25 (75, .invokestatic 180, 3) rfl
theorem dX7_guard_78 : decode cX7_guard 78 = .ok (.ireturn, 1) := tb_d tk_X7_guard_1 26 (78, .ireturn, 1) rfl
theorem dX7_guard_79 : decode cX7_guard 79 = .ok (.aload_n 0, 1) := tb_d tk_X7_guard_1 27 (79, .aload_n 0, 1) rfl
theorem dX7_guard_80 : decode cX7_guard 80 = .ok (.getfield 25, 3) := tb_d tk_X7_guard_1 28 (80, .getfield 25, 3) rfl
theorem dX7_guard_83 : decode cX7_guard 83 = .ok (.iload_n 1, 1) := tb_d tk_X7_guard_1 29 (83, .iload_n 1, 1) rfl
theorem dX7_guard_84 : decode cX7_guard 84 = .ok (.invokevirtual 215, 3) := tb_d tk_X7_guard_1 30 (84, .invokevirtual 215, 3) rfl
theorem dX7_guard_87 : decode cX7_guard 87 = .ok (.ireturn, 1) := tb_d tk_X7_guard_1 31 (87, .ireturn, 1) rfl
theorem dX7_guard_88 : decode cX7_guard 88 = .ok (.ldc 59, 2) := tb_d tk_X7_guard_1 32 (88, .ldc 59, 2) rfl
theorem dX7_guard_90 : decode cX7_guard 90 = .ok (.ireturn, 1) := tb_d tk_X7_guard_1 33 (90, .ireturn, 1) rfl
def tb_X7_tried_1 : List (Nat × Instr × Nat) := [(0, .iload_n 1, 1), (1, .ifCond .lt 17, 3), (4, .iload_n 1, 1), (5, .aload_n 0, 1), (6, .getfield 25, 3), (9, .getfield 137, 3), (12, .getfield 162, 3), (15, .if_icmp .lt 6, 3), (18, .ldc 59, 2), (20, .ireturn, 1), (21, .iload_n 2, 1), (22, .tableswitch 65 0 2 #[26, 39, 52], 26), (48, .aload_n 0, 1), (49, .getfield 25, 3), (52, .getfield 137, 3), (55, .getfield 218, 3), (58, .iload_n 1, 1), (59, .iaload, 1), (60, .ireturn, 1), (61, .aload_n 0, 1), (62, .getfield 25, 3), (65, .getfield 137, 3), (68, .getfield 221, 3), (71, .iload_n 1, 1), (72, .iaload, 1), (73, .ireturn, 1), (74, .aload_n 0, 1), (75, .getfield 25, 3), (78, .getfield 137, 3), (81, .getfield 224, 3), (84, .iload_n 1, 1), (85, .iaload, 1), (86, .ireturn, 1), (87, .ldc 59, 2), (89, .ireturn, 1)]
set_option maxRecDepth 100000 in
theorem tk_X7_tried_1 : (tb_X7_tried_1.all fun q => decide (decode cX7_tried q.1 = .ok q.2)) = true := by decide +kernel
theorem dX7_tried_0 : decode cX7_tried 0 = .ok (.iload_n 1, 1) := tb_d tk_X7_tried_1 0 (0, .iload_n 1, 1) rfl
theorem dX7_tried_1 : decode cX7_tried 1 = .ok (.ifCond .lt 17, 3) := tb_d tk_X7_tried_1 1 (1, .ifCond .lt 17, 3) rfl
theorem dX7_tried_4 : decode cX7_tried 4 = .ok (.iload_n 1, 1) := tb_d tk_X7_tried_1 2 (4, .iload_n 1, 1) rfl
theorem dX7_tried_5 : decode cX7_tried 5 = .ok (.aload_n 0, 1) := tb_d tk_X7_tried_1 3 (5, .aload_n 0, 1) rfl
theorem dX7_tried_6 : decode cX7_tried 6 = .ok (.getfield 25, 3) := tb_d tk_X7_tried_1 4 (6, .getfield 25, 3) rfl
theorem dX7_tried_9 : decode cX7_tried 9 = .ok (.getfield 137, 3) := tb_d tk_X7_tried_1 5 (9, .getfield 137, 3) rfl
theorem dX7_tried_12 : decode cX7_tried 12 = .ok (.getfield 162, 3) := tb_d tk_X7_tried_1 6 (12, .getfield 162, 3) rfl
theorem dX7_tried_15 : decode cX7_tried 15 = .ok (.if_icmp .lt 6, 3) := tb_d tk_X7_tried_1 7 (15, .if_icmp .lt 6, 3) rfl
theorem dX7_tried_18 : decode cX7_tried 18 = .ok (.ldc 59, 2) := tb_d tk_X7_tried_1 8 (18, .ldc 59, 2) rfl
theorem dX7_tried_20 : decode cX7_tried 20 = .ok (.ireturn, 1) := tb_d tk_X7_tried_1 9 (20, .ireturn, 1) rfl
theorem dX7_tried_21 : decode cX7_tried 21 = .ok (.iload_n 2, 1) := tb_d tk_X7_tried_1 10 (21, .iload_n 2, 1) rfl
theorem dX7_tried_22 : decode cX7_tried 22 = .ok (.tableswitch 65 0 2 #[26, 39, 52], 26) := tb_d tk_X7_tried_1 11 (22, .tableswitch 65 0 2 #[26, 39, 52], 26) rfl
theorem dX7_tried_48 : decode cX7_tried 48 = .ok (.aload_n 0, 1) := tb_d tk_X7_tried_1 12 (48, .aload_n 0, 1) rfl
theorem dX7_tried_49 : decode cX7_tried 49 = .ok (.getfield 25, 3) := tb_d tk_X7_tried_1 13 (49, .getfield 25, 3) rfl
theorem dX7_tried_52 : decode cX7_tried 52 = .ok (.getfield 137, 3) := tb_d tk_X7_tried_1 14 (52, .getfield 137, 3) rfl
theorem dX7_tried_55 : decode cX7_tried 55 = .ok (.getfield 218, 3) := tb_d tk_X7_tried_1 15 (55, .getfield 218, 3) rfl
theorem dX7_tried_58 : decode cX7_tried 58 = .ok (.iload_n 1, 1) := tb_d tk_X7_tried_1 16 (58, .iload_n 1, 1) rfl
theorem dX7_tried_59 : decode cX7_tried 59 = .ok (.iaload, 1) := tb_d tk_X7_tried_1 17 (59, .iaload, 1) rfl
theorem dX7_tried_60 : decode cX7_tried 60 = .ok (.ireturn, 1) := tb_d tk_X7_tried_1 18 (60, .ireturn, 1) rfl
theorem dX7_tried_61 : decode cX7_tried 61 = .ok (.aload_n 0, 1) := tb_d tk_X7_tried_1 19 (61, .aload_n 0, 1) rfl
theorem dX7_tried_62 : decode cX7_tried 62 = .ok (.getfield 25, 3) := tb_d tk_X7_tried_1 20 (62, .getfield 25, 3) rfl
theorem dX7_tried_65 : decode cX7_tried 65 = .ok (.getfield 137, 3) := tb_d tk_X7_tried_1 21 (65, .getfield 137, 3) rfl
theorem dX7_tried_68 : decode cX7_tried 68 = .ok (.getfield 221, 3) := tb_d tk_X7_tried_1 22 (68, .getfield 221, 3) rfl
theorem dX7_tried_71 : decode cX7_tried 71 = .ok (.iload_n 1, 1) := tb_d tk_X7_tried_1 23 (71, .iload_n 1, 1) rfl
theorem dX7_tried_72 : decode cX7_tried 72 = .ok (.iaload, 1) := tb_d tk_X7_tried_1 24 (72, .iaload, 1) rfl
theorem dX7_tried_73 : decode cX7_tried 73 = .ok (.ireturn, 1) := tb_d tk_X7_tried_1 25 (73, .ireturn, 1) rfl
theorem dX7_tried_74 : decode cX7_tried 74 = .ok (.aload_n 0, 1) := tb_d tk_X7_tried_1 26 (74, .aload_n 0, 1) rfl
theorem dX7_tried_75 : decode cX7_tried 75 = .ok (.getfield 25, 3) := tb_d tk_X7_tried_1 27 (75, .getfield 25, 3) rfl
theorem dX7_tried_78 : decode cX7_tried 78 = .ok (.getfield 137, 3) := tb_d tk_X7_tried_1 28 (78, .getfield 137, 3) rfl
theorem dX7_tried_81 : decode cX7_tried 81 = .ok (.getfield 224, 3) := tb_d tk_X7_tried_1 29 (81, .getfield 224, 3) rfl
theorem dX7_tried_84 : decode cX7_tried 84 = .ok (.iload_n 1, 1) := tb_d tk_X7_tried_1 30 (84, .iload_n 1, 1) rfl
theorem dX7_tried_85 : decode cX7_tried 85 = .ok (.iaload, 1) := tb_d tk_X7_tried_1 31 (85, .iaload, 1) rfl
theorem dX7_tried_86 : decode cX7_tried 86 = .ok (.ireturn, 1) := tb_d tk_X7_tried_1 32 (86, .ireturn, 1) rfl
theorem dX7_tried_87 : decode cX7_tried 87 = .ok (.ldc 59, 2) := tb_d tk_X7_tried_1 33 (87, .ldc 59, 2) rfl
theorem dX7_tried_89 : decode cX7_tried 89 = .ok (.ireturn, 1) := tb_d tk_X7_tried_1 34 (89, .ireturn, 1) rfl
theorem ggX7_secret_X7_noGate : GoodIn wsX7_secret wsX7_noGate := fun w h => ⟨List.mem_cons_of_mem _ (List.mem_append_right _ (List.mem_append_right _ (List.mem_append_right _ (List.mem_append_right _ (List.mem_append_left _ h))))), good_of_word (gdX7_noGate w h)⟩
set_option maxRecDepth 20000 in
theorem gX7_secret_X7_noGate : GoodIn wsX7_secret (wsV RX7 133 RX7 yX7_noGate wsX7_noGate) := goodIn_app (goodIn_of _ (by decide +kernel)) ggX7_secret_X7_noGate
theorem ggX7_secret_X7_isAhead : GoodIn wsX7_secret wsX7_isAhead := fun w h => ⟨List.mem_cons_of_mem _ (List.mem_append_right _ (List.mem_append_right _ (List.mem_append_right _ (List.mem_append_right _ (List.mem_append_right _ (List.mem_append_left _ h)))))), good_of_word (gdX7_isAhead w h)⟩
set_option maxRecDepth 20000 in
theorem gX7_secret_X7_isAhead : GoodIn wsX7_secret (wsV RX7 227 RX7 yX7_isAhead wsX7_isAhead) := goodIn_app (goodIn_of _ (by decide +kernel)) ggX7_secret_X7_isAhead
theorem ggX7_secret_X2_secretIn : GoodIn wsX7_secret wsX2_secretIn := fun w h => ⟨List.mem_cons_of_mem _ (List.mem_append_right _ (List.mem_append_right _ (List.mem_append_right _ (List.mem_append_right _ (List.mem_append_right _ (List.mem_append_right _ (List.mem_append_left _ h))))))), good_of_word (gdX2_secretIn w h)⟩
set_option maxRecDepth 20000 in
theorem gX7_secret_X2_secretIn : GoodIn wsX7_secret (wsV RX7 153 RX2 yX2_secretIn wsX2_secretIn) := goodIn_app (goodIn_of _ (by decide +kernel)) ggX7_secret_X2_secretIn
def tb_X7_secret_1 : List (Nat × Instr × Nat) := [(0, .aload_n 0, 1), (1, .invokevirtual 133, 3), (4, .ifCond .eq 6, 3), (7, .ldc 136, 2), (9, .ireturn, 1), (10, .aload_n 0, 1), (11, .iload_n 1, 1), (12, .invokevirtual 227, 3), (15, .ifCond .eq 14, 3), (18, .aload_n 0, 1), (19, .getfield 25, 3), (22, .iload_n 1, 1), (23, .invokevirtual 153, 3), (26, .goto 5, 3), (29, .ldc 59, 2), (31, .ireturn, 1)]
set_option maxRecDepth 100000 in
theorem tk_X7_secret_1 : (tb_X7_secret_1.all fun q => decide (decode cX7_secret q.1 = .ok q.2)) = true := by decide +kernel
theorem dX7_secret_0 : decode cX7_secret 0 = .ok (.aload_n 0, 1) := tb_d tk_X7_secret_1 0 (0, .aload_n 0, 1) rfl
theorem dX7_secret_1 : decode cX7_secret 1 = .ok (.invokevirtual 133, 3) := tb_d tk_X7_secret_1 1 (1, .invokevirtual 133, 3) rfl
theorem dX7_secret_4 : decode cX7_secret 4 = .ok (.ifCond .eq 6, 3) := tb_d tk_X7_secret_1 2 (4, .ifCond .eq 6, 3) rfl
theorem dX7_secret_7 : decode cX7_secret 7 = .ok (.ldc 136, 2) := tb_d tk_X7_secret_1 3 (7, .ldc 136, 2) rfl
theorem dX7_secret_9 : decode cX7_secret 9 = .ok (.ireturn, 1) := tb_d tk_X7_secret_1 4 (9, .ireturn, 1) rfl
theorem dX7_secret_10 : decode cX7_secret 10 = .ok (.aload_n 0, 1) := tb_d tk_X7_secret_1 5 (10, .aload_n 0, 1) rfl
theorem dX7_secret_11 : decode cX7_secret 11 = .ok (.iload_n 1, 1) := tb_d tk_X7_secret_1 6 (11, .iload_n 1, 1) rfl
theorem dX7_secret_12 : decode cX7_secret 12 = .ok (.invokevirtual 227, 3) := tb_d tk_X7_secret_1 7 (12, .invokevirtual 227, 3) rfl
theorem dX7_secret_15 : decode cX7_secret 15 = .ok (.ifCond .eq 14, 3) := tb_d tk_X7_secret_1 8 (15, .ifCond .eq 14, 3) rfl
theorem dX7_secret_18 : decode cX7_secret 18 = .ok (.aload_n 0, 1) := tb_d tk_X7_secret_1 9 (18, .aload_n 0, 1) rfl
theorem dX7_secret_19 : decode cX7_secret 19 = .ok (.getfield 25, 3) := tb_d tk_X7_secret_1 10 (19, .getfield 25, 3) rfl
theorem dX7_secret_22 : decode cX7_secret 22 = .ok (.iload_n 1, 1) := tb_d tk_X7_secret_1 11 (22, .iload_n 1, 1) rfl
theorem dX7_secret_23 : decode cX7_secret 23 = .ok (.invokevirtual 153, 3) := tb_d tk_X7_secret_1 12 (23, .invokevirtual 153, 3) rfl
theorem dX7_secret_26 : decode cX7_secret 26 = .ok (.goto 5, 3) := tb_d tk_X7_secret_1 13 (26, .goto 5, 3) rfl
theorem dX7_secret_29 : decode cX7_secret 29 = .ok (.ldc 59, 2) := tb_d tk_X7_secret_1 14 (29, .ldc 59, 2) rfl
theorem dX7_secret_31 : decode cX7_secret 31 = .ok (.ireturn, 1) := tb_d tk_X7_secret_1 15 (31, .ireturn, 1) rfl
theorem ggX7_taken_X7_isWord : GoodIn wsX7_taken wsX7_isWord := fun w h => ⟨List.mem_cons_of_mem _ (List.mem_append_right _ (List.mem_append_right _ (List.mem_append_right _ (List.mem_append_right _ (List.mem_append_left _ h))))), good_of_word (gdX7_isWord w h)⟩
set_option maxRecDepth 20000 in
theorem gX7_taken_X7_isWord : GoodIn wsX7_taken (wsV RX7 156 RX7 yX7_isWord wsX7_isWord) := goodIn_app (goodIn_of _ (by decide +kernel)) ggX7_taken_X7_isWord
theorem ggX7_taken_X7_isHour : GoodIn wsX7_taken wsX7_isHour := fun w h => ⟨List.mem_cons_of_mem _ (List.mem_append_right _ (List.mem_append_right _ (List.mem_append_right _ (List.mem_append_right _ (List.mem_append_right _ (List.mem_append_left _ h)))))), good_of_word (gdX7_isHour w h)⟩
set_option maxRecDepth 20000 in
theorem gX7_taken_X7_isHour : GoodIn wsX7_taken (wsV RX7 159 RX7 yX7_isHour wsX7_isHour) := goodIn_app (goodIn_of _ (by decide +kernel)) ggX7_taken_X7_isHour
theorem ggX7_taken_X7_isAhead : GoodIn wsX7_taken wsX7_isAhead := fun w h => ⟨List.mem_cons_of_mem _ (List.mem_append_right _ (List.mem_append_right _ (List.mem_append_right _ (List.mem_append_right _ (List.mem_append_right _ (List.mem_append_right _ (List.mem_append_left _ h))))))), good_of_word (gdX7_isAhead w h)⟩
set_option maxRecDepth 20000 in
theorem gX7_taken_X7_isAhead : GoodIn wsX7_taken (wsV RX7 227 RX7 yX7_isAhead wsX7_isAhead) := goodIn_app (goodIn_of _ (by decide +kernel)) ggX7_taken_X7_isAhead
theorem ggX7_taken_X2_catches : GoodIn wsX7_taken wsX2_catches := fun w h => ⟨List.mem_cons_of_mem _ (List.mem_append_right _ (List.mem_append_right _ (List.mem_append_right _ (List.mem_append_right _ (List.mem_append_right _ (List.mem_append_right _ (List.mem_append_right _ (List.mem_append_left _ h)))))))), good_of_word (gdX2_catches w h)⟩
set_option maxRecDepth 20000 in
theorem gX7_taken_X2_catches : GoodIn wsX7_taken (wsV RX7 168 RX2 yX2_catches wsX2_catches) := goodIn_app (goodIn_of _ (by decide +kernel)) ggX7_taken_X2_catches
theorem ggX7_taken_X7_bit : GoodIn wsX7_taken wsX7_bit := fun w h => ⟨List.mem_cons_of_mem _ (List.mem_append_right _ (List.mem_append_right _ (List.mem_append_right _ (List.mem_append_right _ (List.mem_append_right _ (List.mem_append_right _ (List.mem_append_right _ (List.mem_append_right _ (List.mem_append_left _ h))))))))), good_of_word (gdX7_bit w h)⟩
set_option maxRecDepth 20000 in
theorem gX7_taken_X7_bit : GoodIn wsX7_taken (va_wsS RX7 180 yX7_bit wsX7_bit) := goodIn_app (goodIn_of _ (by decide +kernel)) ggX7_taken_X7_bit
def tb_X7_taken_1 : List (Nat × Instr × Nat) := [(0, .aload_n 0, 1), (1, .iload_n 1, 1), (2, .invokevirtual 156, 3), (5, .ifCond .eq 19, 3), (8, .aload_n 0, 1), (9, .iload_n 2, 1), (10, .invokevirtual 159, 3), (13, .ifCond .eq 11, 3), (16, .aload_n 0, 1), (17, .iload_n 3, 1), (18, .invokevirtual 227, 3), (21, .ifCond .ne 6, 3), (24, .ldc 59, 2), (26, .ireturn, 1), (27, .aload_n 0, 1), (28, .getfield 25, 3), (31, .iload_n 1, 1), (32, .iload_n 2, 1), (33, .iload_n 3, 1), (34, .invokevirtual 168, 3), (37, .invokestatic 180, 3), (40, .ireturn, 1)]
set_option maxRecDepth 100000 in
theorem tk_X7_taken_1 : (tb_X7_taken_1.all fun q => decide (decode cX7_taken q.1 = .ok q.2)) = true := by decide +kernel
theorem dX7_taken_0 : decode cX7_taken 0 = .ok (.aload_n 0, 1) := tb_d tk_X7_taken_1 0 (0, .aload_n 0, 1) rfl
theorem dX7_taken_1 : decode cX7_taken 1 = .ok (.iload_n 1, 1) := tb_d tk_X7_taken_1 1 (1, .iload_n 1, 1) rfl
theorem dX7_taken_2 : decode cX7_taken 2 = .ok (.invokevirtual 156, 3) := tb_d tk_X7_taken_1 2 (2, .invokevirtual 156, 3) rfl
theorem dX7_taken_5 : decode cX7_taken 5 = .ok (.ifCond .eq 19, 3) := tb_d tk_X7_taken_1 3 (5, .ifCond .eq 19, 3) rfl
theorem dX7_taken_8 : decode cX7_taken 8 = .ok (.aload_n 0, 1) := tb_d tk_X7_taken_1 4 (8, .aload_n 0, 1) rfl
theorem dX7_taken_9 : decode cX7_taken 9 = .ok (.iload_n 2, 1) := tb_d tk_X7_taken_1 5 (9, .iload_n 2, 1) rfl
theorem dX7_taken_10 : decode cX7_taken 10 = .ok (.invokevirtual 159, 3) := tb_d tk_X7_taken_1 6 (10, .invokevirtual 159, 3) rfl
theorem dX7_taken_13 : decode cX7_taken 13 = .ok (.ifCond .eq 11, 3) := tb_d tk_X7_taken_1 7 (13, .ifCond .eq 11, 3) rfl
theorem dX7_taken_16 : decode cX7_taken 16 = .ok (.aload_n 0, 1) := tb_d tk_X7_taken_1 8 (16, .aload_n 0, 1) rfl
theorem dX7_taken_17 : decode cX7_taken 17 = .ok (.iload_n 3, 1) := tb_d tk_X7_taken_1 9 (17, .iload_n 3, 1) rfl
theorem dX7_taken_18 : decode cX7_taken 18 = .ok (.invokevirtual 227, 3) := tb_d tk_X7_taken_1 10 (18, .invokevirtual 227, 3) rfl
theorem dX7_taken_21 : decode cX7_taken 21 = .ok (.ifCond .ne 6, 3) := tb_d tk_X7_taken_1 11 (21, .ifCond .ne 6, 3) rfl
theorem dX7_taken_24 : decode cX7_taken 24 = .ok (.ldc 59, 2) := tb_d tk_X7_taken_1 12 (24, .ldc 59, 2) rfl
theorem dX7_taken_26 : decode cX7_taken 26 = .ok (.ireturn, 1) := tb_d tk_X7_taken_1 13 (26, .ireturn, 1) rfl
theorem dX7_taken_27 : decode cX7_taken 27 = .ok (.aload_n 0, 1) := tb_d tk_X7_taken_1 14 (27, .aload_n 0, 1) rfl
theorem dX7_taken_28 : decode cX7_taken 28 = .ok (.getfield 25, 3) := tb_d tk_X7_taken_1 15 (28, .getfield 25, 3) rfl
theorem dX7_taken_31 : decode cX7_taken 31 = .ok (.iload_n 1, 1) := tb_d tk_X7_taken_1 16 (31, .iload_n 1, 1) rfl
theorem dX7_taken_32 : decode cX7_taken 32 = .ok (.iload_n 2, 1) := tb_d tk_X7_taken_1 17 (32, .iload_n 2, 1) rfl
theorem dX7_taken_33 : decode cX7_taken 33 = .ok (.iload_n 3, 1) := tb_d tk_X7_taken_1 18 (33, .iload_n 3, 1) rfl
theorem dX7_taken_34 : decode cX7_taken 34 = .ok (.invokevirtual 168, 3) := tb_d tk_X7_taken_1 19 (34, .invokevirtual 168, 3) rfl
theorem dX7_taken_37 : decode cX7_taken 37 = .ok (.invokestatic 180, 3) := tb_d tk_X7_taken_1 20 (37, .invokestatic 180, 3) rfl
theorem dX7_taken_40 : decode cX7_taken 40 = .ok (.ireturn, 1) := tb_d tk_X7_taken_1 21 (40, .ireturn, 1) rfl
theorem ggX7_safe_X7_noGate : GoodIn wsX7_safe wsX7_noGate := fun w h => ⟨List.mem_cons_of_mem _ (List.mem_append_right _ (List.mem_append_right _ (List.mem_append_right _ (List.mem_append_right _ (List.mem_append_left _ h))))), good_of_word (gdX7_noGate w h)⟩
set_option maxRecDepth 20000 in
theorem gX7_safe_X7_noGate : GoodIn wsX7_safe (wsV RX7 133 RX7 yX7_noGate wsX7_noGate) := goodIn_app (goodIn_of _ (by decide +kernel)) ggX7_safe_X7_noGate
theorem ggX7_safe_X7_isHour : GoodIn wsX7_safe wsX7_isHour := fun w h => ⟨List.mem_cons_of_mem _ (List.mem_append_right _ (List.mem_append_right _ (List.mem_append_right _ (List.mem_append_right _ (List.mem_append_right _ (List.mem_append_left _ h)))))), good_of_word (gdX7_isHour w h)⟩
set_option maxRecDepth 20000 in
theorem gX7_safe_X7_isHour : GoodIn wsX7_safe (wsV RX7 159 RX7 yX7_isHour wsX7_isHour) := goodIn_app (goodIn_of _ (by decide +kernel)) ggX7_safe_X7_isHour
theorem ggX7_safe_X7_isAhead : GoodIn wsX7_safe wsX7_isAhead := fun w h => ⟨List.mem_cons_of_mem _ (List.mem_append_right _ (List.mem_append_right _ (List.mem_append_right _ (List.mem_append_right _ (List.mem_append_right _ (List.mem_append_right _ (List.mem_append_left _ h))))))), good_of_word (gdX7_isAhead w h)⟩
set_option maxRecDepth 20000 in
theorem gX7_safe_X7_isAhead : GoodIn wsX7_safe (wsV RX7 227 RX7 yX7_isAhead wsX7_isAhead) := goodIn_app (goodIn_of _ (by decide +kernel)) ggX7_safe_X7_isAhead
theorem ggX7_safe_X2_wordsIn : GoodIn wsX7_safe wsX2_wordsIn := fun w h => ⟨List.mem_cons_of_mem _ (List.mem_append_right _ (List.mem_append_right _ (List.mem_append_right _ (List.mem_append_right _ (List.mem_append_right _ (List.mem_append_right _ (List.mem_append_right _ (List.mem_append_left _ h)))))))), good_of_word (gdX2_wordsIn w h)⟩
set_option maxRecDepth 20000 in
theorem gX7_safe_X2_wordsIn : GoodIn wsX7_safe (wsV RX7 230 RX2 yX2_wordsIn wsX2_wordsIn) := goodIn_app (goodIn_of _ (by decide +kernel)) ggX7_safe_X2_wordsIn
def tb_X7_safe_1 : List (Nat × Instr × Nat) := [(0, .aload_n 0, 1), (1, .invokevirtual 133, 3), (4, .ifCond .eq 6, 3), (7, .ldc 136, 2), (9, .ireturn, 1), (10, .aload_n 0, 1), (11, .iload_n 1, 1), (12, .invokevirtual 159, 3), (15, .ifCond .eq 23, 3), (18, .aload_n 0, 1), (19, .iload_n 2, 1), (20, .invokevirtual 227, 3), (23, .ifCond .eq 15, 3), (26, .aload_n 0, 1), (27, .getfield 25, 3), (30, .iload_n 1, 1), (31, .iload_n 2, 1), (32, .invokevirtual 230, 3), (35, .goto 5, 3), (38, .ldc 59, 2), (40, .ireturn, 1)]
set_option maxRecDepth 100000 in
theorem tk_X7_safe_1 : (tb_X7_safe_1.all fun q => decide (decode cX7_safe q.1 = .ok q.2)) = true := by decide +kernel
theorem dX7_safe_0 : decode cX7_safe 0 = .ok (.aload_n 0, 1) := tb_d tk_X7_safe_1 0 (0, .aload_n 0, 1) rfl
theorem dX7_safe_1 : decode cX7_safe 1 = .ok (.invokevirtual 133, 3) := tb_d tk_X7_safe_1 1 (1, .invokevirtual 133, 3) rfl
theorem dX7_safe_4 : decode cX7_safe 4 = .ok (.ifCond .eq 6, 3) := tb_d tk_X7_safe_1 2 (4, .ifCond .eq 6, 3) rfl
theorem dX7_safe_7 : decode cX7_safe 7 = .ok (.ldc 136, 2) := tb_d tk_X7_safe_1 3 (7, .ldc 136, 2) rfl
theorem dX7_safe_9 : decode cX7_safe 9 = .ok (.ireturn, 1) := tb_d tk_X7_safe_1 4 (9, .ireturn, 1) rfl
theorem dX7_safe_10 : decode cX7_safe 10 = .ok (.aload_n 0, 1) := tb_d tk_X7_safe_1 5 (10, .aload_n 0, 1) rfl
theorem dX7_safe_11 : decode cX7_safe 11 = .ok (.iload_n 1, 1) := tb_d tk_X7_safe_1 6 (11, .iload_n 1, 1) rfl
theorem dX7_safe_12 : decode cX7_safe 12 = .ok (.invokevirtual 159, 3) := tb_d tk_X7_safe_1 7 (12, .invokevirtual 159, 3) rfl
theorem dX7_safe_15 : decode cX7_safe 15 = .ok (.ifCond .eq 23, 3) := tb_d tk_X7_safe_1 8 (15, .ifCond .eq 23, 3) rfl
theorem dX7_safe_18 : decode cX7_safe 18 = .ok (.aload_n 0, 1) := tb_d tk_X7_safe_1 9 (18, .aload_n 0, 1) rfl
theorem dX7_safe_19 : decode cX7_safe 19 = .ok (.iload_n 2, 1) := tb_d tk_X7_safe_1 10 (19, .iload_n 2, 1) rfl
theorem dX7_safe_20 : decode cX7_safe 20 = .ok (.invokevirtual 227, 3) := tb_d tk_X7_safe_1 11 (20, .invokevirtual 227, 3) rfl
theorem dX7_safe_23 : decode cX7_safe 23 = .ok (.ifCond .eq 15, 3) := tb_d tk_X7_safe_1 12 (23, .ifCond .eq 15, 3) rfl
theorem dX7_safe_26 : decode cX7_safe 26 = .ok (.aload_n 0, 1) := tb_d tk_X7_safe_1 13 (26, .aload_n 0, 1) rfl
theorem dX7_safe_27 : decode cX7_safe 27 = .ok (.getfield 25, 3) := tb_d tk_X7_safe_1 14 (27, .getfield 25, 3) rfl
theorem dX7_safe_30 : decode cX7_safe 30 = .ok (.iload_n 1, 1) := tb_d tk_X7_safe_1 15 (30, .iload_n 1, 1) rfl
theorem dX7_safe_31 : decode cX7_safe 31 = .ok (.iload_n 2, 1) := tb_d tk_X7_safe_1 16 (31, .iload_n 2, 1) rfl
theorem dX7_safe_32 : decode cX7_safe 32 = .ok (.invokevirtual 230, 3) := tb_d tk_X7_safe_1 17 (32, .invokevirtual 230, 3) rfl
theorem dX7_safe_35 : decode cX7_safe 35 = .ok (.goto 5, 3) := tb_d tk_X7_safe_1 18 (35, .goto 5, 3) rfl
theorem dX7_safe_38 : decode cX7_safe 38 = .ok (.ldc 59, 2) := tb_d tk_X7_safe_1 19 (38, .ldc 59, 2) rfl
theorem dX7_safe_40 : decode cX7_safe 40 = .ok (.ireturn, 1) := tb_d tk_X7_safe_1 20 (40, .ireturn, 1) rfl
theorem ggX7_open_X7_noGate : GoodIn wsX7_open wsX7_noGate := fun w h => ⟨List.mem_cons_of_mem _ (List.mem_append_right _ (List.mem_append_right _ (List.mem_append_right _ (List.mem_append_right _ (List.mem_append_left _ h))))), good_of_word (gdX7_noGate w h)⟩
set_option maxRecDepth 20000 in
theorem gX7_open_X7_noGate : GoodIn wsX7_open (wsV RX7 133 RX7 yX7_noGate wsX7_noGate) := goodIn_app (goodIn_of _ (by decide +kernel)) ggX7_open_X7_noGate
theorem ggX7_open_X7_areWords : GoodIn wsX7_open wsX7_areWords := fun w h => ⟨List.mem_cons_of_mem _ (List.mem_append_right _ (List.mem_append_right _ (List.mem_append_right _ (List.mem_append_right _ (List.mem_append_right _ (List.mem_append_left _ h)))))), good_of_word (gdX7_areWords w h)⟩
set_option maxRecDepth 20000 in
theorem gX7_open_X7_areWords : GoodIn wsX7_open (wsV RX7 233 RX7 yX7_areWords wsX7_areWords) := goodIn_app (goodIn_of _ (by decide +kernel)) ggX7_open_X7_areWords
theorem ggX7_open_X7_isAhead : GoodIn wsX7_open wsX7_isAhead := fun w h => ⟨List.mem_cons_of_mem _ (List.mem_append_right _ (List.mem_append_right _ (List.mem_append_right _ (List.mem_append_right _ (List.mem_append_right _ (List.mem_append_right _ (List.mem_append_left _ h))))))), good_of_word (gdX7_isAhead w h)⟩
set_option maxRecDepth 20000 in
theorem gX7_open_X7_isAhead : GoodIn wsX7_open (wsV RX7 227 RX7 yX7_isAhead wsX7_isAhead) := goodIn_app (goodIn_of _ (by decide +kernel)) ggX7_open_X7_isAhead
theorem ggX7_open_X2_hoursOpen : GoodIn wsX7_open wsX2_hoursOpen := fun w h => ⟨List.mem_cons_of_mem _ (List.mem_append_right _ (List.mem_append_right _ (List.mem_append_right _ (List.mem_append_right _ (List.mem_append_right _ (List.mem_append_right _ (List.mem_append_right _ (List.mem_append_left _ h)))))))), good_of_word (gdX2_hoursOpen w h)⟩
set_option maxRecDepth 20000 in
theorem gX7_open_X2_hoursOpen : GoodIn wsX7_open (wsV RX7 236 RX2 yX2_hoursOpen wsX2_hoursOpen) := goodIn_app (goodIn_of _ (by decide +kernel)) ggX7_open_X2_hoursOpen
def tb_X7_open_1 : List (Nat × Instr × Nat) := [(0, .aload_n 0, 1), (1, .invokevirtual 133, 3), (4, .ifCond .eq 6, 3), (7, .ldc 136, 2), (9, .ireturn, 1), (10, .aload_n 0, 1), (11, .iload_n 1, 1), (12, .invokevirtual 233, 3), (15, .ifCond .eq 23, 3), (18, .aload_n 0, 1), (19, .iload_n 2, 1), (20, .invokevirtual 227, 3), (23, .ifCond .eq 15, 3), (26, .aload_n 0, 1), (27, .getfield 25, 3), (30, .iload_n 1, 1), (31, .iload_n 2, 1), (32, .invokevirtual 236, 3), (35, .goto 5, 3), (38, .ldc 59, 2), (40, .ireturn, 1)]
set_option maxRecDepth 100000 in
theorem tk_X7_open_1 : (tb_X7_open_1.all fun q => decide (decode cX7_open q.1 = .ok q.2)) = true := by decide +kernel
theorem dX7_open_0 : decode cX7_open 0 = .ok (.aload_n 0, 1) := tb_d tk_X7_open_1 0 (0, .aload_n 0, 1) rfl
theorem dX7_open_1 : decode cX7_open 1 = .ok (.invokevirtual 133, 3) := tb_d tk_X7_open_1 1 (1, .invokevirtual 133, 3) rfl
theorem dX7_open_4 : decode cX7_open 4 = .ok (.ifCond .eq 6, 3) := tb_d tk_X7_open_1 2 (4, .ifCond .eq 6, 3) rfl
theorem dX7_open_7 : decode cX7_open 7 = .ok (.ldc 136, 2) := tb_d tk_X7_open_1 3 (7, .ldc 136, 2) rfl
theorem dX7_open_9 : decode cX7_open 9 = .ok (.ireturn, 1) := tb_d tk_X7_open_1 4 (9, .ireturn, 1) rfl
theorem dX7_open_10 : decode cX7_open 10 = .ok (.aload_n 0, 1) := tb_d tk_X7_open_1 5 (10, .aload_n 0, 1) rfl
theorem dX7_open_11 : decode cX7_open 11 = .ok (.iload_n 1, 1) := tb_d tk_X7_open_1 6 (11, .iload_n 1, 1) rfl
theorem dX7_open_12 : decode cX7_open 12 = .ok (.invokevirtual 233, 3) := tb_d tk_X7_open_1 7 (12, .invokevirtual 233, 3) rfl
theorem dX7_open_15 : decode cX7_open 15 = .ok (.ifCond .eq 23, 3) := tb_d tk_X7_open_1 8 (15, .ifCond .eq 23, 3) rfl
theorem dX7_open_18 : decode cX7_open 18 = .ok (.aload_n 0, 1) := tb_d tk_X7_open_1 9 (18, .aload_n 0, 1) rfl
theorem dX7_open_19 : decode cX7_open 19 = .ok (.iload_n 2, 1) := tb_d tk_X7_open_1 10 (19, .iload_n 2, 1) rfl
theorem dX7_open_20 : decode cX7_open 20 = .ok (.invokevirtual 227, 3) := tb_d tk_X7_open_1 11 (20, .invokevirtual 227, 3) rfl
theorem dX7_open_23 : decode cX7_open 23 = .ok (.ifCond .eq 15, 3) := tb_d tk_X7_open_1 12 (23, .ifCond .eq 15, 3) rfl
theorem dX7_open_26 : decode cX7_open 26 = .ok (.aload_n 0, 1) := tb_d tk_X7_open_1 13 (26, .aload_n 0, 1) rfl
theorem dX7_open_27 : decode cX7_open 27 = .ok (.getfield 25, 3) := tb_d tk_X7_open_1 14 (27, .getfield 25, 3) rfl
theorem dX7_open_30 : decode cX7_open 30 = .ok (.iload_n 1, 1) := tb_d tk_X7_open_1 15 (30, .iload_n 1, 1) rfl
theorem dX7_open_31 : decode cX7_open 31 = .ok (.iload_n 2, 1) := tb_d tk_X7_open_1 16 (31, .iload_n 2, 1) rfl
theorem dX7_open_32 : decode cX7_open 32 = .ok (.invokevirtual 236, 3) := tb_d tk_X7_open_1 17 (32, .invokevirtual 236, 3) rfl
theorem dX7_open_35 : decode cX7_open 35 = .ok (.goto 5, 3) := tb_d tk_X7_open_1 18 (35, .goto 5, 3) rfl
theorem dX7_open_38 : decode cX7_open 38 = .ok (.ldc 59, 2) := tb_d tk_X7_open_1 19 (38, .ldc 59, 2) rfl
theorem dX7_open_40 : decode cX7_open 40 = .ok (.ireturn, 1) := tb_d tk_X7_open_1 20 (40, .ireturn, 1) rfl
theorem ggX7_next_X7_isWord : GoodIn wsX7_next wsX7_isWord := fun w h => ⟨List.mem_cons_of_mem _ (List.mem_append_right _ (List.mem_append_right _ (List.mem_append_right _ (List.mem_append_right _ (List.mem_append_left _ h))))), good_of_word (gdX7_isWord w h)⟩
set_option maxRecDepth 20000 in
theorem gX7_next_X7_isWord : GoodIn wsX7_next (wsV RX7 156 RX7 yX7_isWord wsX7_isWord) := goodIn_app (goodIn_of _ (by decide +kernel)) ggX7_next_X7_isWord
theorem ggX7_next_X2_nightsUntil : GoodIn wsX7_next wsX2_nightsUntil := fun w h => ⟨List.mem_cons_of_mem _ (List.mem_append_right _ (List.mem_append_right _ (List.mem_append_right _ (List.mem_append_right _ (List.mem_append_right _ (List.mem_append_left _ h)))))), good_of_word (gdX2_nightsUntil w h)⟩
set_option maxRecDepth 20000 in
theorem gX7_next_X2_nightsUntil : GoodIn wsX7_next (wsV RX7 239 RX2 yX2_nightsUntil wsX2_nightsUntil) := goodIn_app (goodIn_of _ (by decide +kernel)) ggX7_next_X2_nightsUntil
def tb_X7_next_1 : List (Nat × Instr × Nat) := [(0, .aload_n 0, 1), (1, .iload_n 1, 1), (2, .invokevirtual 156, 3), (5, .ifCond .eq 14, 3), (8, .aload_n 0, 1), (9, .getfield 25, 3), (12, .iload_n 1, 1), (13, .invokevirtual 239, 3), (16, .goto 5, 3), (19, .ldc 59, 2), (21, .ireturn, 1)]
set_option maxRecDepth 100000 in
theorem tk_X7_next_1 : (tb_X7_next_1.all fun q => decide (decode cX7_next q.1 = .ok q.2)) = true := by decide +kernel
theorem dX7_next_0 : decode cX7_next 0 = .ok (.aload_n 0, 1) := tb_d tk_X7_next_1 0 (0, .aload_n 0, 1) rfl
theorem dX7_next_1 : decode cX7_next 1 = .ok (.iload_n 1, 1) := tb_d tk_X7_next_1 1 (1, .iload_n 1, 1) rfl
theorem dX7_next_2 : decode cX7_next 2 = .ok (.invokevirtual 156, 3) := tb_d tk_X7_next_1 2 (2, .invokevirtual 156, 3) rfl
theorem dX7_next_5 : decode cX7_next 5 = .ok (.ifCond .eq 14, 3) := tb_d tk_X7_next_1 3 (5, .ifCond .eq 14, 3) rfl
theorem dX7_next_8 : decode cX7_next 8 = .ok (.aload_n 0, 1) := tb_d tk_X7_next_1 4 (8, .aload_n 0, 1) rfl
theorem dX7_next_9 : decode cX7_next 9 = .ok (.getfield 25, 3) := tb_d tk_X7_next_1 5 (9, .getfield 25, 3) rfl
theorem dX7_next_12 : decode cX7_next 12 = .ok (.iload_n 1, 1) := tb_d tk_X7_next_1 6 (12, .iload_n 1, 1) rfl
theorem dX7_next_13 : decode cX7_next 13 = .ok (.invokevirtual 239, 3) := tb_d tk_X7_next_1 7 (13, .invokevirtual 239, 3) rfl
theorem dX7_next_16 : decode cX7_next 16 = .ok (.goto 5, 3) := tb_d tk_X7_next_1 8 (16, .goto 5, 3) rfl
theorem dX7_next_19 : decode cX7_next 19 = .ok (.ldc 59, 2) := tb_d tk_X7_next_1 9 (19, .ldc 59, 2) rfl
theorem dX7_next_21 : decode cX7_next 21 = .ok (.ireturn, 1) := tb_d tk_X7_next_1 10 (21, .ireturn, 1) rfl
theorem ggX7_agree_X7_noGate : GoodIn wsX7_agree wsX7_noGate := fun w h => ⟨List.mem_cons_of_mem _ (List.mem_append_right _ (List.mem_append_right _ (List.mem_append_right _ (List.mem_append_right _ (List.mem_append_left _ h))))), good_of_word (gdX7_noGate w h)⟩
set_option maxRecDepth 20000 in
theorem gX7_agree_X7_noGate : GoodIn wsX7_agree (wsV RX7 133 RX7 yX7_noGate wsX7_noGate) := goodIn_app (goodIn_of _ (by decide +kernel)) ggX7_agree_X7_noGate
theorem ggX7_agree_X3_agreeing : GoodIn wsX7_agree wsX3_agreeing := fun w h => ⟨List.mem_cons_of_mem _ (List.mem_append_right _ (List.mem_append_right _ (List.mem_append_right _ (List.mem_append_right _ (List.mem_append_right _ (List.mem_append_left _ h)))))), good_of_word (gdX3_agreeing w h)⟩
set_option maxRecDepth 20000 in
theorem gX7_agree_X3_agreeing : GoodIn wsX7_agree (va_wsS RX7 242 yX3_agreeing wsX3_agreeing) := goodIn_app (goodIn_of _ (by decide +kernel)) ggX7_agree_X3_agreeing
def tb_X7_agree_1 : List (Nat × Instr × Nat) := [(0, .aload_n 0, 1), (1, .invokevirtual 133, 3), (4, .ifCond .eq 8, 3), (7, .ldc 136, 2), (9, .goto 10, 3), (12, .aload_n 0, 1), (13, .getfield 25, 3), (16, .invokestatic 242, 3), (19, .ireturn, 1)]
set_option maxRecDepth 100000 in
theorem tk_X7_agree_1 : (tb_X7_agree_1.all fun q => decide (decode cX7_agree q.1 = .ok q.2)) = true := by decide +kernel
theorem dX7_agree_0 : decode cX7_agree 0 = .ok (.aload_n 0, 1) := tb_d tk_X7_agree_1 0 (0, .aload_n 0, 1) rfl
theorem dX7_agree_1 : decode cX7_agree 1 = .ok (.invokevirtual 133, 3) := tb_d tk_X7_agree_1 1 (1, .invokevirtual 133, 3) rfl
theorem dX7_agree_4 : decode cX7_agree 4 = .ok (.ifCond .eq 8, 3) := tb_d tk_X7_agree_1 2 (4, .ifCond .eq 8, 3) rfl
theorem dX7_agree_7 : decode cX7_agree 7 = .ok (.ldc 136, 2) := tb_d tk_X7_agree_1 3 (7, .ldc 136, 2) rfl
theorem dX7_agree_9 : decode cX7_agree 9 = .ok (.goto 10, 3) := tb_d tk_X7_agree_1 4 (9, .goto 10, 3) rfl
theorem dX7_agree_12 : decode cX7_agree 12 = .ok (.aload_n 0, 1) := tb_d tk_X7_agree_1 5 (12, .aload_n 0, 1) rfl
theorem dX7_agree_13 : decode cX7_agree 13 = .ok (.getfield 25, 3) := tb_d tk_X7_agree_1 6 (13, .getfield 25, 3) rfl
theorem dX7_agree_16 : decode cX7_agree 16 = .ok (.invokestatic 242, 3) := tb_d tk_X7_agree_1 7 (16, .invokestatic 242, 3) rfl
theorem dX7_agree_19 : decode cX7_agree 19 = .ok (.ireturn, 1) := tb_d tk_X7_agree_1 8 (19, .ireturn, 1) rfl
theorem ggX7_man_X7_noGate : GoodIn wsX7_man wsX7_noGate := fun w h => ⟨List.mem_cons_of_mem _ (List.mem_append_right _ (List.mem_append_right _ (List.mem_append_right _ (List.mem_append_right _ (List.mem_append_left _ h))))), good_of_word (gdX7_noGate w h)⟩
set_option maxRecDepth 20000 in
theorem gX7_man_X7_noGate : GoodIn wsX7_man (wsV RX7 133 RX7 yX7_noGate wsX7_noGate) := goodIn_app (goodIn_of _ (by decide +kernel)) ggX7_man_X7_noGate
theorem ggX7_man_X3_agreeing : GoodIn wsX7_man wsX3_agreeing := fun w h => ⟨List.mem_cons_of_mem _ (List.mem_append_right _ (List.mem_append_right _ (List.mem_append_right _ (List.mem_append_right _ (List.mem_append_right _ (List.mem_append_left _ h)))))), good_of_word (gdX3_agreeing w h)⟩
set_option maxRecDepth 20000 in
theorem gX7_man_X3_agreeing : GoodIn wsX7_man (va_wsS RX7 242 yX3_agreeing wsX3_agreeing) := goodIn_app (goodIn_of _ (by decide +kernel)) ggX7_man_X3_agreeing
theorem ggX7_man_X3_bestTry : GoodIn wsX7_man wsX3_bestTry := fun w h => ⟨List.mem_cons_of_mem _ (List.mem_append_right _ (List.mem_append_right _ (List.mem_append_right _ (List.mem_append_right _ (List.mem_append_right _ (List.mem_append_right _ (List.mem_append_left _ h))))))), good_of_word (gdX3_bestTry w h)⟩
set_option maxRecDepth 20000 in
theorem gX7_man_X3_bestTry : GoodIn wsX7_man (va_wsS RX7 246 yX3_bestTry wsX3_bestTry) := goodIn_app (goodIn_of _ (by decide +kernel)) ggX7_man_X3_bestTry
theorem ggX7_man_X3_leftAtWorst : GoodIn wsX7_man wsX3_leftAtWorst := fun w h => ⟨List.mem_cons_of_mem _ (List.mem_append_right _ (List.mem_append_right _ (List.mem_append_right _ (List.mem_append_right _ (List.mem_append_right _ (List.mem_append_right _ (List.mem_append_right _ (List.mem_append_left _ h)))))))), good_of_word (gdX3_leftAtWorst w h)⟩
set_option maxRecDepth 20000 in
theorem gX7_man_X3_leftAtWorst : GoodIn wsX7_man (va_wsS RX7 250 yX3_leftAtWorst wsX3_leftAtWorst) := goodIn_app (goodIn_of _ (by decide +kernel)) ggX7_man_X3_leftAtWorst
def tb_X7_man_1 : List (Nat × Instr × Nat) := [(0, .aload_n 0, 1), (1, .invokevirtual 133, 3), (4, .ifCond .eq 6, 3), (7, .ldc 136, 2), (9, .ireturn, 1), (10, .iload_n 1, 1), (11, .ifCond .lt 8, 3), (14, .iload_n 1, 1), (15, .iconst 2, 1), (16, .if_icmp .le 6, 3), (19, .ldc 59, 2), (21, .ireturn, 1), (22, .aload_n 0, 1), (23, .getfield 25, 3), (26, .invokestatic 242, 3), (29, .istore_n 2, 1), (30, .aload_n 0, 1), (31, .getfield 25, 3), (34, .iload_n 2, 1), (35, .invokestatic 246, 3), (38, .istore_n 3, 1), (39, .iload_n 1, 1), (40, .iconst 2, 1), (41, .if_icmp .ne 13, 3), (44, .aload_n 0, 1), (45, .getfield 25, 3), (48, .iload_n 3, 1), (49, .iload_n 2, 1), (50, .invokestatic 250, 3), (53, .ireturn, 1), (54, .iload_n 1, 1), (55, .ifCond .ne 10, 3), (58, .iload_n 3, 1), (59, .bipush 6, 2), (61, .idiv, 1), (62, .goto 7, 3), (65, .iload_n 3, 1), (66, .bipush 6, 2), (68, .irem, 1), (69, .ireturn, 1)]
set_option maxRecDepth 100000 in
theorem tk_X7_man_1 : (tb_X7_man_1.all fun q => decide (decode cX7_man q.1 = .ok q.2)) = true := by decide +kernel
theorem dX7_man_0 : decode cX7_man 0 = .ok (.aload_n 0, 1) := tb_d tk_X7_man_1 0 (0, .aload_n 0, 1) rfl
theorem dX7_man_1 : decode cX7_man 1 = .ok (.invokevirtual 133, 3) := tb_d tk_X7_man_1 1 (1, .invokevirtual 133, 3) rfl
theorem dX7_man_4 : decode cX7_man 4 = .ok (.ifCond .eq 6, 3) := tb_d tk_X7_man_1 2 (4, .ifCond .eq 6, 3) rfl
theorem dX7_man_7 : decode cX7_man 7 = .ok (.ldc 136, 2) := tb_d tk_X7_man_1 3 (7, .ldc 136, 2) rfl
theorem dX7_man_9 : decode cX7_man 9 = .ok (.ireturn, 1) := tb_d tk_X7_man_1 4 (9, .ireturn, 1) rfl
theorem dX7_man_10 : decode cX7_man 10 = .ok (.iload_n 1, 1) := tb_d tk_X7_man_1 5 (10, .iload_n 1, 1) rfl
theorem dX7_man_11 : decode cX7_man 11 = .ok (.ifCond .lt 8, 3) := tb_d tk_X7_man_1 6 (11, .ifCond .lt 8, 3) rfl
theorem dX7_man_14 : decode cX7_man 14 = .ok (.iload_n 1, 1) := tb_d tk_X7_man_1 7 (14, .iload_n 1, 1) rfl
theorem dX7_man_15 : decode cX7_man 15 = .ok (.iconst 2, 1) := tb_d tk_X7_man_1 8 (15, .iconst 2, 1) rfl
theorem dX7_man_16 : decode cX7_man 16 = .ok (.if_icmp .le 6, 3) := tb_d tk_X7_man_1 9 (16, .if_icmp .le 6, 3) rfl
theorem dX7_man_19 : decode cX7_man 19 = .ok (.ldc 59, 2) := tb_d tk_X7_man_1 10 (19, .ldc 59, 2) rfl
theorem dX7_man_21 : decode cX7_man 21 = .ok (.ireturn, 1) := tb_d tk_X7_man_1 11 (21, .ireturn, 1) rfl
theorem dX7_man_22 : decode cX7_man 22 = .ok (.aload_n 0, 1) := tb_d tk_X7_man_1 12 (22, .aload_n 0, 1) rfl
theorem dX7_man_23 : decode cX7_man 23 = .ok (.getfield 25, 3) := tb_d tk_X7_man_1 13 (23, .getfield 25, 3) rfl
theorem dX7_man_26 : decode cX7_man 26 = .ok (.invokestatic 242, 3) := tb_d tk_X7_man_1 14 (26, .invokestatic 242, 3) rfl
theorem dX7_man_29 : decode cX7_man 29 = .ok (.istore_n 2, 1) := tb_d tk_X7_man_1 15 (29, .istore_n 2, 1) rfl
theorem dX7_man_30 : decode cX7_man 30 = .ok (.aload_n 0, 1) := tb_d tk_X7_man_1 16 (30, .aload_n 0, 1) rfl
theorem dX7_man_31 : decode cX7_man 31 = .ok (.getfield 25, 3) := tb_d tk_X7_man_1 17 (31, .getfield 25, 3) rfl
theorem dX7_man_34 : decode cX7_man 34 = .ok (.iload_n 2, 1) := tb_d tk_X7_man_1 18 (34, .iload_n 2, 1) rfl
theorem dX7_man_35 : decode cX7_man 35 = .ok (.invokestatic 246, 3) := tb_d tk_X7_man_1 19 (35, .invokestatic 246, 3) rfl
theorem dX7_man_38 : decode cX7_man 38 = .ok (.istore_n 3, 1) := tb_d tk_X7_man_1 20 (38, .istore_n 3, 1) rfl
theorem dX7_man_39 : decode cX7_man 39 = .ok (.iload_n 1, 1) := tb_d tk_X7_man_1 21 (39, .iload_n 1, 1) rfl
