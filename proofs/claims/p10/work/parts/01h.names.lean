theorem dX8_readsGuard_130 : decode cX8_readsGuard 130 = .ok (.iconst 1, 1) := tb_d tk_X8_readsGuard_3 3 (130, .iconst 1, 1) rfl
theorem dX8_readsGuard_131 : decode cX8_readsGuard 131 = .ok (.iadd, 1) := tb_d tk_X8_readsGuard_3 4 (131, .iadd, 1) rfl
theorem dX8_readsGuard_132 : decode cX8_readsGuard 132 = .ok (.iastore, 1) := tb_d tk_X8_readsGuard_3 5 (132, .iastore, 1) rfl
theorem dX8_readsGuard_133 : decode cX8_readsGuard 133 = .ok (.return_, 1) := tb_d tk_X8_readsGuard_3 6 (133, .return_, 1) rfl
theorem ggX8_must_X8_isWell : GoodIn wsX8_must wsX8_isWell := fun w h => ⟨List.mem_cons_of_mem _ (List.mem_append_right _ (List.mem_append_right _ (List.mem_append_left _ h))), good_of_word (gdX8_isWell w h)⟩
set_option maxRecDepth 20000 in
theorem gX8_must_X8_isWell : GoodIn wsX8_must (wsV RX8 104 RX8 yX8_isWell wsX8_isWell) := goodIn_app (goodIn_of _ (by decide +kernel)) ggX8_must_X8_isWell
theorem ggX8_must_X8_takes : GoodIn wsX8_must wsX8_takes := fun w h => ⟨List.mem_cons_of_mem _ (List.mem_append_right _ (List.mem_append_right _ (List.mem_append_right _ (List.mem_append_left _ h)))), good_of_word (gdX8_takes w h)⟩
set_option maxRecDepth 20000 in
theorem gX8_must_X8_takes : GoodIn wsX8_must (wsV RX8 114 RX8 yX8_takes wsX8_takes) := goodIn_app (goodIn_of _ (by decide +kernel)) ggX8_must_X8_takes
def tb_X8_must_1 : List (Nat × Instr × Nat) := [(0, .aload_n 0, 1), (1, .invokevirtual 104, 3), (4, .ifCond .eq 14, 3), (7, .iload_n 1, 1), (8, .ifCond .ne 10, 3), (11, .aload_n 0, 1), (12, .iconst 0, 1), (13, .iconst 1, 1), (14, .invokevirtual 114, 3), (17, .pop, 1), (18, .return_, 1)]
set_option maxRecDepth 100000 in
theorem tk_X8_must_1 : (tb_X8_must_1.all fun q => decide (decode cX8_must q.1 = .ok q.2)) = true := by decide +kernel
theorem dX8_must_0 : decode cX8_must 0 = .ok (.aload_n 0, 1) := tb_d tk_X8_must_1 0 (0, .aload_n 0, 1) rfl
theorem dX8_must_1 : decode cX8_must 1 = .ok (.invokevirtual 104, 3) := tb_d tk_X8_must_1 1 (1, .invokevirtual 104, 3) rfl
theorem dX8_must_4 : decode cX8_must 4 = .ok (.ifCond .eq 14, 3) := tb_d tk_X8_must_1 2 (4, .ifCond .eq 14, 3) rfl
theorem dX8_must_7 : decode cX8_must 7 = .ok (.iload_n 1, 1) := tb_d tk_X8_must_1 3 (7, .iload_n 1, 1) rfl
theorem dX8_must_8 : decode cX8_must 8 = .ok (.ifCond .ne 10, 3) := tb_d tk_X8_must_1 4 (8, .ifCond .ne 10, 3) rfl
theorem dX8_must_11 : decode cX8_must 11 = .ok (.aload_n 0, 1) := tb_d tk_X8_must_1 5 (11, .aload_n 0, 1) rfl
theorem dX8_must_12 : decode cX8_must 12 = .ok (.iconst 0, 1) := tb_d tk_X8_must_1 6 (12, .iconst 0, 1) rfl
theorem dX8_must_13 : decode cX8_must 13 = .ok (.iconst 1, 1) := tb_d tk_X8_must_1 7 (13, .iconst 1, 1) rfl
theorem dX8_must_14 : decode cX8_must 14 = .ok (.invokevirtual 114, 3) := tb_d tk_X8_must_1 8 (14, .invokevirtual 114, 3) rfl
theorem dX8_must_17 : decode cX8_must 17 = .ok (.pop, 1) := tb_d tk_X8_must_1 9 (17, .pop, 1) rfl
theorem dX8_must_18 : decode cX8_must 18 = .ok (.return_, 1) := tb_d tk_X8_must_1 10 (18, .return_, 1) rfl
theorem ggX8_gate_X8_advances : GoodIn wsX8_gate wsX8_advances := fun w h => ⟨List.mem_cons_of_mem _ (List.mem_append_right _ (List.mem_append_right _ (List.mem_append_left _ h))), good_of_word (gdX8_advances w h)⟩
set_option maxRecDepth 20000 in
theorem gX8_gate_X8_advances : GoodIn wsX8_gate (wsV RX8 111 RX8 yX8_advances wsX8_advances) := goodIn_app (goodIn_of _ (by decide +kernel)) ggX8_gate_X8_advances
theorem ggX8_gate_X8_takes : GoodIn wsX8_gate wsX8_takes := fun w h => ⟨List.mem_cons_of_mem _ (List.mem_append_right _ (List.mem_append_right _ (List.mem_append_right _ (List.mem_append_left _ h)))), good_of_word (gdX8_takes w h)⟩
set_option maxRecDepth 20000 in
theorem gX8_gate_X8_takes : GoodIn wsX8_gate (wsV RX8 114 RX8 yX8_takes wsX8_takes) := goodIn_app (goodIn_of _ (by decide +kernel)) ggX8_gate_X8_takes
theorem ggX8_gate_X8_figure : GoodIn wsX8_gate wsX8_figure := fun w h => ⟨List.mem_cons_of_mem _ (List.mem_append_right _ (List.mem_append_right _ (List.mem_append_right _ (List.mem_append_right _ (List.mem_append_left _ h))))), good_of_word (gdX8_figure w h)⟩
set_option maxRecDepth 20000 in
theorem gX8_gate_X8_figure : GoodIn wsX8_gate (wsV RX8 118 RX8 yX8_figure wsX8_figure) := goodIn_app (goodIn_of _ (by decide +kernel)) ggX8_gate_X8_figure
theorem ggX8_gate_X8_follows : GoodIn wsX8_gate wsX8_follows := fun w h => ⟨List.mem_cons_of_mem _ (List.mem_append_right _ (List.mem_append_right _ (List.mem_append_right _ (List.mem_append_right _ (List.mem_append_right _ (List.mem_append_left _ h)))))), good_of_word (gdX8_follows w h)⟩
set_option maxRecDepth 20000 in
theorem gX8_gate_X8_follows : GoodIn wsX8_gate (wsV RX8 131 RX8 yX8_follows wsX8_follows) := goodIn_app (goodIn_of _ (by decide +kernel)) ggX8_gate_X8_follows
theorem ggX8_gate_X8_must : GoodIn wsX8_gate wsX8_must := fun w h => ⟨List.mem_cons_of_mem _ (List.mem_append_right _ (List.mem_append_right _ (List.mem_append_right _ (List.mem_append_right _ (List.mem_append_right _ (List.mem_append_right _ (List.mem_append_left _ h))))))), good_of_word (gdX8_must w h)⟩
set_option maxRecDepth 20000 in
theorem gX8_gate_X8_must : GoodIn wsX8_gate (wsV RX8 134 RX8 yX8_must wsX8_must) := goodIn_app (goodIn_of _ (by decide +kernel)) ggX8_gate_X8_must
theorem ggX8_gate_X8_isWell : GoodIn wsX8_gate wsX8_isWell := fun w h => ⟨List.mem_cons_of_mem _ (List.mem_append_right _ (List.mem_append_right _ (List.mem_append_right _ (List.mem_append_right _ (List.mem_append_right _ (List.mem_append_right _ (List.mem_append_right _ (List.mem_append_left _ h)))))))), good_of_word (gdX8_isWell w h)⟩
set_option maxRecDepth 20000 in
theorem gX8_gate_X8_isWell : GoodIn wsX8_gate (wsV RX8 104 RX8 yX8_isWell wsX8_isWell) := goodIn_app (goodIn_of _ (by decide +kernel)) ggX8_gate_X8_isWell
theorem ggX8_gate_X8_readsWord : GoodIn wsX8_gate wsX8_readsWord := fun w h => ⟨List.mem_cons_of_mem _ (List.mem_append_right _ (List.mem_append_right _ (List.mem_append_right _ (List.mem_append_right _ (List.mem_append_right _ (List.mem_append_right _ (List.mem_append_right _ (List.mem_append_right _ (List.mem_append_left _ h))))))))), good_of_word (gdX8_readsWord w h)⟩
set_option maxRecDepth 20000 in
theorem gX8_gate_X8_readsWord : GoodIn wsX8_gate (wsV RX8 138 RX8 yX8_readsWord wsX8_readsWord) := goodIn_app (goodIn_of _ (by decide +kernel)) ggX8_gate_X8_readsWord
theorem ggX8_gate_X8_kindOf : GoodIn wsX8_gate wsX8_kindOf := fun w h => ⟨List.mem_cons_of_mem _ (List.mem_append_right _ (List.mem_append_right _ (List.mem_append_right _ (List.mem_append_right _ (List.mem_append_right _ (List.mem_append_right _ (List.mem_append_right _ (List.mem_append_right _ (List.mem_append_right _ (List.mem_append_left _ h)))))))))), good_of_word (gdX8_kindOf w h)⟩
set_option maxRecDepth 20000 in
theorem gX8_gate_X8_kindOf : GoodIn wsX8_gate (va_wsS RX8 128 yX8_kindOf wsX8_kindOf) := goodIn_app (goodIn_of _ (by decide +kernel)) ggX8_gate_X8_kindOf
theorem ggX8_gate_X8_readsGuard : GoodIn wsX8_gate wsX8_readsGuard := fun w h => ⟨List.mem_cons_of_mem _ (List.mem_append_right _ (List.mem_append_right _ (List.mem_append_right _ (List.mem_append_right _ (List.mem_append_right _ (List.mem_append_right _ (List.mem_append_right _ (List.mem_append_right _ (List.mem_append_right _ (List.mem_append_right _ (List.mem_append_left _ h))))))))))), good_of_word (gdX8_readsGuard w h)⟩
set_option maxRecDepth 20000 in
theorem gX8_gate_X8_readsGuard : GoodIn wsX8_gate (wsV RX8 141 RX8 yX8_readsGuard wsX8_readsGuard) := goodIn_app (goodIn_of _ (by decide +kernel)) ggX8_gate_X8_readsGuard
theorem ggX8_gate_X8_copies : GoodIn wsX8_gate wsX8_copies := fun w h => ⟨List.mem_cons_of_mem _ (List.mem_append_right _ (List.mem_append_right _ (List.mem_append_right _ (List.mem_append_right _ (List.mem_append_right _ (List.mem_append_right _ (List.mem_append_right _ (List.mem_append_right _ (List.mem_append_right _ (List.mem_append_right _ (List.mem_append_right _ (List.mem_append_left _ h)))))))))))), good_of_word (gdX8_copies w h)⟩
set_option maxRecDepth 20000 in
theorem gX8_gate_X8_copies : GoodIn wsX8_gate (va_wsS RX8 145 yX8_copies wsX8_copies) := goodIn_app (goodIn_of _ (by decide +kernel)) ggX8_gate_X8_copies
def tb_X8_gate_1 : List (Nat × Instr × Nat) := [(0, .iconst 0, 1), (1, .istore_n 1, 1), (2, .iload_n 1, 1), (3, .bipush 65, 2), (5, .if_icmp .ge 16, 3), (8, .aload_n 0, 1), (9, .getfield 28, 3), (12, .iload_n 1, 1), (13, .iconst 0, 1), (14, .iastore, 1), (15, .iinc 1 1, 3), (18, .goto (-16), 3), (21, .aload_n 0, 1), (22, .iconst 0, 1), (23, .putfield 86, 3), (26, .aload_n 0, 1), (27, .iconst (-1), 1), (28, .putfield 101, 3), (31, .aload_n 0, 1), (32, .invokevirtual 111, 3), (35, .aload_n 0, 1), (36, .aload_n 0, 1), (37, .getfield 98, 3), (40, .iconst 1, 1), (41, .if_icmp .ne 16, 3), (44, .aload_n 0, 1), (45, .getfield 95, 3), (48, .bipush 113, 2), (50, .if_icmp .ne 7, 3), (53, .iconst 1, 1), (54, .goto 4, 3), (57, .iconst 0, 1), (58, .iconst 1, 1), (59, .invokevirtual 114, 3), (62, .pop, 1), (63, .aload_n 0, 1), (64, .getfield 28, 3), (67, .iconst 0, 1), (68, .aload_n 0, 1), (69, .iconst 0, 1)]
set_option maxRecDepth 100000 in
theorem tk_X8_gate_1 : (tb_X8_gate_1.all fun q => decide (decode cX8_gate q.1 = .ok q.2)) = true := by decide +kernel
theorem dX8_gate_0 : decode cX8_gate 0 = .ok (.iconst 0, 1) := tb_d tk_X8_gate_1 0 (0, .iconst 0, 1) rfl
theorem dX8_gate_1 : decode cX8_gate 1 = .ok (.istore_n 1, 1) := tb_d tk_X8_gate_1 1 (1, .istore_n 1, 1) rfl
theorem dX8_gate_2 : decode cX8_gate 2 = .ok (.iload_n 1, 1) := tb_d tk_X8_gate_1 2 (2, .iload_n 1, 1) rfl
theorem dX8_gate_3 : decode cX8_gate 3 = .ok (.bipush 65, 2) := tb_d tk_X8_gate_1 3 (3, .bipush 65, 2) rfl
theorem dX8_gate_5 : decode cX8_gate 5 = .ok (.if_icmp .ge 16, 3) := tb_d tk_X8_gate_1 4 (5, .if_icmp .ge 16, 3) rfl
theorem dX8_gate_8 : decode cX8_gate 8 = .ok (.aload_n 0, 1) := tb_d tk_X8_gate_1 5 (8, .aload_n 0, 1) rfl
theorem dX8_gate_9 : decode cX8_gate 9 = .ok (.getfield 28, 3) := tb_d tk_X8_gate_1 6 (9, .getfield 28, 3) rfl
theorem dX8_gate_12 : decode cX8_gate 12 = .ok (.iload_n 1, 1) := tb_d tk_X8_gate_1 7 (12, .iload_n 1, 1) rfl
theorem dX8_gate_13 : decode cX8_gate 13 = .ok (.iconst 0, 1) := tb_d tk_X8_gate_1 8 (13, .iconst 0, 1) rfl
theorem dX8_gate_14 : decode cX8_gate 14 = .ok (.iastore, 1) := tb_d tk_X8_gate_1 9 (14, .iastore, 1) rfl
theorem dX8_gate_15 : decode cX8_gate 15 = .ok (.iinc 1 1, 3) := tb_d tk_X8_gate_1 10 (15, .iinc 1 1, 3) rfl
theorem dX8_gate_18 : decode cX8_gate 18 = .ok (.goto (-16), 3) := tb_d tk_X8_gate_1 11 (18, .goto (-16), 3) rfl
theorem dX8_gate_21 : decode cX8_gate 21 = .ok (.aload_n 0, 1) := tb_d tk_X8_gate_1 12 (21, .aload_n 0, 1) rfl
theorem dX8_gate_22 : decode cX8_gate 22 = .ok (.iconst 0, 1) := tb_d tk_X8_gate_1 13 (22, .iconst 0, 1) rfl
theorem dX8_gate_23 : decode cX8_gate 23 = .ok (.putfield 86, 3) := tb_d tk_X8_gate_1 14 (23, .putfield 86, 3) rfl
theorem dX8_gate_26 : decode cX8_gate 26 = .ok (.aload_n 0, 1) := tb_d tk_X8_gate_1 15 (26, .aload_n 0, 1) rfl
theorem dX8_gate_27 : decode cX8_gate 27 = .ok (.iconst (-1), 1) := tb_d tk_X8_gate_1 16 (27, .iconst (-1), 1) rfl
theorem dX8_gate_28 : decode cX8_gate 28 = .ok (.putfield 101, 3) := tb_d tk_X8_gate_1 17 (28, .putfield 101, 3) rfl
theorem dX8_gate_31 : decode cX8_gate 31 = .ok (.aload_n 0, 1) := tb_d tk_X8_gate_1 18 (31, .aload_n 0, 1) rfl
theorem dX8_gate_32 : decode cX8_gate 32 = .ok (.invokevirtual 111, 3) := tb_d tk_X8_gate_1 19 (32, .invokevirtual 111, 3) rfl
theorem dX8_gate_35 : decode cX8_gate 35 = .ok (.aload_n 0, 1) := tb_d tk_X8_gate_1 20 (35, .aload_n 0, 1) rfl
theorem dX8_gate_36 : decode cX8_gate 36 = .ok (.aload_n 0, 1) := tb_d tk_X8_gate_1 21 (36, .aload_n 0, 1) rfl
theorem dX8_gate_37 : decode cX8_gate 37 = .ok (.getfield 98, 3) := tb_d tk_X8_gate_1 22 (37, .getfield 98, 3) rfl
theorem dX8_gate_40 : decode cX8_gate 40 = .ok (.iconst 1, 1) := tb_d tk_X8_gate_1 23 (40, .iconst 1, 1) rfl
theorem dX8_gate_41 : decode cX8_gate 41 = .ok (.if_icmp .ne 16, 3) := tb_d tk_X8_gate_1 24 (41, .if_icmp .ne 16, 3) rfl
theorem dX8_gate_44 : decode cX8_gate 44 = .ok (.aload_n 0, 1) := tb_d tk_X8_gate_1 25 (44, .aload_n 0, 1) rfl
theorem dX8_gate_45 : decode cX8_gate 45 = .ok (.getfield 95, 3) := tb_d tk_X8_gate_1 26 (45, .getfield 95, 3) rfl
theorem dX8_gate_48 : decode cX8_gate 48 = .ok (.bipush 113, 2) := tb_d tk_X8_gate_1 27 (48, .bipush 113, 2) rfl
theorem dX8_gate_50 : decode cX8_gate 50 = .ok (.if_icmp .ne 7, 3) := tb_d tk_X8_gate_1 28 (50, .if_icmp .ne 7, 3) rfl
theorem dX8_gate_53 : decode cX8_gate 53 = .ok (.iconst 1, 1) := tb_d tk_X8_gate_1 29 (53, .iconst 1, 1) rfl
theorem dX8_gate_54 : decode cX8_gate 54 = .ok (.goto 4, 3) := tb_d tk_X8_gate_1 30 (54, .goto 4, 3) rfl
theorem dX8_gate_57 : decode cX8_gate 57 = .ok (.iconst 0, 1) := tb_d tk_X8_gate_1 31 (57, .iconst 0, 1) rfl
theorem dX8_gate_58 : decode cX8_gate 58 = .ok (.iconst 1, 1) := tb_d tk_X8_gate_1 32 (58, .iconst 1, 1) rfl
theorem dX8_gate_59 : decode cX8_gate 59 = .ok (.invokevirtual 114, 3) := tb_d tk_X8_gate_1 33 (59, .invokevirtual 114, 3) rfl
theorem dX8_gate_62 : decode cX8_gate 62 = .ok (.pop, 1) := tb_d tk_X8_gate_1 34 (62, .pop, 1) rfl
theorem dX8_gate_63 : decode cX8_gate 63 = .ok (.aload_n 0, 1) := tb_d tk_X8_gate_1 35 (63, .aload_n 0, 1) rfl
theorem dX8_gate_64 : decode cX8_gate 64 = .ok (.getfield 28, 3) := tb_d tk_X8_gate_1 36 (64, .getfield 28, 3) rfl
theorem dX8_gate_67 : decode cX8_gate 67 = .ok (.iconst 0, 1) := tb_d tk_X8_gate_1 37 (67, .iconst 0, 1) rfl
theorem dX8_gate_68 : decode cX8_gate 68 = .ok (.aload_n 0, 1) := tb_d tk_X8_gate_1 38 (68, .aload_n 0, 1) rfl
theorem dX8_gate_69 : decode cX8_gate 69 = .ok (.iconst 0, 1) := tb_d tk_X8_gate_1 39 (69, .iconst 0, 1) rfl
def tb_X8_gate_2 : List (Nat × Instr × Nat) := [(70, .bipush 9, 2), (72, .invokevirtual 118, 3), (75, .iastore, 1), (76, .aload_n 0, 1), (77, .getfield 28, 3), (80, .iconst 1, 1), (81, .aload_n 0, 1), (82, .iconst 0, 1), (83, .bipush 9, 2), (85, .invokevirtual 131, 3), (88, .iastore, 1), (89, .aload_n 0, 1), (90, .getfield 28, 3), (93, .iconst 2, 1), (94, .aload_n 0, 1), (95, .iconst 0, 1), (96, .bipush 6, 2), (98, .invokevirtual 131, 3), (101, .iastore, 1), (102, .aload_n 0, 1), (103, .aload_n 0, 1), (104, .getfield 98, 3), (107, .iconst 4, 1), (108, .if_icmp .ne 7, 3), (111, .iconst 1, 1), (112, .goto 4, 3), (115, .iconst 0, 1), (116, .iconst 1, 1), (117, .invokevirtual 114, 3), (120, .pop, 1), (121, .aload_n 0, 1), (122, .aload_n 0, 1), (123, .getfield 98, 3), (126, .iconst 1, 1), (127, .if_icmp .ne 16, 3), (130, .aload_n 0, 1), (131, .getfield 95, 3), (134, .bipush 119, 2), (136, .if_icmp .ne 7, 3), (139, .iconst 1, 1)]
set_option maxRecDepth 100000 in
theorem tk_X8_gate_2 : (tb_X8_gate_2.all fun q => decide (decode cX8_gate q.1 = .ok q.2)) = true := by decide +kernel
theorem dX8_gate_70 : decode cX8_gate 70 = .ok (.bipush 9, 2) := tb_d tk_X8_gate_2 0 (70, .bipush 9, 2) rfl
theorem dX8_gate_72 : decode cX8_gate 72 = .ok (.invokevirtual 118, 3) := tb_d tk_X8_gate_2 1 (72, .invokevirtual 118, 3) rfl
theorem dX8_gate_75 : decode cX8_gate 75 = .ok (.iastore, 1) := tb_d tk_X8_gate_2 2 (75, .iastore, 1) rfl
theorem dX8_gate_76 : decode cX8_gate 76 = .ok (.aload_n 0, 1) := tb_d tk_X8_gate_2 3 (76, .aload_n 0, 1) rfl
theorem dX8_gate_77 : decode cX8_gate 77 = .ok (.getfield 28, 3) := tb_d tk_X8_gate_2 4 (77, .getfield 28, 3) rfl
theorem dX8_gate_80 : decode cX8_gate 80 = .ok (.iconst 1, 1) := tb_d tk_X8_gate_2 5 (80, .iconst 1, 1) rfl
theorem dX8_gate_81 : decode cX8_gate 81 = .ok (.aload_n 0, 1) := tb_d tk_X8_gate_2 6 (81, .aload_n 0, 1) rfl
theorem dX8_gate_82 : decode cX8_gate 82 = .ok (.iconst 0, 1) := tb_d tk_X8_gate_2 7 (82, .iconst 0, 1) rfl
theorem dX8_gate_83 : decode cX8_gate 83 = .ok (.bipush 9, 2) := tb_d tk_X8_gate_2 8 (83, .bipush 9, 2) rfl
theorem dX8_gate_85 : decode cX8_gate 85 = .ok (.invokevirtual 131, 3) := tb_d tk_X8_gate_2 9 (85, .invokevirtual 131, 3) rfl
theorem dX8_gate_88 : decode cX8_gate 88 = .ok (.iastore, 1) := tb_d tk_X8_gate_2 10 (88, .iastore, 1) rfl
theorem dX8_gate_89 : decode cX8_gate 89 = .ok (.aload_n 0, 1) := tb_d tk_X8_gate_2 11 (89, .aload_n 0, 1) rfl
theorem dX8_gate_90 : decode cX8_gate 90 = .ok (.getfield 28, 3) := tb_d tk_X8_gate_2 12 (90, .getfield 28, 3) rfl
theorem dX8_gate_93 : decode cX8_gate 93 = .ok (.iconst 2, 1) := tb_d tk_X8_gate_2 13 (93, .iconst 2, 1) rfl
theorem dX8_gate_94 : decode cX8_gate 94 = .ok (.aload_n 0, 1) := tb_d tk_X8_gate_2 14 (94, .aload_n 0, 1) rfl
theorem dX8_gate_95 : decode cX8_gate 95 = .ok (.iconst 0, 1) := tb_d tk_X8_gate_2 15 (95, .iconst 0, 1) rfl
theorem dX8_gate_96 : decode cX8_gate 96 = .ok (.bipush 6, 2) := tb_d tk_X8_gate_2 16 (96, .bipush 6, 2) rfl
theorem dX8_gate_98 : decode cX8_gate 98 = .ok (.invokevirtual 131, 3) := tb_d tk_X8_gate_2 17 (98, .invokevirtual 131, 3) rfl
theorem dX8_gate_101 : decode cX8_gate 101 = .ok (.iastore, 1) := tb_d tk_X8_gate_2 18 (101, .iastore, 1) rfl
theorem dX8_gate_102 : decode cX8_gate 102 = .ok (.aload_n 0, 1) := tb_d tk_X8_gate_2 19 (102, .aload_n 0, 1) rfl
theorem dX8_gate_103 : decode cX8_gate 103 = .ok (.aload_n 0, 1) := tb_d tk_X8_gate_2 20 (103, .aload_n 0, 1) rfl
theorem dX8_gate_104 : decode cX8_gate 104 = .ok (.getfield 98, 3) := tb_d tk_X8_gate_2 21 (104, .getfield 98, 3) rfl
theorem dX8_gate_107 : decode cX8_gate 107 = .ok (.iconst 4, 1) := tb_d tk_X8_gate_2 22 (107, .iconst 4, 1) rfl
theorem dX8_gate_108 : decode cX8_gate 108 = .ok (.if_icmp .ne 7, 3) := tb_d tk_X8_gate_2 23 (108, .if_icmp .ne 7, 3) rfl
theorem dX8_gate_111 : decode cX8_gate 111 = .ok (.iconst 1, 1) := tb_d tk_X8_gate_2 24 (111, .iconst 1, 1) rfl
theorem dX8_gate_112 : decode cX8_gate 112 = .ok (.goto 4, 3) := tb_d tk_X8_gate_2 25 (112, .goto 4, 3) rfl
theorem dX8_gate_115 : decode cX8_gate 115 = .ok (.iconst 0, 1) := tb_d tk_X8_gate_2 26 (115, .iconst 0, 1) rfl
theorem dX8_gate_116 : decode cX8_gate 116 = .ok (.iconst 1, 1) := tb_d tk_X8_gate_2 27 (116, .iconst 1, 1) rfl
theorem dX8_gate_117 : decode cX8_gate 117 = .ok (.invokevirtual 114, 3) := tb_d tk_X8_gate_2 28 (117, .invokevirtual 114, 3) rfl
theorem dX8_gate_120 : decode cX8_gate 120 = .ok (.pop, 1) := tb_d tk_X8_gate_2 29 (120, .pop, 1) rfl
theorem dX8_gate_121 : decode cX8_gate 121 = .ok (.aload_n 0, 1) := tb_d tk_X8_gate_2 30 (121, .aload_n 0, 1) rfl
theorem dX8_gate_122 : decode cX8_gate 122 = .ok (.aload_n 0, 1) := tb_d tk_X8_gate_2 31 (122, .aload_n 0, 1) rfl
theorem dX8_gate_123 : decode cX8_gate 123 = .ok (.getfield 98, 3) := tb_d tk_X8_gate_2 32 (123, .getfield 98, 3) rfl
theorem dX8_gate_126 : decode cX8_gate 126 = .ok (.iconst 1, 1) := tb_d tk_X8_gate_2 33 (126, .iconst 1, 1) rfl
theorem dX8_gate_127 : decode cX8_gate 127 = .ok (.if_icmp .ne 16, 3) := tb_d tk_X8_gate_2 34 (127, .if_icmp .ne 16, 3) rfl
theorem dX8_gate_130 : decode cX8_gate 130 = .ok (.aload_n 0, 1) := tb_d tk_X8_gate_2 35 (130, .aload_n 0, 1) rfl
theorem dX8_gate_131 : decode cX8_gate 131 = .ok (.getfield 95, 3) := tb_d tk_X8_gate_2 36 (131, .getfield 95, 3) rfl
theorem dX8_gate_134 : decode cX8_gate 134 = .ok (.bipush 119, 2) := tb_d tk_X8_gate_2 37 (134, .bipush 119, 2) rfl
theorem dX8_gate_136 : decode cX8_gate 136 = .ok (.if_icmp .ne 7, 3) := tb_d tk_X8_gate_2 38 (136, .if_icmp .ne 7, 3) rfl
theorem dX8_gate_139 : decode cX8_gate 139 = .ok (.iconst 1, 1) := tb_d tk_X8_gate_2 39 (139, .iconst 1, 1) rfl
def tb_X8_gate_3 : List (Nat × Instr × Nat) := [(140, .goto 4, 3), (143, .iconst 0, 1), (144, .invokevirtual 134, 3), (147, .aload_n 0, 1), (148, .invokevirtual 104, 3), (151, .ifCond .eq 27, 3), (154, .aload_n 0, 1), (155, .getfield 98, 3), (158, .iconst 1, 1), (159, .if_icmp .ne 19, 3), (162, .aload_n 0, 1), (163, .getfield 95, 3), (166, .bipush 119, 2), (168, .if_icmp .ne 10, 3), (171, .aload_n 0, 1), (172, .invokevirtual 138, 3), (175, .goto (-28), 3), (178, .aload_n 0, 1), (179, .aload_n 0, 1), (180, .getfield 98, 3), (183, .iconst 1, 1), (184, .if_icmp .ne 17, 3), (187, .aload_n 0, 1), (188, .getfield 95, 3), (191, .invokestatic 128, 3), (194, .ifCond .le 7, 3), (197, .iconst 1, 1), (198, .goto 4, 3), (201, .iconst 0, 1), (202, .invokevirtual 134, 3), (205, .aload_n 0, 1), (206, .invokevirtual 104, 3), (209, .ifCond .eq 28, 3), (212, .aload_n 0, 1), (213, .getfield 98, 3), (216, .iconst 1, 1), (217, .if_icmp .ne 20, 3), (220, .aload_n 0, 1), (221, .getfield 95, 3), (224, .invokestatic 128, 3)]
set_option maxRecDepth 100000 in
theorem tk_X8_gate_3 : (tb_X8_gate_3.all fun q => decide (decode cX8_gate q.1 = .ok q.2)) = true := by decide +kernel
theorem dX8_gate_140 : decode cX8_gate 140 = .ok (.goto 4, 3) := tb_d tk_X8_gate_3 0 (140, .goto 4, 3) rfl
theorem dX8_gate_143 : decode cX8_gate 143 = .ok (.iconst 0, 1) := tb_d tk_X8_gate_3 1 (143, .iconst 0, 1) rfl
theorem dX8_gate_144 : decode cX8_gate 144 = .ok (.invokevirtual 134, 3) := tb_d tk_X8_gate_3 2 (144, .invokevirtual 134, 3) rfl
theorem dX8_gate_147 : decode cX8_gate 147 = .ok (.aload_n 0, 1) := tb_d tk_X8_gate_3 3 (147, .aload_n 0, 1) rfl
theorem dX8_gate_148 : decode cX8_gate 148 = .ok (.invokevirtual 104, 3) := tb_d tk_X8_gate_3 4 (148, .invokevirtual 104, 3) rfl
theorem dX8_gate_151 : decode cX8_gate 151 = .ok (.ifCond .eq 27, 3) := tb_d tk_X8_gate_3 5 (151, .ifCond .eq 27, 3) rfl
theorem dX8_gate_154 : decode cX8_gate 154 = .ok (.aload_n 0, 1) := tb_d tk_X8_gate_3 6 (154, .aload_n 0, 1) rfl
theorem dX8_gate_155 : decode cX8_gate 155 = .ok (.getfield 98, 3) := tb_d tk_X8_gate_3 7 (155, .getfield 98, 3) rfl
theorem dX8_gate_158 : decode cX8_gate 158 = .ok (.iconst 1, 1) := tb_d tk_X8_gate_3 8 (158, .iconst 1, 1) rfl
theorem dX8_gate_159 : decode cX8_gate 159 = .ok (.if_icmp .ne 19, 3) := tb_d tk_X8_gate_3 9 (159, .if_icmp .ne 19, 3) rfl
theorem dX8_gate_162 : decode cX8_gate 162 = .ok (.aload_n 0, 1) := tb_d tk_X8_gate_3 10 (162, .aload_n 0, 1) rfl
theorem dX8_gate_163 : decode cX8_gate 163 = .ok (.getfield 95, 3) := tb_d tk_X8_gate_3 11 (163, .getfield 95, 3) rfl
theorem dX8_gate_166 : decode cX8_gate 166 = .ok (.bipush 119, 2) := tb_d tk_X8_gate_3 12 (166, .bipush 119, 2) rfl
theorem dX8_gate_168 : decode cX8_gate 168 = .ok (.if_icmp .ne 10, 3) := tb_d tk_X8_gate_3 13 (168, .if_icmp .ne 10, 3) rfl
theorem dX8_gate_171 : decode cX8_gate 171 = .ok (.aload_n 0, 1) := tb_d tk_X8_gate_3 14 (171, .aload_n 0, 1) rfl
theorem dX8_gate_172 : decode cX8_gate 172 = .ok (.invokevirtual 138, 3) := tb_d tk_X8_gate_3 15 (172, .invokevirtual 138, 3) rfl
theorem dX8_gate_175 : decode cX8_gate 175 = .ok (.goto (-28), 3) := tb_d tk_X8_gate_3 16 (175, .goto (-28), 3) rfl
theorem dX8_gate_178 : decode cX8_gate 178 = .ok (.aload_n 0, 1) := tb_d tk_X8_gate_3 17 (178, .aload_n 0, 1) rfl
theorem dX8_gate_179 : decode cX8_gate 179 = .ok (.aload_n 0, 1) := tb_d tk_X8_gate_3 18 (179, .aload_n 0, 1) rfl
theorem dX8_gate_180 : decode cX8_gate 180 = .ok (.getfield 98, 3) := tb_d tk_X8_gate_3 19 (180, .getfield 98, 3) rfl
theorem dX8_gate_183 : decode cX8_gate 183 = .ok (.iconst 1, 1) := tb_d tk_X8_gate_3 20 (183, .iconst 1, 1) rfl
theorem dX8_gate_184 : decode cX8_gate 184 = .ok (.if_icmp .ne 17, 3) := tb_d tk_X8_gate_3 21 (184, .if_icmp .ne 17, 3) rfl
theorem dX8_gate_187 : decode cX8_gate 187 = .ok (.aload_n 0, 1) := tb_d tk_X8_gate_3 22 (187, .aload_n 0, 1) rfl
theorem dX8_gate_188 : decode cX8_gate 188 = .ok (.getfield 95, 3) := tb_d tk_X8_gate_3 23 (188, .getfield 95, 3) rfl
theorem dX8_gate_191 : decode cX8_gate 191 = .ok (.invokestatic 128, 3) := tb_d tk_X8_gate_3 24 (191, .invokestatic 128, 3) rfl
theorem dX8_gate_194 : decode cX8_gate 194 = .ok (.ifCond .le 7, 3) := tb_d tk_X8_gate_3 25 (194, .ifCond .le 7, 3) rfl
theorem dX8_gate_197 : decode cX8_gate 197 = .ok (.iconst 1, 1) := tb_d tk_X8_gate_3 26 (197, .iconst 1, 1) rfl
theorem dX8_gate_198 : decode cX8_gate 198 = .ok (.goto 4, 3) := tb_d tk_X8_gate_3 27 (198, .goto 4, 3) rfl
theorem dX8_gate_201 : decode cX8_gate 201 = .ok (.iconst 0, 1) := tb_d tk_X8_gate_3 28 (201, .iconst 0, 1) rfl
theorem dX8_gate_202 : decode cX8_gate 202 = .ok (.invokevirtual 134, 3) := tb_d tk_X8_gate_3 29 (202, .invokevirtual 134, 3) rfl
theorem dX8_gate_205 : decode cX8_gate 205 = .ok (.aload_n 0, 1) := tb_d tk_X8_gate_3 30 (205, .aload_n 0, 1) rfl
theorem dX8_gate_206 : decode cX8_gate 206 = .ok (.invokevirtual 104, 3) := tb_d tk_X8_gate_3 31 (206, .invokevirtual 104, 3) rfl
theorem dX8_gate_209 : decode cX8_gate 209 = .ok (.ifCond .eq 28, 3) := tb_d tk_X8_gate_3 32 (209, .ifCond .eq 28, 3) rfl
theorem dX8_gate_212 : decode cX8_gate 212 = .ok (.aload_n 0, 1) := tb_d tk_X8_gate_3 33 (212, .aload_n 0, 1) rfl
theorem dX8_gate_213 : decode cX8_gate 213 = .ok (.getfield 98, 3) := tb_d tk_X8_gate_3 34 (213, .getfield 98, 3) rfl
theorem dX8_gate_216 : decode cX8_gate 216 = .ok (.iconst 1, 1) := tb_d tk_X8_gate_3 35 (216, .iconst 1, 1) rfl
theorem dX8_gate_217 : decode cX8_gate 217 = .ok (.if_icmp .ne 20, 3) := tb_d tk_X8_gate_3 36 (217, .if_icmp .ne 20, 3) rfl
theorem dX8_gate_220 : decode cX8_gate 220 = .ok (.aload_n 0, 1) := tb_d tk_X8_gate_3 37 (220, .aload_n 0, 1) rfl
theorem dX8_gate_221 : decode cX8_gate 221 = .ok (.getfield 95, 3) := tb_d tk_X8_gate_3 38 (221, .getfield 95, 3) rfl
theorem dX8_gate_224 : decode cX8_gate 224 = .ok (.invokestatic 128, 3) := tb_d tk_X8_gate_3 39 (224, .invokestatic 128, 3) rfl
def tb_X8_gate_4 : List (Nat × Instr × Nat) := [(227, .ifCond .le 10, 3), (230, .aload_n 0, 1), (231, .invokevirtual 141, 3), (234, .goto (-29), 3), (237, .aload_n 0, 1), (238, .aload_n 0, 1), (239, .getfield 98, 3), (242, .ifCond .ne 7, 3), (245, .iconst 1, 1), (246, .goto 4, 3), (249, .iconst 0, 1), (250, .invokevirtual 134, 3), (253, .aload_n 0, 1), (254, .iconst 0, 1), (255, .putfield 82, 3), (258, .aload_n 0, 1), (259, .invokevirtual 104, 3), (262, .ifCond .ne 11, 3), (265, .ldc 144, 2), (267, .aload_n 0, 1), (268, .getfield 101, 3), (271, .isub, 1), (272, .ireturn, 1), (273, .aload_n 0, 1), (274, .getfield 28, 3), (277, .iconst 0, 1), (278, .aload_n 0, 1), (279, .getfield 25, 3), (282, .iconst 0, 1), (283, .invokestatic 145, 3), (286, .aload_n 0, 1), (287, .iconst 0, 1), (288, .putfield 149, 3), (291, .aload_n 0, 1), (292, .getfield 25, 3), (295, .iconst 3, 1), (296, .iaload, 1), (297, .ireturn, 1)]
set_option maxRecDepth 100000 in
theorem tk_X8_gate_4 : (tb_X8_gate_4.all fun q => decide (decode cX8_gate q.1 = .ok q.2)) = true := by decide +kernel
theorem dX8_gate_227 : decode cX8_gate 227 = .ok (.ifCond .le 10, 3) := tb_d tk_X8_gate_4 0 (227, .ifCond .le 10, 3) rfl
theorem dX8_gate_230 : decode cX8_gate 230 = .ok (.aload_n 0, 1) := tb_d tk_X8_gate_4 1 (230, .aload_n 0, 1) rfl
theorem dX8_gate_231 : decode cX8_gate 231 = .ok (.invokevirtual 141, 3) := tb_d tk_X8_gate_4 2 (231, .invokevirtual 141, 3) rfl
theorem dX8_gate_234 : decode cX8_gate 234 = .ok (.goto (-29), 3) := tb_d tk_X8_gate_4 3 (234, .goto (-29), 3) rfl
theorem dX8_gate_237 : decode cX8_gate 237 = .ok (.aload_n 0, 1) := tb_d tk_X8_gate_4 4 (237, .aload_n 0, 1) rfl
theorem dX8_gate_238 : decode cX8_gate 238 = .ok (.aload_n 0, 1) := tb_d tk_X8_gate_4 5 (238, .aload_n 0, 1) rfl
theorem dX8_gate_239 : decode cX8_gate 239 = .ok (.getfield 98, 3) := tb_d tk_X8_gate_4 6 (239, .getfield 98, 3) rfl
theorem dX8_gate_242 : decode cX8_gate 242 = .ok (.ifCond .ne 7, 3) := tb_d tk_X8_gate_4 7 (242, .ifCond .ne 7, 3) rfl
theorem dX8_gate_245 : decode cX8_gate 245 = .ok (.iconst 1, 1) := tb_d tk_X8_gate_4 8 (245, .iconst 1, 1) rfl
theorem dX8_gate_246 : decode cX8_gate 246 = .ok (.goto 4, 3) := tb_d tk_X8_gate_4 9 (246, .goto 4, 3) rfl
theorem dX8_gate_249 : decode cX8_gate 249 = .ok (.iconst 0, 1) := tb_d tk_X8_gate_4 10 (249, .iconst 0, 1) rfl
theorem dX8_gate_250 : decode cX8_gate 250 = .ok (.invokevirtual 134, 3) := tb_d tk_X8_gate_4 11 (250, .invokevirtual 134, 3) rfl
theorem dX8_gate_253 : decode cX8_gate 253 = .ok (.aload_n 0, 1) := tb_d tk_X8_gate_4 12 (253, .aload_n 0, 1) rfl
theorem dX8_gate_254 : decode cX8_gate 254 = .ok (.iconst 0, 1) := tb_d tk_X8_gate_4 13 (254, .iconst 0, 1) rfl
theorem dX8_gate_255 : decode cX8_gate 255 = .ok (.putfield 82, 3) := tb_d tk_X8_gate_4 14 (255, .putfield 82, 3) rfl
theorem dX8_gate_258 : decode cX8_gate 258 = .ok (.aload_n 0, 1) := tb_d tk_X8_gate_4 15 (258, .aload_n 0, 1) rfl
theorem dX8_gate_259 : decode cX8_gate 259 = .ok (.invokevirtual 104, 3) := tb_d tk_X8_gate_4 16 (259, .invokevirtual 104, 3) rfl
theorem dX8_gate_262 : decode cX8_gate 262 = .ok (.ifCond .ne 11, 3) := tb_d tk_X8_gate_4 17 (262, .ifCond .ne 11, 3) rfl
theorem dX8_gate_265 : decode cX8_gate 265 = .ok (.ldc 144, 2) := tb_d tk_X8_gate_4 18 (265, .ldc 144, 2) rfl
theorem dX8_gate_267 : decode cX8_gate 267 = .ok (.aload_n 0, 1) := tb_d tk_X8_gate_4 19 (267, .aload_n 0, 1) rfl
theorem dX8_gate_268 : decode cX8_gate 268 = .ok (.getfield 101, 3) := tb_d tk_X8_gate_4 20 (268, .getfield 101, 3) rfl
theorem dX8_gate_271 : decode cX8_gate 271 = .ok (.isub, 1) := tb_d tk_X8_gate_4 21 (271, .isub, 1) rfl
theorem dX8_gate_272 : decode cX8_gate 272 = .ok (.ireturn, 1) := tb_d tk_X8_gate_4 22 (272, .ireturn, 1) rfl
theorem dX8_gate_273 : decode cX8_gate 273 = .ok (.aload_n 0, 1) := tb_d tk_X8_gate_4 23 (273, .aload_n 0, 1) rfl
theorem dX8_gate_274 : decode cX8_gate 274 = .ok (.getfield 28, 3) := tb_d tk_X8_gate_4 24 (274, .getfield 28, 3) rfl
theorem dX8_gate_277 : decode cX8_gate 277 = .ok (.iconst 0, 1) := tb_d tk_X8_gate_4 25 (277, .iconst 0, 1) rfl
theorem dX8_gate_278 : decode cX8_gate 278 = .ok (.aload_n 0, 1) := tb_d tk_X8_gate_4 26 (278, .aload_n 0, 1) rfl
theorem dX8_gate_279 : decode cX8_gate 279 = .ok (.getfield 25, 3) := tb_d tk_X8_gate_4 27 (279, .getfield 25, 3) rfl
theorem dX8_gate_282 : decode cX8_gate 282 = .ok (.iconst 0, 1) := tb_d tk_X8_gate_4 28 (282, .iconst 0, 1) rfl
theorem dX8_gate_283 : decode cX8_gate 283 = .ok (.invokestatic 145, 3) := tb_d tk_X8_gate_4 29 (283, .invokestatic 145, 3) rfl
theorem dX8_gate_286 : decode cX8_gate 286 = .ok (.aload_n 0, 1) := tb_d tk_X8_gate_4 30 (286, .aload_n 0, 1) rfl
theorem dX8_gate_287 : decode cX8_gate 287 = .ok (.iconst 0, 1) := tb_d tk_X8_gate_4 31 (287, .iconst 0, 1) rfl
theorem dX8_gate_288 : decode cX8_gate 288 = .ok (.putfield 149, 3) := tb_d tk_X8_gate_4 32 (288, .putfield 149, 3) rfl
theorem dX8_gate_291 : decode cX8_gate 291 = .ok (.aload_n 0, 1) := tb_d tk_X8_gate_4 33 (291, .aload_n 0, 1) rfl
theorem dX8_gate_292 : decode cX8_gate 292 = .ok (.getfield 25, 3) := tb_d tk_X8_gate_4 34 (292, .getfield 25, 3) rfl
theorem dX8_gate_295 : decode cX8_gate 295 = .ok (.iconst 3, 1) := tb_d tk_X8_gate_4 35 (295, .iconst 3, 1) rfl
theorem dX8_gate_296 : decode cX8_gate 296 = .ok (.iaload, 1) := tb_d tk_X8_gate_4 36 (296, .iaload, 1) rfl
theorem dX8_gate_297 : decode cX8_gate 297 = .ok (.ireturn, 1) := tb_d tk_X8_gate_4 37 (297, .ireturn, 1) rfl
def tb_X8_fault_1 : List (Nat × Instr × Nat) := [(0, .aload_n 0, 1), (1, .getfield 108, 3), (4, .ireturn, 1)]
set_option maxRecDepth 100000 in
theorem tk_X8_fault_1 : (tb_X8_fault_1.all fun q => decide (decode cX8_fault q.1 = .ok q.2)) = true := by decide +kernel
theorem dX8_fault_0 : decode cX8_fault 0 = .ok (.aload_n 0, 1) := tb_d tk_X8_fault_1 0 (0, .aload_n 0, 1) rfl
theorem dX8_fault_1 : decode cX8_fault 1 = .ok (.getfield 108, 3) := tb_d tk_X8_fault_1 1 (1, .getfield 108, 3) rfl
theorem dX8_fault_4 : decode cX8_fault 4 = .ok (.ireturn, 1) := tb_d tk_X8_fault_1 2 (4, .ireturn, 1) rfl
def tb_X8_isGate_1 : List (Nat × Instr × Nat) := [(0, .aload_n 0, 1), (1, .getfield 25, 3), (4, .iconst 3, 1), (5, .iaload, 1), (6, .ifCond .le 7, 3), (9, .iconst 1, 1), (10, .goto 4, 3), (13, .iconst 0, 1), (14, .ireturn, 1)]
set_option maxRecDepth 100000 in
theorem tk_X8_isGate_1 : (tb_X8_isGate_1.all fun q => decide (decode cX8_isGate q.1 = .ok q.2)) = true := by decide +kernel
theorem dX8_isGate_0 : decode cX8_isGate 0 = .ok (.aload_n 0, 1) := tb_d tk_X8_isGate_1 0 (0, .aload_n 0, 1) rfl
theorem dX8_isGate_1 : decode cX8_isGate 1 = .ok (.getfield 25, 3) := tb_d tk_X8_isGate_1 1 (1, .getfield 25, 3) rfl
theorem dX8_isGate_4 : decode cX8_isGate 4 = .ok (.iconst 3, 1) := tb_d tk_X8_isGate_1 2 (4, .iconst 3, 1) rfl
theorem dX8_isGate_5 : decode cX8_isGate 5 = .ok (.iaload, 1) := tb_d tk_X8_isGate_1 3 (5, .iaload, 1) rfl
theorem dX8_isGate_6 : decode cX8_isGate 6 = .ok (.ifCond .le 7, 3) := tb_d tk_X8_isGate_1 4 (6, .ifCond .le 7, 3) rfl
theorem dX8_isGate_9 : decode cX8_isGate 9 = .ok (.iconst 1, 1) := tb_d tk_X8_isGate_1 5 (9, .iconst 1, 1) rfl
theorem dX8_isGate_10 : decode cX8_isGate 10 = .ok (.goto 4, 3) := tb_d tk_X8_isGate_1 6 (10, .goto 4, 3) rfl
theorem dX8_isGate_13 : decode cX8_isGate 13 = .ok (.iconst 0, 1) := tb_d tk_X8_isGate_1 7 (13, .iconst 0, 1) rfl
theorem dX8_isGate_14 : decode cX8_isGate 14 = .ok (.ireturn, 1) := tb_d tk_X8_isGate_1 8 (14, .ireturn, 1) rfl
theorem ggX8_isWord_X8_in : GoodIn wsX8_isWord wsX8_in := fun w h => ⟨List.mem_cons_of_mem _ (List.mem_append_right _ (List.mem_append_right _ (List.mem_append_left _ h))), good_of_word (gdX8_in w h)⟩
set_option maxRecDepth 20000 in
theorem gX8_isWord_X8_in : GoodIn wsX8_isWord (va_wsS RX8 56 yX8_in wsX8_in) := goodIn_app (goodIn_of _ (by decide +kernel)) ggX8_isWord_X8_in
def tb_X8_isWord_1 : List (Nat × Instr × Nat) := [(0, .iload_n 1, 1), (1, .iconst 0, 1), (2, .aload_n 0, 1), (3, .getfield 25, 3), (6, .iconst 3, 1), (7, .iaload, 1), (8, .iconst 1, 1), (9, .isub, 1), (10, .invokestatic 56, 3), (13, .ireturn, 1)]
set_option maxRecDepth 100000 in
theorem tk_X8_isWord_1 : (tb_X8_isWord_1.all fun q => decide (decode cX8_isWord q.1 = .ok q.2)) = true := by decide +kernel
theorem dX8_isWord_0 : decode cX8_isWord 0 = .ok (.iload_n 1, 1) := tb_d tk_X8_isWord_1 0 (0, .iload_n 1, 1) rfl
theorem dX8_isWord_1 : decode cX8_isWord 1 = .ok (.iconst 0, 1) := tb_d tk_X8_isWord_1 1 (1, .iconst 0, 1) rfl
theorem dX8_isWord_2 : decode cX8_isWord 2 = .ok (.aload_n 0, 1) := tb_d tk_X8_isWord_1 2 (2, .aload_n 0, 1) rfl
theorem dX8_isWord_3 : decode cX8_isWord 3 = .ok (.getfield 25, 3) := tb_d tk_X8_isWord_1 3 (3, .getfield 25, 3) rfl
theorem dX8_isWord_6 : decode cX8_isWord 6 = .ok (.iconst 3, 1) := tb_d tk_X8_isWord_1 4 (6, .iconst 3, 1) rfl
theorem dX8_isWord_7 : decode cX8_isWord 7 = .ok (.iaload, 1) := tb_d tk_X8_isWord_1 5 (7, .iaload, 1) rfl
theorem dX8_isWord_8 : decode cX8_isWord 8 = .ok (.iconst 1, 1) := tb_d tk_X8_isWord_1 6 (8, .iconst 1, 1) rfl
theorem dX8_isWord_9 : decode cX8_isWord 9 = .ok (.isub, 1) := tb_d tk_X8_isWord_1 7 (9, .isub, 1) rfl
theorem dX8_isWord_10 : decode cX8_isWord 10 = .ok (.invokestatic 56, 3) := tb_d tk_X8_isWord_1 8 (10, .invokestatic 56, 3) rfl
theorem dX8_isWord_13 : decode cX8_isWord 13 = .ok (.ireturn, 1) := tb_d tk_X8_isWord_1 9 (13, .ireturn, 1) rfl
theorem ggX8_isGuard_X8_in : GoodIn wsX8_isGuard wsX8_in := fun w h => ⟨List.mem_cons_of_mem _ (List.mem_append_right _ (List.mem_append_right _ (List.mem_append_left _ h))), good_of_word (gdX8_in w h)⟩
set_option maxRecDepth 20000 in
theorem gX8_isGuard_X8_in : GoodIn wsX8_isGuard (va_wsS RX8 56 yX8_in wsX8_in) := goodIn_app (goodIn_of _ (by decide +kernel)) ggX8_isGuard_X8_in
def tb_X8_isGuard_1 : List (Nat × Instr × Nat) := [(0, .iload_n 1, 1), (1, .iconst 0, 1), (2, .aload_n 0, 1), (3, .getfield 25, 3), (6, .iconst 4, 1), (7, .iaload, 1), (8, .iconst 1, 1), (9, .isub, 1), (10, .invokestatic 56, 3), (13, .ireturn, 1)]
set_option maxRecDepth 100000 in
theorem tk_X8_isGuard_1 : (tb_X8_isGuard_1.all fun q => decide (decode cX8_isGuard q.1 = .ok q.2)) = true := by decide +kernel
theorem dX8_isGuard_0 : decode cX8_isGuard 0 = .ok (.iload_n 1, 1) := tb_d tk_X8_isGuard_1 0 (0, .iload_n 1, 1) rfl
theorem dX8_isGuard_1 : decode cX8_isGuard 1 = .ok (.iconst 0, 1) := tb_d tk_X8_isGuard_1 1 (1, .iconst 0, 1) rfl
theorem dX8_isGuard_2 : decode cX8_isGuard 2 = .ok (.aload_n 0, 1) := tb_d tk_X8_isGuard_1 2 (2, .aload_n 0, 1) rfl
theorem dX8_isGuard_3 : decode cX8_isGuard 3 = .ok (.getfield 25, 3) := tb_d tk_X8_isGuard_1 3 (3, .getfield 25, 3) rfl
theorem dX8_isGuard_6 : decode cX8_isGuard 6 = .ok (.iconst 4, 1) := tb_d tk_X8_isGuard_1 4 (6, .iconst 4, 1) rfl
theorem dX8_isGuard_7 : decode cX8_isGuard 7 = .ok (.iaload, 1) := tb_d tk_X8_isGuard_1 5 (7, .iaload, 1) rfl
theorem dX8_isGuard_8 : decode cX8_isGuard 8 = .ok (.iconst 1, 1) := tb_d tk_X8_isGuard_1 6 (8, .iconst 1, 1) rfl
theorem dX8_isGuard_9 : decode cX8_isGuard 9 = .ok (.isub, 1) := tb_d tk_X8_isGuard_1 7 (9, .isub, 1) rfl
theorem dX8_isGuard_10 : decode cX8_isGuard 10 = .ok (.invokestatic 56, 3) := tb_d tk_X8_isGuard_1 8 (10, .invokestatic 56, 3) rfl
theorem dX8_isGuard_13 : decode cX8_isGuard 13 = .ok (.ireturn, 1) := tb_d tk_X8_isGuard_1 9 (13, .ireturn, 1) rfl
theorem ggX8_isHour_X8_in : GoodIn wsX8_isHour wsX8_in := fun w h => ⟨List.mem_cons_of_mem _ (List.mem_append_right _ (List.mem_append_left _ h)), good_of_word (gdX8_in w h)⟩
set_option maxRecDepth 20000 in
theorem gX8_isHour_X8_in : GoodIn wsX8_isHour (va_wsS RX8 56 yX8_in wsX8_in) := goodIn_app (goodIn_of _ (by decide +kernel)) ggX8_isHour_X8_in
def tb_X8_isHour_1 : List (Nat × Instr × Nat) := [(0, .iload_n 0, 1), (1, .iconst 0, 1), (2, .iconst 5, 1), (3, .invokestatic 56, 3), (6, .ireturn, 1)]
set_option maxRecDepth 100000 in
theorem tk_X8_isHour_1 : (tb_X8_isHour_1.all fun q => decide (decode cX8_isHour q.1 = .ok q.2)) = true := by decide +kernel
theorem dX8_isHour_0 : decode cX8_isHour 0 = .ok (.iload_n 0, 1) := tb_d tk_X8_isHour_1 0 (0, .iload_n 0, 1) rfl
theorem dX8_isHour_1 : decode cX8_isHour 1 = .ok (.iconst 0, 1) := tb_d tk_X8_isHour_1 1 (1, .iconst 0, 1) rfl
theorem dX8_isHour_2 : decode cX8_isHour 2 = .ok (.iconst 5, 1) := tb_d tk_X8_isHour_1 2 (2, .iconst 5, 1) rfl
theorem dX8_isHour_3 : decode cX8_isHour 3 = .ok (.invokestatic 56, 3) := tb_d tk_X8_isHour_1 3 (3, .invokestatic 56, 3) rfl
theorem dX8_isHour_6 : decode cX8_isHour 6 = .ok (.ireturn, 1) := tb_d tk_X8_isHour_1 4 (6, .ireturn, 1) rfl
theorem ggX8_isFar_X8_in : GoodIn wsX8_isFar wsX8_in := fun w h => ⟨List.mem_cons_of_mem _ (List.mem_append_right _ (List.mem_append_left _ h)), good_of_word (gdX8_in w h)⟩
set_option maxRecDepth 20000 in
theorem gX8_isFar_X8_in : GoodIn wsX8_isFar (va_wsS RX8 56 yX8_in wsX8_in) := goodIn_app (goodIn_of _ (by decide +kernel)) ggX8_isFar_X8_in
def tb_X8_isFar_1 : List (Nat × Instr × Nat) := [(0, .iload_n 0, 1), (1, .iconst 0, 1), (2, .bipush 60, 2), (4, .invokestatic 56, 3), (7, .ireturn, 1)]
set_option maxRecDepth 100000 in
theorem tk_X8_isFar_1 : (tb_X8_isFar_1.all fun q => decide (decode cX8_isFar q.1 = .ok q.2)) = true := by decide +kernel
theorem dX8_isFar_0 : decode cX8_isFar 0 = .ok (.iload_n 0, 1) := tb_d tk_X8_isFar_1 0 (0, .iload_n 0, 1) rfl
theorem dX8_isFar_1 : decode cX8_isFar 1 = .ok (.iconst 0, 1) := tb_d tk_X8_isFar_1 1 (1, .iconst 0, 1) rfl
theorem dX8_isFar_2 : decode cX8_isFar 2 = .ok (.bipush 60, 2) := tb_d tk_X8_isFar_1 2 (2, .bipush 60, 2) rfl
theorem dX8_isFar_4 : decode cX8_isFar 4 = .ok (.invokestatic 56, 3) := tb_d tk_X8_isFar_1 3 (4, .invokestatic 56, 3) rfl
theorem dX8_isFar_7 : decode cX8_isFar 7 = .ok (.ireturn, 1) := tb_d tk_X8_isFar_1 4 (7, .ireturn, 1) rfl
theorem ggX8_areWords_X8_in : GoodIn wsX8_areWords wsX8_in := fun w h => ⟨List.mem_cons_of_mem _ (List.mem_append_right _ (List.mem_append_right _ (List.mem_append_left _ h))), good_of_word (gdX8_in w h)⟩
set_option maxRecDepth 20000 in
theorem gX8_areWords_X8_in : GoodIn wsX8_areWords (va_wsS RX8 56 yX8_in wsX8_in) := goodIn_app (goodIn_of _ (by decide +kernel)) ggX8_areWords_X8_in
def tb_X8_areWords_1 : List (Nat × Instr × Nat) := [(0, .iload_n 1, 1), (1, .iconst 0, 1), (2, .iconst 1, 1), (3, .aload_n 0, 1), (4, .getfield 25, 3), (7, .iconst 3, 1), (8, .iaload, 1), (9, .ishl, 1), (10, .iconst 1, 1), (11, .isub, 1), (12, .invokestatic 56, 3), (15, .ireturn, 1)]
set_option maxRecDepth 100000 in
theorem tk_X8_areWords_1 : (tb_X8_areWords_1.all fun q => decide (decode cX8_areWords q.1 = .ok q.2)) = true := by decide +kernel
theorem dX8_areWords_0 : decode cX8_areWords 0 = .ok (.iload_n 1, 1) := tb_d tk_X8_areWords_1 0 (0, .iload_n 1, 1) rfl
theorem dX8_areWords_1 : decode cX8_areWords 1 = .ok (.iconst 0, 1) := tb_d tk_X8_areWords_1 1 (1, .iconst 0, 1) rfl
theorem dX8_areWords_2 : decode cX8_areWords 2 = .ok (.iconst 1, 1) := tb_d tk_X8_areWords_1 2 (2, .iconst 1, 1) rfl
theorem dX8_areWords_3 : decode cX8_areWords 3 = .ok (.aload_n 0, 1) := tb_d tk_X8_areWords_1 3 (3, .aload_n 0, 1) rfl
theorem dX8_areWords_4 : decode cX8_areWords 4 = .ok (.getfield 25, 3) := tb_d tk_X8_areWords_1 4 (4, .getfield 25, 3) rfl
theorem dX8_areWords_7 : decode cX8_areWords 7 = .ok (.iconst 3, 1) := tb_d tk_X8_areWords_1 5 (7, .iconst 3, 1) rfl
theorem dX8_areWords_8 : decode cX8_areWords 8 = .ok (.iaload, 1) := tb_d tk_X8_areWords_1 6 (8, .iaload, 1) rfl
theorem dX8_areWords_9 : decode cX8_areWords 9 = .ok (.ishl, 1) := tb_d tk_X8_areWords_1 7 (9, .ishl, 1) rfl
theorem dX8_areWords_10 : decode cX8_areWords 10 = .ok (.iconst 1, 1) := tb_d tk_X8_areWords_1 8 (10, .iconst 1, 1) rfl
theorem dX8_areWords_11 : decode cX8_areWords 11 = .ok (.isub, 1) := tb_d tk_X8_areWords_1 9 (11, .isub, 1) rfl
theorem dX8_areWords_12 : decode cX8_areWords 12 = .ok (.invokestatic 56, 3) := tb_d tk_X8_areWords_1 10 (12, .invokestatic 56, 3) rfl
theorem dX8_areWords_15 : decode cX8_areWords 15 = .ok (.ireturn, 1) := tb_d tk_X8_areWords_1 11 (15, .ireturn, 1) rfl
def tb_X8_secretOf_1 : List (Nat × Instr × Nat) := [(0, .iload_n 1, 1), (1, .bipush 7, 2), (3, .irem, 1), (4, .aload_n 0, 1), (5, .iconst 2, 1), (6, .iaload, 1), (7, .if_icmp .ne 7, 3), (10, .iconst 0, 1), (11, .goto 16, 3), (14, .aload_n 0, 1), (15, .iconst 0, 1), (16, .iaload, 1), (17, .aload_n 0, 1), (18, .iconst 1, 1), (19, .iaload, 1), (20, .iload_n 1, 1), (21, .imul, 1), (22, .iadd, 1), (23, .aload_n 0, 1), (24, .iconst 3, 1), (25, .iaload, 1), (26, .irem, 1), (27, .ireturn, 1)]
set_option maxRecDepth 100000 in
theorem tk_X8_secretOf_1 : (tb_X8_secretOf_1.all fun q => decide (decode cX8_secretOf q.1 = .ok q.2)) = true := by decide +kernel
theorem dX8_secretOf_0 : decode cX8_secretOf 0 = .ok (.iload_n 1, 1) := tb_d tk_X8_secretOf_1 0 (0, .iload_n 1, 1) rfl
theorem dX8_secretOf_1 : decode cX8_secretOf 1 = .ok (.bipush 7, 2) := tb_d tk_X8_secretOf_1 1 (1, .bipush 7, 2) rfl
theorem dX8_secretOf_3 : decode cX8_secretOf 3 = .ok (.irem, 1) := tb_d tk_X8_secretOf_1 2 (3, .irem, 1) rfl
theorem dX8_secretOf_4 : decode cX8_secretOf 4 = .ok (.aload_n 0, 1) := tb_d tk_X8_secretOf_1 3 (4, .aload_n 0, 1) rfl
theorem dX8_secretOf_5 : decode cX8_secretOf 5 = .ok (.iconst 2, 1) := tb_d tk_X8_secretOf_1 4 (5, .iconst 2, 1) rfl
theorem dX8_secretOf_6 : decode cX8_secretOf 6 = .ok (.iaload, 1) := tb_d tk_X8_secretOf_1 5 (6, .iaload, 1) rfl
theorem dX8_secretOf_7 : decode cX8_secretOf 7 = .ok (.if_icmp .ne 7, 3) := tb_d tk_X8_secretOf_1 6 (7, .if_icmp .ne 7, 3) rfl
theorem dX8_secretOf_10 : decode cX8_secretOf 10 = .ok (.iconst 0, 1) := tb_d tk_X8_secretOf_1 7 (10, .iconst 0, 1) rfl
theorem dX8_secretOf_11 : decode cX8_secretOf 11 = .ok (.goto 16, 3) := tb_d tk_X8_secretOf_1 8 (11, .goto 16, 3) rfl
theorem dX8_secretOf_14 : decode cX8_secretOf 14 = .ok (.aload_n 0, 1) := tb_d tk_X8_secretOf_1 9 (14, .aload_n 0, 1) rfl
theorem dX8_secretOf_15 : decode cX8_secretOf 15 = .ok (.iconst 0, 1) := tb_d tk_X8_secretOf_1 10 (15, .iconst 0, 1) rfl
theorem dX8_secretOf_16 : decode cX8_secretOf 16 = .ok (.iaload, 1) := tb_d tk_X8_secretOf_1 11 (16, .iaload, 1) rfl
theorem dX8_secretOf_17 : decode cX8_secretOf 17 = .ok (.aload_n 0, 1) := tb_d tk_X8_secretOf_1 12 (17, .aload_n 0, 1) rfl
theorem dX8_secretOf_18 : decode cX8_secretOf 18 = .ok (.iconst 1, 1) := tb_d tk_X8_secretOf_1 13 (18, .iconst 1, 1) rfl
theorem dX8_secretOf_19 : decode cX8_secretOf 19 = .ok (.iaload, 1) := tb_d tk_X8_secretOf_1 14 (19, .iaload, 1) rfl
theorem dX8_secretOf_20 : decode cX8_secretOf 20 = .ok (.iload_n 1, 1) := tb_d tk_X8_secretOf_1 15 (20, .iload_n 1, 1) rfl
theorem dX8_secretOf_21 : decode cX8_secretOf 21 = .ok (.imul, 1) := tb_d tk_X8_secretOf_1 16 (21, .imul, 1) rfl
theorem dX8_secretOf_22 : decode cX8_secretOf 22 = .ok (.iadd, 1) := tb_d tk_X8_secretOf_1 17 (22, .iadd, 1) rfl
theorem dX8_secretOf_23 : decode cX8_secretOf 23 = .ok (.aload_n 0, 1) := tb_d tk_X8_secretOf_1 18 (23, .aload_n 0, 1) rfl
theorem dX8_secretOf_24 : decode cX8_secretOf 24 = .ok (.iconst 3, 1) := tb_d tk_X8_secretOf_1 19 (24, .iconst 3, 1) rfl
theorem dX8_secretOf_25 : decode cX8_secretOf 25 = .ok (.iaload, 1) := tb_d tk_X8_secretOf_1 20 (25, .iaload, 1) rfl
theorem dX8_secretOf_26 : decode cX8_secretOf 26 = .ok (.irem, 1) := tb_d tk_X8_secretOf_1 21 (26, .irem, 1) rfl
theorem dX8_secretOf_27 : decode cX8_secretOf 27 = .ok (.ireturn, 1) := tb_d tk_X8_secretOf_1 22 (27, .ireturn, 1) rfl
def tb_X8_distance_1 : List (Nat × Instr × Nat) := [(0, .iconst 0, 1), (1, .istore_n 3, 1), (2, .iconst 0, 1), (3, .istore 4, 2), (5, .iload 4, 2), (7, .iconst 3, 1), (8, .if_icmp .ge 48, 3), (11, .iload_n 3, 1), (12, .aload_n 0, 1), (13, .getfield 25, 3), (16, .bipush 8, 2), (18, .iconst 3, 1), (19, .iload_n 1, 1), (20, .imul, 1), (21, .iadd, 1), (22, .iload 4, 2), (24, .iadd, 1), (25, .iaload, 1), (26, .aload_n 0, 1), (27, .getfield 25, 3), (30, .bipush 8, 2), (32, .iconst 3, 1), (33, .iload_n 2, 1), (34, .imul, 1), (35, .iadd, 1), (36, .iload 4, 2), (38, .iadd, 1), (39, .iaload, 1), (40, .if_icmp .ne 7, 3), (43, .iconst 0, 1), (44, .goto 4, 3), (47, .iconst 1, 1), (48, .iadd, 1), (49, .istore_n 3, 1), (50, .iinc 4 1, 3), (53, .goto (-48), 3), (56, .iload_n 3, 1), (57, .ireturn, 1)]
set_option maxRecDepth 100000 in
theorem tk_X8_distance_1 : (tb_X8_distance_1.all fun q => decide (decode cX8_distance q.1 = .ok q.2)) = true := by decide +kernel
theorem dX8_distance_0 : decode cX8_distance 0 = .ok (.iconst 0, 1) := tb_d tk_X8_distance_1 0 (0, .iconst 0, 1) rfl
theorem dX8_distance_1 : decode cX8_distance 1 = .ok (.istore_n 3, 1) := tb_d tk_X8_distance_1 1 (1, .istore_n 3, 1) rfl
theorem dX8_distance_2 : decode cX8_distance 2 = .ok (.iconst 0, 1) := tb_d tk_X8_distance_1 2 (2, .iconst 0, 1) rfl
theorem dX8_distance_3 : decode cX8_distance 3 = .ok (.istore 4, 2) := tb_d tk_X8_distance_1 3 (3, .istore 4, 2) rfl
theorem dX8_distance_5 : decode cX8_distance 5 = .ok (.iload 4, 2) := tb_d tk_X8_distance_1 4 (5, .iload 4, 2) rfl
theorem dX8_distance_7 : decode cX8_distance 7 = .ok (.iconst 3, 1) := tb_d tk_X8_distance_1 5 (7, .iconst 3, 1) rfl
theorem dX8_distance_8 : decode cX8_distance 8 = .ok (.if_icmp .ge 48, 3) := tb_d tk_X8_distance_1 6 (8, .if_icmp .ge 48, 3) rfl
theorem dX8_distance_11 : decode cX8_distance 11 = .ok (.iload_n 3, 1) := tb_d tk_X8_distance_1 7 (11, .iload_n 3, 1) rfl
theorem dX8_distance_12 : decode cX8_distance 12 = .ok (.aload_n 0, 1) := tb_d tk_X8_distance_1 8 (12, .aload_n 0, 1) rfl
theorem dX8_distance_13 : decode cX8_distance 13 = .ok (.getfield 25, 3) := tb_d tk_X8_distance_1 9 (13, .getfield 25, 3) rfl
theorem dX8_distance_16 : decode cX8_distance 16 = .ok (.bipush 8, 2) := tb_d tk_X8_distance_1 10 (16, .bipush 8, 2) rfl
theorem dX8_distance_18 : decode cX8_distance 18 = .ok (.iconst 3, 1) := tb_d tk_X8_distance_1 11 (18, .iconst 3, 1) rfl
theorem dX8_distance_19 : decode cX8_distance 19 = .ok (.iload_n 1, 1) := tb_d tk_X8_distance_1 12 (19, .iload_n 1, 1) rfl
theorem dX8_distance_20 : decode cX8_distance 20 = .ok (.imul, 1) := tb_d tk_X8_distance_1 13 (20, .imul, 1) rfl
theorem dX8_distance_21 : decode cX8_distance 21 = .ok (.iadd, 1) := tb_d tk_X8_distance_1 14 (21, .iadd, 1) rfl
theorem dX8_distance_22 : decode cX8_distance 22 = .ok (.iload 4, 2) := tb_d tk_X8_distance_1 15 (22, .iload 4, 2) rfl
theorem dX8_distance_24 : decode cX8_distance 24 = .ok (.iadd, 1) := tb_d tk_X8_distance_1 16 (24, .iadd, 1) rfl
theorem dX8_distance_25 : decode cX8_distance 25 = .ok (.iaload, 1) := tb_d tk_X8_distance_1 17 (25, .iaload, 1) rfl
theorem dX8_distance_26 : decode cX8_distance 26 = .ok (.aload_n 0, 1) := tb_d tk_X8_distance_1 18 (26, .aload_n 0, 1) rfl
theorem dX8_distance_27 : decode cX8_distance 27 = .ok (.getfield 25, 3) := tb_d tk_X8_distance_1 19 (27, .getfield 25, 3) rfl
theorem dX8_distance_30 : decode cX8_distance 30 = .ok (.bipush 8, 2) := tb_d tk_X8_distance_1 20 (30, .bipush 8, 2) rfl
theorem dX8_distance_32 : decode cX8_distance 32 = .ok (.iconst 3, 1) := tb_d tk_X8_distance_1 21 (32, .iconst 3, 1) rfl
theorem dX8_distance_33 : decode cX8_distance 33 = .ok (.iload_n 2, 1) := tb_d tk_X8_distance_1 22 (33, .iload_n 2, 1) rfl
theorem dX8_distance_34 : decode cX8_distance 34 = .ok (.imul, 1) := tb_d tk_X8_distance_1 23 (34, .imul, 1) rfl
theorem dX8_distance_35 : decode cX8_distance 35 = .ok (.iadd, 1) := tb_d tk_X8_distance_1 24 (35, .iadd, 1) rfl
theorem dX8_distance_36 : decode cX8_distance 36 = .ok (.iload 4, 2) := tb_d tk_X8_distance_1 25 (36, .iload 4, 2) rfl
theorem dX8_distance_38 : decode cX8_distance 38 = .ok (.iadd, 1) := tb_d tk_X8_distance_1 26 (38, .iadd, 1) rfl
theorem dX8_distance_39 : decode cX8_distance 39 = .ok (.iaload, 1) := tb_d tk_X8_distance_1 27 (39, .iaload, 1) rfl
theorem dX8_distance_40 : decode cX8_distance 40 = .ok (.if_icmp .ne 7, 3) := tb_d tk_X8_distance_1 28 (40, .if_icmp .ne 7, 3) rfl
theorem dX8_distance_43 : decode cX8_distance 43 = .ok (.iconst 0, 1) := tb_d tk_X8_distance_1 29 (43, .iconst 0, 1) rfl
theorem dX8_distance_44 : decode cX8_distance 44 = .ok (.goto 4, 3) := tb_d tk_X8_distance_1 30 (44, .goto 4, 3) rfl
theorem dX8_distance_47 : decode cX8_distance 47 = .ok (.iconst 1, 1) := tb_d tk_X8_distance_1 31 (47, .iconst 1, 1) rfl
theorem dX8_distance_48 : decode cX8_distance 48 = .ok (.iadd, 1) := tb_d tk_X8_distance_1 32 (48, .iadd, 1) rfl
theorem dX8_distance_49 : decode cX8_distance 49 = .ok (.istore_n 3, 1) := tb_d tk_X8_distance_1 33 (49, .istore_n 3, 1) rfl
theorem dX8_distance_50 : decode cX8_distance 50 = .ok (.iinc 4 1, 3) := tb_d tk_X8_distance_1 34 (50, .iinc 4 1, 3) rfl
theorem dX8_distance_53 : decode cX8_distance 53 = .ok (.goto (-48), 3) := tb_d tk_X8_distance_1 35 (53, .goto (-48), 3) rfl
theorem dX8_distance_56 : decode cX8_distance 56 = .ok (.iload_n 3, 1) := tb_d tk_X8_distance_1 36 (56, .iload_n 3, 1) rfl
theorem dX8_distance_57 : decode cX8_distance 57 = .ok (.ireturn, 1) := tb_d tk_X8_distance_1 37 (57, .ireturn, 1) rfl
def tb_X8_lips_1 : List (Nat × Instr × Nat) := [(0, .iconst 0, 1), (1, .istore_n 3, 1), (2, .iconst 0, 1), (3, .istore 4, 2), (5, .iload 4, 2), (7, .iconst 3, 1), (8, .if_icmp .ge 52, 3), (11, .iload_n 3, 1), (12, .aload_n 0, 1), (13, .getfield 25, 3), (16, .bipush 8, 2), (18, .iconst 3, 1), (19, .iload_n 1, 1), (20, .imul, 1), (21, .iadd, 1), (22, .iload 4, 2), (24, .iadd, 1), (25, .iaload, 1), (26, .iconst 5, 1), (27, .irem, 1), (28, .aload_n 0, 1), (29, .getfield 25, 3), (32, .bipush 8, 2), (34, .iconst 3, 1), (35, .iload_n 2, 1), (36, .imul, 1), (37, .iadd, 1), (38, .iload 4, 2), (40, .iadd, 1), (41, .iaload, 1), (42, .iconst 5, 1), (43, .irem, 1), (44, .if_icmp .ne 7, 3), (47, .iconst 1, 1), (48, .goto 4, 3), (51, .iconst 0, 1), (52, .iadd, 1), (53, .istore_n 3, 1), (54, .iinc 4 1, 3), (57, .goto (-52), 3)]
set_option maxRecDepth 100000 in
theorem tk_X8_lips_1 : (tb_X8_lips_1.all fun q => decide (decode cX8_lips q.1 = .ok q.2)) = true := by decide +kernel
theorem dX8_lips_0 : decode cX8_lips 0 = .ok (.iconst 0, 1) := tb_d tk_X8_lips_1 0 (0, .iconst 0, 1) rfl
theorem dX8_lips_1 : decode cX8_lips 1 = .ok (.istore_n 3, 1) := tb_d tk_X8_lips_1 1 (1, .istore_n 3, 1) rfl
theorem dX8_lips_2 : decode cX8_lips 2 = .ok (.iconst 0, 1) := tb_d tk_X8_lips_1 2 (2, .iconst 0, 1) rfl
theorem dX8_lips_3 : decode cX8_lips 3 = .ok (.istore 4, 2) := tb_d tk_X8_lips_1 3 (3, .istore 4, 2) rfl
theorem dX8_lips_5 : decode cX8_lips 5 = .ok (.iload 4, 2) := tb_d tk_X8_lips_1 4 (5, .iload 4, 2) rfl
theorem dX8_lips_7 : decode cX8_lips 7 = .ok (.iconst 3, 1) := tb_d tk_X8_lips_1 5 (7, .iconst 3, 1) rfl
theorem dX8_lips_8 : decode cX8_lips 8 = .ok (.if_icmp .ge 52, 3) := tb_d tk_X8_lips_1 6 (8, .if_icmp .ge 52, 3) rfl
theorem dX8_lips_11 : decode cX8_lips 11 = .ok (.iload_n 3, 1) := tb_d tk_X8_lips_1 7 (11, .iload_n 3, 1) rfl
theorem dX8_lips_12 : decode cX8_lips 12 = .ok (.aload_n 0, 1) := tb_d tk_X8_lips_1 8 (12, .aload_n 0, 1) rfl
theorem dX8_lips_13 : decode cX8_lips 13 = .ok (.getfield 25, 3) := tb_d tk_X8_lips_1 9 (13, .getfield 25, 3) rfl
theorem dX8_lips_16 : decode cX8_lips 16 = .ok (.bipush 8, 2) := tb_d tk_X8_lips_1 10 (16, .bipush 8, 2) rfl
theorem dX8_lips_18 : decode cX8_lips 18 = .ok (.iconst 3, 1) := tb_d tk_X8_lips_1 11 (18, .iconst 3, 1) rfl
theorem dX8_lips_19 : decode cX8_lips 19 = .ok (.iload_n 1, 1) := tb_d tk_X8_lips_1 12 (19, .iload_n 1, 1) rfl
theorem dX8_lips_20 : decode cX8_lips 20 = .ok (.imul, 1) := tb_d tk_X8_lips_1 13 (20, .imul, 1) rfl
theorem dX8_lips_21 : decode cX8_lips 21 = .ok (.iadd, 1) := tb_d tk_X8_lips_1 14 (21, .iadd, 1) rfl
theorem dX8_lips_22 : decode cX8_lips 22 = .ok (.iload 4, 2) := tb_d tk_X8_lips_1 15 (22, .iload 4, 2) rfl
theorem dX8_lips_24 : decode cX8_lips 24 = .ok (.iadd, 1) := tb_d tk_X8_lips_1 16 (24, .iadd, 1) rfl
theorem dX8_lips_25 : decode cX8_lips 25 = .ok (.iaload, 1) := tb_d tk_X8_lips_1 17 (25, .iaload, 1) rfl
theorem dX8_lips_26 : decode cX8_lips 26 = .ok (.iconst 5, 1) := tb_d tk_X8_lips_1 18 (26, .iconst 5, 1) rfl
theorem dX8_lips_27 : decode cX8_lips 27 = .ok (.irem, 1) := tb_d tk_X8_lips_1 19 (27, .irem, 1) rfl
theorem dX8_lips_28 : decode cX8_lips 28 = .ok (.aload_n 0, 1) := tb_d tk_X8_lips_1 20 (28, .aload_n 0, 1) rfl
theorem dX8_lips_29 : decode cX8_lips 29 = .ok (.getfield 25, 3) := tb_d tk_X8_lips_1 21 (29, .getfield 25, 3) rfl
theorem dX8_lips_32 : decode cX8_lips 32 = .ok (.bipush 8, 2) := tb_d tk_X8_lips_1 22 (32, .bipush 8, 2) rfl
theorem dX8_lips_34 : decode cX8_lips 34 = .ok (.iconst 3, 1) := tb_d tk_X8_lips_1 23 (34, .iconst 3, 1) rfl
theorem dX8_lips_35 : decode cX8_lips 35 = .ok (.iload_n 2, 1) := tb_d tk_X8_lips_1 24 (35, .iload_n 2, 1) rfl
theorem dX8_lips_36 : decode cX8_lips 36 = .ok (.imul, 1) := tb_d tk_X8_lips_1 25 (36, .imul, 1) rfl
theorem dX8_lips_37 : decode cX8_lips 37 = .ok (.iadd, 1) := tb_d tk_X8_lips_1 26 (37, .iadd, 1) rfl
theorem dX8_lips_38 : decode cX8_lips 38 = .ok (.iload 4, 2) := tb_d tk_X8_lips_1 27 (38, .iload 4, 2) rfl
theorem dX8_lips_40 : decode cX8_lips 40 = .ok (.iadd, 1) := tb_d tk_X8_lips_1 28 (40, .iadd, 1) rfl
theorem dX8_lips_41 : decode cX8_lips 41 = .ok (.iaload, 1) := tb_d tk_X8_lips_1 29 (41, .iaload, 1) rfl
theorem dX8_lips_42 : decode cX8_lips 42 = .ok (.iconst 5, 1) := tb_d tk_X8_lips_1 30 (42, .iconst 5, 1) rfl
theorem dX8_lips_43 : decode cX8_lips 43 = .ok (.irem, 1) := tb_d tk_X8_lips_1 31 (43, .irem, 1) rfl
theorem dX8_lips_44 : decode cX8_lips 44 = .ok (.if_icmp .ne 7, 3) := tb_d tk_X8_lips_1 32 (44, .if_icmp .ne 7, 3) rfl
theorem dX8_lips_47 : decode cX8_lips 47 = .ok (.iconst 1, 1) := tb_d tk_X8_lips_1 33 (47, .iconst 1, 1) rfl
theorem dX8_lips_48 : decode cX8_lips 48 = .ok (.goto 4, 3) := tb_d tk_X8_lips_1 34 (48, .goto 4, 3) rfl
theorem dX8_lips_51 : decode cX8_lips 51 = .ok (.iconst 0, 1) := tb_d tk_X8_lips_1 35 (51, .iconst 0, 1) rfl
theorem dX8_lips_52 : decode cX8_lips 52 = .ok (.iadd, 1) := tb_d tk_X8_lips_1 36 (52, .iadd, 1) rfl
theorem dX8_lips_53 : decode cX8_lips 53 = .ok (.istore_n 3, 1) := tb_d tk_X8_lips_1 37 (53, .istore_n 3, 1) rfl
theorem dX8_lips_54 : decode cX8_lips 54 = .ok (.iinc 4 1, 3) := tb_d tk_X8_lips_1 38 (54, .iinc 4 1, 3) rfl
theorem dX8_lips_57 : decode cX8_lips 57 = .ok (.goto (-52), 3) := tb_d tk_X8_lips_1 39 (57, .goto (-52), 3) rfl
def tb_X8_lips_2 : List (Nat × Instr × Nat) := [(60, .iload_n 3, 1), (61, .ireturn, 1)]
set_option maxRecDepth 100000 in
theorem tk_X8_lips_2 : (tb_X8_lips_2.all fun q => decide (decode cX8_lips q.1 = .ok q.2)) = true := by decide +kernel
theorem dX8_lips_60 : decode cX8_lips 60 = .ok (.iload_n 3, 1) := tb_d tk_X8_lips_2 0 (60, .iload_n 3, 1) rfl
theorem dX8_lips_61 : decode cX8_lips 61 = .ok (.ireturn, 1) := tb_d tk_X8_lips_2 1 (61, .ireturn, 1) rfl
theorem ggX8_takesBy_X8_distance : GoodIn wsX8_takesBy wsX8_distance := fun w h => ⟨List.mem_cons_of_mem _ (List.mem_append_right _ (List.mem_append_right _ (List.mem_append_left _ h))), good_of_word (gdX8_distance w h)⟩
set_option maxRecDepth 20000 in
theorem gX8_takesBy_X8_distance : GoodIn wsX8_takesBy (wsV RX8 152 RX8 yX8_distance wsX8_distance) := goodIn_app (goodIn_of _ (by decide +kernel)) ggX8_takesBy_X8_distance
theorem ggX8_takesBy_X8_lips : GoodIn wsX8_takesBy wsX8_lips := fun w h => ⟨List.mem_cons_of_mem _ (List.mem_append_right _ (List.mem_append_right _ (List.mem_append_right _ (List.mem_append_left _ h)))), good_of_word (gdX8_lips w h)⟩
set_option maxRecDepth 20000 in
theorem gX8_takesBy_X8_lips : GoodIn wsX8_takesBy (wsV RX8 155 RX8 yX8_lips wsX8_lips) := goodIn_app (goodIn_of _ (by decide +kernel)) ggX8_takesBy_X8_lips
def tb_X8_takesBy_1 : List (Nat × Instr × Nat) := [(0, .iload_n 1, 1), (1, .tableswitch 100 1 4 #[31, 46, 62, 84], 31), (32, .aload_n 0, 1), (33, .iload_n 2, 1), (34, .iload_n 3, 1), (35, .invokevirtual 152, 3), (38, .ifCond .ne 7, 3), (41, .iconst 1, 1), (42, .goto 4, 3), (45, .iconst 0, 1), (46, .ireturn, 1), (47, .aload_n 0, 1), (48, .iload_n 2, 1), (49, .iload_n 3, 1), (50, .invokevirtual 152, 3), (53, .iconst 2, 1), (54, .if_icmp .ge 7, 3), (57, .iconst 1, 1), (58, .goto 4, 3), (61, .iconst 0, 1), (62, .ireturn, 1), (63, .aload_n 0, 1), (64, .iload_n 2, 1), (65, .iload_n 3, 1), (66, .invokevirtual 152, 3), (69, .ifCond .ne 14, 3), (72, .iload 4, 2), (74, .iconst 2, 1), (75, .irem, 1), (76, .ifCond .ne 7, 3), (79, .iconst 1, 1), (80, .goto 4, 3), (83, .iconst 0, 1), (84, .ireturn, 1), (85, .aload_n 0, 1), (86, .iload_n 2, 1), (87, .iload_n 3, 1), (88, .invokevirtual 155, 3), (91, .iconst 3, 1), (92, .if_icmp .ne 7, 3)]
set_option maxRecDepth 100000 in
theorem tk_X8_takesBy_1 : (tb_X8_takesBy_1.all fun q => decide (decode cX8_takesBy q.1 = .ok q.2)) = true := by decide +kernel
theorem dX8_takesBy_0 : decode cX8_takesBy 0 = .ok (.iload_n 1, 1) := tb_d tk_X8_takesBy_1 0 (0, .iload_n 1, 1) rfl
theorem dX8_takesBy_1 : decode cX8_takesBy 1 = .ok (.tableswitch 100 1 4 #[31, 46, 62, 84], 31) := tb_d tk_X8_takesBy_1 1 (1, .tableswitch 100 1 4 #[31, 46, 62, 84], 31) rfl
theorem dX8_takesBy_32 : decode cX8_takesBy 32 = .ok (.aload_n 0, 1) := tb_d tk_X8_takesBy_1 2 (32, .aload_n 0, 1) rfl
theorem dX8_takesBy_33 : decode cX8_takesBy 33 = .ok (.iload_n 2, 1) := tb_d tk_X8_takesBy_1 3 (33, .iload_n 2, 1) rfl
theorem dX8_takesBy_34 : decode cX8_takesBy 34 = .ok (.iload_n 3, 1) := tb_d tk_X8_takesBy_1 4 (34, .iload_n 3, 1) rfl
theorem dX8_takesBy_35 : decode cX8_takesBy 35 = .ok (.invokevirtual 152, 3) := tb_d tk_X8_takesBy_1 5 (35, .invokevirtual 152, 3) rfl
theorem dX8_takesBy_38 : decode cX8_takesBy 38 = .ok (.ifCond .ne 7, 3) := tb_d tk_X8_takesBy_1 6 (38, .ifCond .ne 7, 3) rfl
theorem dX8_takesBy_41 : decode cX8_takesBy 41 = .ok (.iconst 1, 1) := tb_d tk_X8_takesBy_1 7 (41, .iconst 1, 1) rfl
theorem dX8_takesBy_42 : decode cX8_takesBy 42 = .ok (.goto 4, 3) := tb_d tk_X8_takesBy_1 8 (42, .goto 4, 3) rfl
theorem dX8_takesBy_45 : decode cX8_takesBy 45 = .ok (.iconst 0, 1) := tb_d tk_X8_takesBy_1 9 (45, .iconst 0, 1) rfl
theorem dX8_takesBy_46 : decode cX8_takesBy 46 = .ok (.ireturn, 1) := tb_d tk_X8_takesBy_1 10 (46, .ireturn, 1) rfl
theorem dX8_takesBy_47 : decode cX8_takesBy 47 = .ok (.aload_n 0, 1) := tb_d tk_X8_takesBy_1 11 (47, .aload_n 0, 1) rfl
theorem dX8_takesBy_48 : decode cX8_takesBy 48 = .ok (.iload_n 2, 1) := tb_d tk_X8_takesBy_1 12 (48, .iload_n 2, 1) rfl
theorem dX8_takesBy_49 : decode cX8_takesBy 49 = .ok (.iload_n 3, 1) := tb_d tk_X8_takesBy_1 13 (49, .iload_n 3, 1) rfl
theorem dX8_takesBy_50 : decode cX8_takesBy 50 = .ok (.invokevirtual 152, 3) := tb_d tk_X8_takesBy_1 14 (50, .invokevirtual 152, 3) rfl
theorem dX8_takesBy_53 : decode cX8_takesBy 53 = .ok (.iconst 2, 1) := tb_d tk_X8_takesBy_1 15 (53, .iconst 2, 1) rfl
theorem dX8_takesBy_54 : decode cX8_takesBy 54 = .ok (.if_icmp .ge 7, 3) := tb_d tk_X8_takesBy_1 16 (54, .if_icmp .ge 7, 3) rfl
theorem dX8_takesBy_57 : decode cX8_takesBy 57 = .ok (.iconst 1, 1) := tb_d tk_X8_takesBy_1 17 (57, .iconst 1, 1) rfl
theorem dX8_takesBy_58 : decode cX8_takesBy 58 = .ok (.goto 4, 3) := tb_d tk_X8_takesBy_1 18 (58, .goto 4, 3) rfl
theorem dX8_takesBy_61 : decode cX8_takesBy 61 = .ok (.iconst 0, 1) := tb_d tk_X8_takesBy_1 19 (61, .iconst 0, 1) rfl
theorem dX8_takesBy_62 : decode cX8_takesBy 62 = .ok (.ireturn, 1) := tb_d tk_X8_takesBy_1 20 (62, .ireturn, 1) rfl
theorem dX8_takesBy_63 : decode cX8_takesBy 63 = .ok (.aload_n 0, 1) := tb_d tk_X8_takesBy_1 21 (63, .aload_n 0, 1) rfl
theorem dX8_takesBy_64 : decode cX8_takesBy 64 = .ok (.iload_n 2, 1) := tb_d tk_X8_takesBy_1 22 (64, .iload_n 2, 1) rfl
theorem dX8_takesBy_65 : decode cX8_takesBy 65 = .ok (.iload_n 3, 1) := tb_d tk_X8_takesBy_1 23 (65, .iload_n 3, 1) rfl
theorem dX8_takesBy_66 : decode cX8_takesBy 66 = .ok (.invokevirtual 152, 3) := tb_d tk_X8_takesBy_1 24 (66, .invokevirtual 152, 3) rfl
theorem dX8_takesBy_69 : decode cX8_takesBy 69 = .ok (.ifCond .ne 14, 3) := tb_d tk_X8_takesBy_1 25 (69, .ifCond .ne 14, 3) rfl
theorem dX8_takesBy_72 : decode cX8_takesBy 72 = .ok (.iload 4, 2) := tb_d tk_X8_takesBy_1 26 (72, .iload 4, 2) rfl
theorem dX8_takesBy_74 : decode cX8_takesBy 74 = .ok (.iconst 2, 1) := tb_d tk_X8_takesBy_1 27 (74, .iconst 2, 1) rfl
theorem dX8_takesBy_75 : decode cX8_takesBy 75 = .ok (.irem, 1) := tb_d tk_X8_takesBy_1 28 (75, .irem, 1) rfl
theorem dX8_takesBy_76 : decode cX8_takesBy 76 = .ok (.ifCond .ne 7, 3) := tb_d tk_X8_takesBy_1 29 (76, .ifCond .ne 7, 3) rfl
theorem dX8_takesBy_79 : decode cX8_takesBy 79 = .ok (.iconst 1, 1) := tb_d tk_X8_takesBy_1 30 (79, .iconst 1, 1) rfl
theorem dX8_takesBy_80 : decode cX8_takesBy 80 = .ok (.goto 4, 3) := tb_d tk_X8_takesBy_1 31 (80, .goto 4, 3) rfl
theorem dX8_takesBy_83 : decode cX8_takesBy 83 = .ok (.iconst 0, 1) := tb_d tk_X8_takesBy_1 32 (83, .iconst 0, 1) rfl
theorem dX8_takesBy_84 : decode cX8_takesBy 84 = .ok (.ireturn, 1) := tb_d tk_X8_takesBy_1 33 (84, .ireturn, 1) rfl
theorem dX8_takesBy_85 : decode cX8_takesBy 85 = .ok (.aload_n 0, 1) := tb_d tk_X8_takesBy_1 34 (85, .aload_n 0, 1) rfl
theorem dX8_takesBy_86 : decode cX8_takesBy 86 = .ok (.iload_n 2, 1) := tb_d tk_X8_takesBy_1 35 (86, .iload_n 2, 1) rfl
theorem dX8_takesBy_87 : decode cX8_takesBy 87 = .ok (.iload_n 3, 1) := tb_d tk_X8_takesBy_1 36 (87, .iload_n 3, 1) rfl
theorem dX8_takesBy_88 : decode cX8_takesBy 88 = .ok (.invokevirtual 155, 3) := tb_d tk_X8_takesBy_1 37 (88, .invokevirtual 155, 3) rfl
theorem dX8_takesBy_91 : decode cX8_takesBy 91 = .ok (.iconst 3, 1) := tb_d tk_X8_takesBy_1 38 (91, .iconst 3, 1) rfl
theorem dX8_takesBy_92 : decode cX8_takesBy 92 = .ok (.if_icmp .ne 7, 3) := tb_d tk_X8_takesBy_1 39 (92, .if_icmp .ne 7, 3) rfl
def tb_X8_takesBy_2 : List (Nat × Instr × Nat) := [(95, .iconst 1, 1), (96, .goto 4, 3), (99, .iconst 0, 1), (100, .ireturn, 1), (101, .aload_n 0, 1), (102, .iload_n 2, 1), (103, .iload_n 3, 1), (104, .invokevirtual 155, 3), (107, .iconst 1, 1), (108, .if_icmp .le 7, 3), (111, .iconst 1, 1), (112, .goto 4, 3), (115, .iconst 0, 1), (116, .ireturn, 1)]
set_option maxRecDepth 100000 in
theorem tk_X8_takesBy_2 : (tb_X8_takesBy_2.all fun q => decide (decode cX8_takesBy q.1 = .ok q.2)) = true := by decide +kernel
theorem dX8_takesBy_95 : decode cX8_takesBy 95 = .ok (.iconst 1, 1) := tb_d tk_X8_takesBy_2 0 (95, .iconst 1, 1) rfl
theorem dX8_takesBy_96 : decode cX8_takesBy 96 = .ok (.goto 4, 3) := tb_d tk_X8_takesBy_2 1 (96, .goto 4, 3) rfl
theorem dX8_takesBy_99 : decode cX8_takesBy 99 = .ok (.iconst 0, 1) := tb_d tk_X8_takesBy_2 2 (99, .iconst 0, 1) rfl
theorem dX8_takesBy_100 : decode cX8_takesBy 100 = .ok (.ireturn, 1) := tb_d tk_X8_takesBy_2 3 (100, .ireturn, 1) rfl
theorem dX8_takesBy_101 : decode cX8_takesBy 101 = .ok (.aload_n 0, 1) := tb_d tk_X8_takesBy_2 4 (101, .aload_n 0, 1) rfl
theorem dX8_takesBy_102 : decode cX8_takesBy 102 = .ok (.iload_n 2, 1) := tb_d tk_X8_takesBy_2 5 (102, .iload_n 2, 1) rfl
theorem dX8_takesBy_103 : decode cX8_takesBy 103 = .ok (.iload_n 3, 1) := tb_d tk_X8_takesBy_2 6 (103, .iload_n 3, 1) rfl
theorem dX8_takesBy_104 : decode cX8_takesBy 104 = .ok (.invokevirtual 155, 3) := tb_d tk_X8_takesBy_2 7 (104, .invokevirtual 155, 3) rfl
theorem dX8_takesBy_107 : decode cX8_takesBy 107 = .ok (.iconst 1, 1) := tb_d tk_X8_takesBy_2 8 (107, .iconst 1, 1) rfl
theorem dX8_takesBy_108 : decode cX8_takesBy 108 = .ok (.if_icmp .le 7, 3) := tb_d tk_X8_takesBy_2 9 (108, .if_icmp .le 7, 3) rfl
theorem dX8_takesBy_111 : decode cX8_takesBy 111 = .ok (.iconst 1, 1) := tb_d tk_X8_takesBy_2 10 (111, .iconst 1, 1) rfl
theorem dX8_takesBy_112 : decode cX8_takesBy 112 = .ok (.goto 4, 3) := tb_d tk_X8_takesBy_2 11 (112, .goto 4, 3) rfl
theorem dX8_takesBy_115 : decode cX8_takesBy 115 = .ok (.iconst 0, 1) := tb_d tk_X8_takesBy_2 12 (115, .iconst 0, 1) rfl
theorem dX8_takesBy_116 : decode cX8_takesBy 116 = .ok (.ireturn, 1) := tb_d tk_X8_takesBy_2 13 (116, .ireturn, 1) rfl
def tb_X8_guardOn_1 : List (Nat × Instr × Nat) := [(0, .iload_n 2, 1), (1, .iload_n 1, 1), (2, .iadd, 1), (3, .aload_n 0, 1), (4, .getfield 25, 3), (7, .iconst 4, 1), (8, .iaload, 1), (9, .irem, 1), (10, .ireturn, 1)]
set_option maxRecDepth 100000 in
theorem tk_X8_guardOn_1 : (tb_X8_guardOn_1.all fun q => decide (decode cX8_guardOn q.1 = .ok q.2)) = true := by decide +kernel
theorem dX8_guardOn_0 : decode cX8_guardOn 0 = .ok (.iload_n 2, 1) := tb_d tk_X8_guardOn_1 0 (0, .iload_n 2, 1) rfl
theorem dX8_guardOn_1 : decode cX8_guardOn 1 = .ok (.iload_n 1, 1) := tb_d tk_X8_guardOn_1 1 (1, .iload_n 1, 1) rfl
theorem dX8_guardOn_2 : decode cX8_guardOn 2 = .ok (.iadd, 1) := tb_d tk_X8_guardOn_1 2 (2, .iadd, 1) rfl
theorem dX8_guardOn_3 : decode cX8_guardOn 3 = .ok (.aload_n 0, 1) := tb_d tk_X8_guardOn_1 3 (3, .aload_n 0, 1) rfl
theorem dX8_guardOn_4 : decode cX8_guardOn 4 = .ok (.getfield 25, 3) := tb_d tk_X8_guardOn_1 4 (4, .getfield 25, 3) rfl
theorem dX8_guardOn_7 : decode cX8_guardOn 7 = .ok (.iconst 4, 1) := tb_d tk_X8_guardOn_1 5 (7, .iconst 4, 1) rfl
theorem dX8_guardOn_8 : decode cX8_guardOn 8 = .ok (.iaload, 1) := tb_d tk_X8_guardOn_1 6 (8, .iaload, 1) rfl
theorem dX8_guardOn_9 : decode cX8_guardOn 9 = .ok (.irem, 1) := tb_d tk_X8_guardOn_1 7 (9, .irem, 1) rfl
theorem dX8_guardOn_10 : decode cX8_guardOn 10 = .ok (.ireturn, 1) := tb_d tk_X8_guardOn_1 8 (10, .ireturn, 1) rfl
def tb_X8_kindIn_1 : List (Nat × Instr × Nat) := [(0, .aload_n 0, 1), (1, .getfield 25, 3), (4, .bipush 26, 2), (6, .iconst 3, 1), (7, .iload_n 1, 1), (8, .imul, 1), (9, .iadd, 1), (10, .iaload, 1), (11, .ireturn, 1)]
set_option maxRecDepth 100000 in
theorem tk_X8_kindIn_1 : (tb_X8_kindIn_1.all fun q => decide (decode cX8_kindIn q.1 = .ok q.2)) = true := by decide +kernel
theorem dX8_kindIn_0 : decode cX8_kindIn 0 = .ok (.aload_n 0, 1) := tb_d tk_X8_kindIn_1 0 (0, .aload_n 0, 1) rfl
theorem dX8_kindIn_1 : decode cX8_kindIn 1 = .ok (.getfield 25, 3) := tb_d tk_X8_kindIn_1 1 (1, .getfield 25, 3) rfl
theorem dX8_kindIn_4 : decode cX8_kindIn 4 = .ok (.bipush 26, 2) := tb_d tk_X8_kindIn_1 2 (4, .bipush 26, 2) rfl
theorem dX8_kindIn_6 : decode cX8_kindIn 6 = .ok (.iconst 3, 1) := tb_d tk_X8_kindIn_1 3 (6, .iconst 3, 1) rfl
theorem dX8_kindIn_7 : decode cX8_kindIn 7 = .ok (.iload_n 1, 1) := tb_d tk_X8_kindIn_1 4 (7, .iload_n 1, 1) rfl
theorem dX8_kindIn_8 : decode cX8_kindIn 8 = .ok (.imul, 1) := tb_d tk_X8_kindIn_1 5 (8, .imul, 1) rfl
theorem dX8_kindIn_9 : decode cX8_kindIn 9 = .ok (.iadd, 1) := tb_d tk_X8_kindIn_1 6 (9, .iadd, 1) rfl
theorem dX8_kindIn_10 : decode cX8_kindIn 10 = .ok (.iaload, 1) := tb_d tk_X8_kindIn_1 7 (10, .iaload, 1) rfl
theorem dX8_kindIn_11 : decode cX8_kindIn 11 = .ok (.ireturn, 1) := tb_d tk_X8_kindIn_1 8 (11, .ireturn, 1) rfl
theorem ggX8_isTaken_X8_guardOn : GoodIn wsX8_isTaken wsX8_guardOn := fun w h => ⟨List.mem_cons_of_mem _ (List.mem_append_right _ (List.mem_append_right _ (List.mem_append_left _ h))), good_of_word (gdX8_guardOn w h)⟩
set_option maxRecDepth 20000 in
theorem gX8_isTaken_X8_guardOn : GoodIn wsX8_isTaken (wsV RX8 158 RX8 yX8_guardOn wsX8_guardOn) := goodIn_app (goodIn_of _ (by decide +kernel)) ggX8_isTaken_X8_guardOn
theorem ggX8_isTaken_X8_has : GoodIn wsX8_isTaken wsX8_has := fun w h => ⟨List.mem_cons_of_mem _ (List.mem_append_right _ (List.mem_append_right _ (List.mem_append_right _ (List.mem_append_left _ h)))), good_of_word (gdX8_has w h)⟩
set_option maxRecDepth 20000 in
theorem gX8_isTaken_X8_has : GoodIn wsX8_isTaken (va_wsS RX8 161 yX8_has wsX8_has) := goodIn_app (goodIn_of _ (by decide +kernel)) ggX8_isTaken_X8_has
theorem ggX8_isTaken_X8_kindIn : GoodIn wsX8_isTaken wsX8_kindIn := fun w h => ⟨List.mem_cons_of_mem _ (List.mem_append_right _ (List.mem_append_right _ (List.mem_append_right _ (List.mem_append_right _ (List.mem_append_left _ h))))), good_of_word (gdX8_kindIn w h)⟩
set_option maxRecDepth 20000 in
theorem gX8_isTaken_X8_kindIn : GoodIn wsX8_isTaken (wsV RX8 165 RX8 yX8_kindIn wsX8_kindIn) := goodIn_app (goodIn_of _ (by decide +kernel)) ggX8_isTaken_X8_kindIn
theorem ggX8_isTaken_X8_takesBy : GoodIn wsX8_isTaken wsX8_takesBy := fun w h => ⟨List.mem_cons_of_mem _ (List.mem_append_right _ (List.mem_append_right _ (List.mem_append_right _ (List.mem_append_right _ (List.mem_append_right _ (List.mem_append_left _ h)))))), good_of_word (gdX8_takesBy w h)⟩
set_option maxRecDepth 20000 in
theorem gX8_isTaken_X8_takesBy : GoodIn wsX8_isTaken (wsV RX8 168 RX8 yX8_takesBy wsX8_takesBy) := goodIn_app (goodIn_of _ (by decide +kernel)) ggX8_isTaken_X8_takesBy
def tb_X8_isTaken_1 : List (Nat × Instr × Nat) := [(0, .aload_n 0, 1), (1, .iload_n 2, 1), (2, .iload_n 3, 1), (3, .invokevirtual 158, 3), (6, .istore 6, 2), (8, .iload 4, 2), (10, .iload 6, 2), (12, .invokestatic 161, 3), (15, .ifCond .eq 24, 3), (18, .aload_n 0, 1), (19, .aload_n 0, 1), (20, .iload 6, 2), (22, .invokevirtual 165, 3), (25, .iload_n 1, 1), (26, .iload 5, 2), (28, .iload_n 3, 1), (29, .invokevirtual 168, 3), (32, .ifCond .eq 7, 3), (35, .iconst 1, 1), (36, .goto 4, 3), (39, .iconst 0, 1), (40, .ireturn, 1)]
set_option maxRecDepth 100000 in
theorem tk_X8_isTaken_1 : (tb_X8_isTaken_1.all fun q => decide (decode cX8_isTaken q.1 = .ok q.2)) = true := by decide +kernel
theorem dX8_isTaken_0 : decode cX8_isTaken 0 = .ok (.aload_n 0, 1) := tb_d tk_X8_isTaken_1 0 (0, .aload_n 0, 1) rfl
theorem dX8_isTaken_1 : decode cX8_isTaken 1 = .ok (.iload_n 2, 1) := tb_d tk_X8_isTaken_1 1 (1, .iload_n 2, 1) rfl
theorem dX8_isTaken_2 : decode cX8_isTaken 2 = .ok (.iload_n 3, 1) := tb_d tk_X8_isTaken_1 2 (2, .iload_n 3, 1) rfl
theorem dX8_isTaken_3 : decode cX8_isTaken 3 = .ok (.invokevirtual 158, 3) := tb_d tk_X8_isTaken_1 3 (3, .invokevirtual 158, 3) rfl
theorem dX8_isTaken_6 : decode cX8_isTaken 6 = .ok (.istore 6, 2) := tb_d tk_X8_isTaken_1 4 (6, .istore 6, 2) rfl
theorem dX8_isTaken_8 : decode cX8_isTaken 8 = .ok (.iload 4, 2) := tb_d tk_X8_isTaken_1 5 (8, .iload 4, 2) rfl
theorem dX8_isTaken_10 : decode cX8_isTaken 10 = .ok (.iload 6, 2) := tb_d tk_X8_isTaken_1 6 (10, .iload 6, 2) rfl
theorem dX8_isTaken_12 : decode cX8_isTaken 12 = .ok (.invokestatic 161, 3) := tb_d tk_X8_isTaken_1 7 (12, .invokestatic 161, 3) rfl
theorem dX8_isTaken_15 : decode cX8_isTaken 15 = .ok (.ifCond .eq 24, 3) := tb_d tk_X8_isTaken_1 8 (15, .ifCond .eq 24, 3) rfl
theorem dX8_isTaken_18 : decode cX8_isTaken 18 = .ok (.aload_n 0, 1) := tb_d tk_X8_isTaken_1 9 (18, .aload_n 0, 1) rfl
theorem dX8_isTaken_19 : decode cX8_isTaken 19 = .ok (.aload_n 0, 1) := tb_d tk_X8_isTaken_1 10 (19, .aload_n 0, 1) rfl
theorem dX8_isTaken_20 : decode cX8_isTaken 20 = .ok (.iload 6, 2) := tb_d tk_X8_isTaken_1 11 (20, .iload 6, 2) rfl
theorem dX8_isTaken_22 : decode cX8_isTaken 22 = .ok (.invokevirtual 165, 3) := tb_d tk_X8_isTaken_1 12 (22, .invokevirtual 165, 3) rfl
theorem dX8_isTaken_25 : decode cX8_isTaken 25 = .ok (.iload_n 1, 1) := tb_d tk_X8_isTaken_1 13 (25, .iload_n 1, 1) rfl
theorem dX8_isTaken_26 : decode cX8_isTaken 26 = .ok (.iload 5, 2) := tb_d tk_X8_isTaken_1 14 (26, .iload 5, 2) rfl
theorem dX8_isTaken_28 : decode cX8_isTaken 28 = .ok (.iload_n 3, 1) := tb_d tk_X8_isTaken_1 15 (28, .iload_n 3, 1) rfl
theorem dX8_isTaken_29 : decode cX8_isTaken 29 = .ok (.invokevirtual 168, 3) := tb_d tk_X8_isTaken_1 16 (29, .invokevirtual 168, 3) rfl
theorem dX8_isTaken_32 : decode cX8_isTaken 32 = .ok (.ifCond .eq 7, 3) := tb_d tk_X8_isTaken_1 17 (32, .ifCond .eq 7, 3) rfl
theorem dX8_isTaken_35 : decode cX8_isTaken 35 = .ok (.iconst 1, 1) := tb_d tk_X8_isTaken_1 18 (35, .iconst 1, 1) rfl
theorem dX8_isTaken_36 : decode cX8_isTaken 36 = .ok (.goto 4, 3) := tb_d tk_X8_isTaken_1 19 (36, .goto 4, 3) rfl
theorem dX8_isTaken_39 : decode cX8_isTaken 39 = .ok (.iconst 0, 1) := tb_d tk_X8_isTaken_1 20 (39, .iconst 0, 1) rfl
theorem dX8_isTaken_40 : decode cX8_isTaken 40 = .ok (.ireturn, 1) := tb_d tk_X8_isTaken_1 21 (40, .ireturn, 1) rfl
theorem ggX8_isTakenNow_X8_secretOf : GoodIn wsX8_isTakenNow wsX8_secretOf := fun w h => ⟨List.mem_cons_of_mem _ (List.mem_append_right _ (List.mem_append_right _ (List.mem_append_left _ h))), good_of_word (gdX8_secretOf w h)⟩
set_option maxRecDepth 20000 in
theorem gX8_isTakenNow_X8_secretOf : GoodIn wsX8_isTakenNow (va_wsS RX8 172 yX8_secretOf wsX8_secretOf) := goodIn_app (goodIn_of _ (by decide +kernel)) ggX8_isTakenNow_X8_secretOf
theorem ggX8_isTakenNow_X8_isTaken : GoodIn wsX8_isTakenNow wsX8_isTaken := fun w h => ⟨List.mem_cons_of_mem _ (List.mem_append_right _ (List.mem_append_right _ (List.mem_append_right _ (List.mem_append_left _ h)))), good_of_word (gdX8_isTaken w h)⟩
set_option maxRecDepth 20000 in
theorem gX8_isTakenNow_X8_isTaken : GoodIn wsX8_isTakenNow (wsV RX8 176 RX8 yX8_isTaken wsX8_isTaken) := goodIn_app (goodIn_of _ (by decide +kernel)) ggX8_isTakenNow_X8_isTaken
def tb_X8_isTakenNow_1 : List (Nat × Instr × Nat) := [(0, .aload_n 0, 1), (1, .getfield 25, 3), (4, .iconst 5, 1), (5, .iaload, 1), (6, .iload_n 3, 1), (7, .iadd, 1), (8, .istore 4, 2), (10, .aload_n 0, 1), (11, .iload_n 1, 1), (12, .iload_n 2, 1), (13, .iload 4, 2), (15, .aload_n 0, 1), (16, .getfield 25, 3), (19, .bipush 6, 2), (21, .iaload, 1), (22, .aload_n 0, 1), (23, .getfield 25, 3), (26, .iload 4, 2), (28, .invokestatic 172, 3), (31, .invokevirtual 176, 3), (34, .ireturn, 1)]
set_option maxRecDepth 100000 in
theorem tk_X8_isTakenNow_1 : (tb_X8_isTakenNow_1.all fun q => decide (decode cX8_isTakenNow q.1 = .ok q.2)) = true := by decide +kernel
theorem dX8_isTakenNow_0 : decode cX8_isTakenNow 0 = .ok (.aload_n 0, 1) := tb_d tk_X8_isTakenNow_1 0 (0, .aload_n 0, 1) rfl
theorem dX8_isTakenNow_1 : decode cX8_isTakenNow 1 = .ok (.getfield 25, 3) := tb_d tk_X8_isTakenNow_1 1 (1, .getfield 25, 3) rfl
theorem dX8_isTakenNow_4 : decode cX8_isTakenNow 4 = .ok (.iconst 5, 1) := tb_d tk_X8_isTakenNow_1 2 (4, .iconst 5, 1) rfl
theorem dX8_isTakenNow_5 : decode cX8_isTakenNow 5 = .ok (.iaload, 1) := tb_d tk_X8_isTakenNow_1 3 (5, .iaload, 1) rfl
theorem dX8_isTakenNow_6 : decode cX8_isTakenNow 6 = .ok (.iload_n 3, 1) := tb_d tk_X8_isTakenNow_1 4 (6, .iload_n 3, 1) rfl
theorem dX8_isTakenNow_7 : decode cX8_isTakenNow 7 = .ok (.iadd, 1) := tb_d tk_X8_isTakenNow_1 5 (7, .iadd, 1) rfl
theorem dX8_isTakenNow_8 : decode cX8_isTakenNow 8 = .ok (.istore 4, 2) := tb_d tk_X8_isTakenNow_1 6 (8, .istore 4, 2) rfl
theorem dX8_isTakenNow_10 : decode cX8_isTakenNow 10 = .ok (.aload_n 0, 1) := tb_d tk_X8_isTakenNow_1 7 (10, .aload_n 0, 1) rfl
theorem dX8_isTakenNow_11 : decode cX8_isTakenNow 11 = .ok (.iload_n 1, 1) := tb_d tk_X8_isTakenNow_1 8 (11, .iload_n 1, 1) rfl
theorem dX8_isTakenNow_12 : decode cX8_isTakenNow 12 = .ok (.iload_n 2, 1) := tb_d tk_X8_isTakenNow_1 9 (12, .iload_n 2, 1) rfl
theorem dX8_isTakenNow_13 : decode cX8_isTakenNow 13 = .ok (.iload 4, 2) := tb_d tk_X8_isTakenNow_1 10 (13, .iload 4, 2) rfl
theorem dX8_isTakenNow_15 : decode cX8_isTakenNow 15 = .ok (.aload_n 0, 1) := tb_d tk_X8_isTakenNow_1 11 (15, .aload_n 0, 1) rfl
theorem dX8_isTakenNow_16 : decode cX8_isTakenNow 16 = .ok (.getfield 25, 3) := tb_d tk_X8_isTakenNow_1 12 (16, .getfield 25, 3) rfl
theorem dX8_isTakenNow_19 : decode cX8_isTakenNow 19 = .ok (.bipush 6, 2) := tb_d tk_X8_isTakenNow_1 13 (19, .bipush 6, 2) rfl
theorem dX8_isTakenNow_21 : decode cX8_isTakenNow 21 = .ok (.iaload, 1) := tb_d tk_X8_isTakenNow_1 14 (21, .iaload, 1) rfl
theorem dX8_isTakenNow_22 : decode cX8_isTakenNow 22 = .ok (.aload_n 0, 1) := tb_d tk_X8_isTakenNow_1 15 (22, .aload_n 0, 1) rfl
theorem dX8_isTakenNow_23 : decode cX8_isTakenNow 23 = .ok (.getfield 25, 3) := tb_d tk_X8_isTakenNow_1 16 (23, .getfield 25, 3) rfl
theorem dX8_isTakenNow_26 : decode cX8_isTakenNow 26 = .ok (.iload 4, 2) := tb_d tk_X8_isTakenNow_1 17 (26, .iload 4, 2) rfl
theorem dX8_isTakenNow_28 : decode cX8_isTakenNow 28 = .ok (.invokestatic 172, 3) := tb_d tk_X8_isTakenNow_1 18 (28, .invokestatic 172, 3) rfl
theorem dX8_isTakenNow_31 : decode cX8_isTakenNow 31 = .ok (.invokevirtual 176, 3) := tb_d tk_X8_isTakenNow_1 19 (31, .invokevirtual 176, 3) rfl
theorem dX8_isTakenNow_34 : decode cX8_isTakenNow 34 = .ok (.ireturn, 1) := tb_d tk_X8_isTakenNow_1 20 (34, .ireturn, 1) rfl
theorem ggX8_notes_X8_copies : GoodIn wsX8_notes wsX8_copies := fun w h => ⟨List.mem_cons_of_mem _ (List.mem_append_right _ (List.mem_append_right _ (List.mem_append_left _ h))), good_of_word (gdX8_copies w h)⟩
set_option maxRecDepth 20000 in
theorem gX8_notes_X8_copies : GoodIn wsX8_notes (va_wsS RX8 145 yX8_copies wsX8_copies) := goodIn_app (goodIn_of _ (by decide +kernel)) ggX8_notes_X8_copies
def tb_X8_notes_1 : List (Nat × Instr × Nat) := [(0, .aload_n 0, 1), (1, .getfield 149, 3), (4, .bipush 24, 2), (6, .if_icmp .ne 43, 3), (9, .iconst 0, 1), (10, .istore_n 1, 1), (11, .iload_n 1, 1), (12, .sipush 1495, 3), (15, .if_icmp .ge 24, 3), (18, .aload_n 0, 1), (19, .getfield 34, 3), (22, .iload_n 1, 1), (23, .aload_n 0, 1), (24, .getfield 34, 3), (27, .iload_n 1, 1), (28, .bipush 65, 2), (30, .iadd, 1), (31, .iaload, 1), (32, .iastore, 1), (33, .iinc 1 1, 3), (36, .goto (-25), 3), (39, .aload_n 0, 1), (40, .dup, 1), (41, .getfield 149, 3), (44, .iconst 1, 1), (45, .isub, 1), (46, .putfield 149, 3), (49, .aload_n 0, 1), (50, .getfield 25, 3), (53, .iconst 0, 1), (54, .aload_n 0, 1), (55, .getfield 34, 3), (58, .bipush 65, 2), (60, .aload_n 0, 1), (61, .getfield 149, 3), (64, .imul, 1), (65, .invokestatic 145, 3), (68, .aload_n 0, 1), (69, .dup, 1), (70, .getfield 149, 3)]
set_option maxRecDepth 100000 in
theorem tk_X8_notes_1 : (tb_X8_notes_1.all fun q => decide (decode cX8_notes q.1 = .ok q.2)) = true := by decide +kernel
theorem dX8_notes_0 : decode cX8_notes 0 = .ok (.aload_n 0, 1) := tb_d tk_X8_notes_1 0 (0, .aload_n 0, 1) rfl
theorem dX8_notes_1 : decode cX8_notes 1 = .ok (.getfield 149, 3) := tb_d tk_X8_notes_1 1 (1, .getfield 149, 3) rfl
theorem dX8_notes_4 : decode cX8_notes 4 = .ok (.bipush 24, 2) := tb_d tk_X8_notes_1 2 (4, .bipush 24, 2) rfl
theorem dX8_notes_6 : decode cX8_notes 6 = .ok (.if_icmp .ne 43, 3) := tb_d tk_X8_notes_1 3 (6, .if_icmp .ne 43, 3) rfl
theorem dX8_notes_9 : decode cX8_notes 9 = .ok (.iconst 0, 1) := tb_d tk_X8_notes_1 4 (9, .iconst 0, 1) rfl
theorem dX8_notes_10 : decode cX8_notes 10 = .ok (.istore_n 1, 1) := tb_d tk_X8_notes_1 5 (10, .istore_n 1, 1) rfl
theorem dX8_notes_11 : decode cX8_notes 11 = .ok (.iload_n 1, 1) := tb_d tk_X8_notes_1 6 (11, .iload_n 1, 1) rfl
theorem dX8_notes_12 : decode cX8_notes 12 = .ok (.sipush 1495, 3) := tb_d tk_X8_notes_1 7 (12, .sipush 1495, 3) rfl
theorem dX8_notes_15 : decode cX8_notes 15 = .ok (.if_icmp .ge 24, 3) := tb_d tk_X8_notes_1 8 (15, .if_icmp .ge 24, 3) rfl
theorem dX8_notes_18 : decode cX8_notes 18 = .ok (.aload_n 0, 1) := tb_d tk_X8_notes_1 9 (18, .aload_n 0, 1) rfl
theorem dX8_notes_19 : decode cX8_notes 19 = .ok (.getfield 34, 3) := tb_d tk_X8_notes_1 10 (19, .getfield 34, 3) rfl
theorem dX8_notes_22 : decode cX8_notes 22 = .ok (.iload_n 1, 1) := tb_d tk_X8_notes_1 11 (22, .iload_n 1, 1) rfl
theorem dX8_notes_23 : decode cX8_notes 23 = .ok (.aload_n 0, 1) := tb_d tk_X8_notes_1 12 (23, .aload_n 0, 1) rfl
theorem dX8_notes_24 : decode cX8_notes 24 = .ok (.getfield 34, 3) := tb_d tk_X8_notes_1 13 (24, .getfield 34, 3) rfl
theorem dX8_notes_27 : decode cX8_notes 27 = .ok (.iload_n 1, 1) := tb_d tk_X8_notes_1 14 (27, .iload_n 1, 1) rfl
theorem dX8_notes_28 : decode cX8_notes 28 = .ok (.bipush 65, 2) := tb_d tk_X8_notes_1 15 (28, .bipush 65, 2) rfl
theorem dX8_notes_30 : decode cX8_notes 30 = .ok (.iadd, 1) := tb_d tk_X8_notes_1 16 (30, .iadd, 1) rfl
theorem dX8_notes_31 : decode cX8_notes 31 = .ok (.iaload, 1) := tb_d tk_X8_notes_1 17 (31, .iaload, 1) rfl
theorem dX8_notes_32 : decode cX8_notes 32 = .ok (.iastore, 1) := tb_d tk_X8_notes_1 18 (32, .iastore, 1) rfl
theorem dX8_notes_33 : decode cX8_notes 33 = .ok (.iinc 1 1, 3) := tb_d tk_X8_notes_1 19 (33, .iinc 1 1, 3) rfl
theorem dX8_notes_36 : decode cX8_notes 36 = .ok (.goto (-25), 3) := tb_d tk_X8_notes_1 20 (36, .goto (-25), 3) rfl
theorem dX8_notes_39 : decode cX8_notes 39 = .ok (.aload_n 0, 1) := tb_d tk_X8_notes_1 21 (39, .aload_n 0, 1) rfl
theorem dX8_notes_40 : decode cX8_notes 40 = .ok (.dup, 1) := tb_d tk_X8_notes_1 22 (40, .dup, 1) rfl
theorem dX8_notes_41 : decode cX8_notes 41 = .ok (.getfield 149, 3) := tb_d tk_X8_notes_1 23 (41, .getfield 149, 3) rfl
theorem dX8_notes_44 : decode cX8_notes 44 = .ok (.iconst 1, 1) := tb_d tk_X8_notes_1 24 (44, .iconst 1, 1) rfl
theorem dX8_notes_45 : decode cX8_notes 45 = .ok (.isub, 1) := tb_d tk_X8_notes_1 25 (45, .isub, 1) rfl
theorem dX8_notes_46 : decode cX8_notes 46 = .ok (.putfield 149, 3) := tb_d tk_X8_notes_1 26 (46, .putfield 149, 3) rfl
theorem dX8_notes_49 : decode cX8_notes 49 = .ok (.aload_n 0, 1) := tb_d tk_X8_notes_1 27 (49, .aload_n 0, 1) rfl
theorem dX8_notes_50 : decode cX8_notes 50 = .ok (.getfield 25, 3) := tb_d tk_X8_notes_1 28 (50, .getfield 25, 3) rfl
theorem dX8_notes_53 : decode cX8_notes 53 = .ok (.iconst 0, 1) := tb_d tk_X8_notes_1 29 (53, .iconst 0, 1) rfl
theorem dX8_notes_54 : decode cX8_notes 54 = .ok (.aload_n 0, 1) := tb_d tk_X8_notes_1 30 (54, .aload_n 0, 1) rfl
theorem dX8_notes_55 : decode cX8_notes 55 = .ok (.getfield 34, 3) := tb_d tk_X8_notes_1 31 (55, .getfield 34, 3) rfl
theorem dX8_notes_58 : decode cX8_notes 58 = .ok (.bipush 65, 2) := tb_d tk_X8_notes_1 32 (58, .bipush 65, 2) rfl
theorem dX8_notes_60 : decode cX8_notes 60 = .ok (.aload_n 0, 1) := tb_d tk_X8_notes_1 33 (60, .aload_n 0, 1) rfl
theorem dX8_notes_61 : decode cX8_notes 61 = .ok (.getfield 149, 3) := tb_d tk_X8_notes_1 34 (61, .getfield 149, 3) rfl
theorem dX8_notes_64 : decode cX8_notes 64 = .ok (.imul, 1) := tb_d tk_X8_notes_1 35 (64, .imul, 1) rfl
theorem dX8_notes_65 : decode cX8_notes 65 = .ok (.invokestatic 145, 3) := tb_d tk_X8_notes_1 36 (65, .invokestatic 145, 3) rfl
theorem dX8_notes_68 : decode cX8_notes 68 = .ok (.aload_n 0, 1) := tb_d tk_X8_notes_1 37 (68, .aload_n 0, 1) rfl
theorem dX8_notes_69 : decode cX8_notes 69 = .ok (.dup, 1) := tb_d tk_X8_notes_1 38 (69, .dup, 1) rfl
theorem dX8_notes_70 : decode cX8_notes 70 = .ok (.getfield 149, 3) := tb_d tk_X8_notes_1 39 (70, .getfield 149, 3) rfl
def tb_X8_notes_2 : List (Nat × Instr × Nat) := [(73, .iconst 1, 1), (74, .iadd, 1), (75, .putfield 149, 3), (78, .return_, 1)]
set_option maxRecDepth 100000 in
theorem tk_X8_notes_2 : (tb_X8_notes_2.all fun q => decide (decode cX8_notes q.1 = .ok q.2)) = true := by decide +kernel
theorem dX8_notes_73 : decode cX8_notes 73 = .ok (.iconst 1, 1) := tb_d tk_X8_notes_2 0 (73, .iconst 1, 1) rfl
theorem dX8_notes_74 : decode cX8_notes 74 = .ok (.iadd, 1) := tb_d tk_X8_notes_2 1 (74, .iadd, 1) rfl
theorem dX8_notes_75 : decode cX8_notes 75 = .ok (.putfield 149, 3) := tb_d tk_X8_notes_2 2 (75, .putfield 149, 3) rfl
theorem dX8_notes_78 : decode cX8_notes 78 = .ok (.return_, 1) := tb_d tk_X8_notes_2 3 (78, .return_, 1) rfl
def tb_X8_forgets_1 : List (Nat × Instr × Nat) := [(0, .bipush 38, 2), (2, .istore_n 1, 1), (3, .iload_n 1, 1), (4, .bipush 65, 2), (6, .if_icmp .ge 16, 3), (9, .aload_n 0, 1), (10, .getfield 25, 3), (13, .iload_n 1, 1), (14, .iconst 0, 1), (15, .iastore, 1), (16, .iinc 1 1, 3), (19, .goto (-16), 3), (22, .aload_n 0, 1), (23, .getfield 25, 3), (26, .bipush 7, 2), (28, .iconst 0, 1), (29, .iastore, 1), (30, .return_, 1)]
set_option maxRecDepth 100000 in
theorem tk_X8_forgets_1 : (tb_X8_forgets_1.all fun q => decide (decode cX8_forgets q.1 = .ok q.2)) = true := by decide +kernel
theorem dX8_forgets_0 : decode cX8_forgets 0 = .ok (.bipush 38, 2) := tb_d tk_X8_forgets_1 0 (0, .bipush 38, 2) rfl
theorem dX8_forgets_2 : decode cX8_forgets 2 = .ok (.istore_n 1, 1) := tb_d tk_X8_forgets_1 1 (2, .istore_n 1, 1) rfl
theorem dX8_forgets_3 : decode cX8_forgets 3 = .ok (.iload_n 1, 1) := tb_d tk_X8_forgets_1 2 (3, .iload_n 1, 1) rfl
theorem dX8_forgets_4 : decode cX8_forgets 4 = .ok (.bipush 65, 2) := tb_d tk_X8_forgets_1 3 (4, .bipush 65, 2) rfl
theorem dX8_forgets_6 : decode cX8_forgets 6 = .ok (.if_icmp .ge 16, 3) := tb_d tk_X8_forgets_1 4 (6, .if_icmp .ge 16, 3) rfl
theorem dX8_forgets_9 : decode cX8_forgets 9 = .ok (.aload_n 0, 1) := tb_d tk_X8_forgets_1 5 (9, .aload_n 0, 1) rfl
theorem dX8_forgets_10 : decode cX8_forgets 10 = .ok (.getfield 25, 3) := tb_d tk_X8_forgets_1 6 (10, .getfield 25, 3) rfl
theorem dX8_forgets_13 : decode cX8_forgets 13 = .ok (.iload_n 1, 1) := tb_d tk_X8_forgets_1 7 (13, .iload_n 1, 1) rfl
theorem dX8_forgets_14 : decode cX8_forgets 14 = .ok (.iconst 0, 1) := tb_d tk_X8_forgets_1 8 (14, .iconst 0, 1) rfl
theorem dX8_forgets_15 : decode cX8_forgets 15 = .ok (.iastore, 1) := tb_d tk_X8_forgets_1 9 (15, .iastore, 1) rfl
theorem dX8_forgets_16 : decode cX8_forgets 16 = .ok (.iinc 1 1, 3) := tb_d tk_X8_forgets_1 10 (16, .iinc 1 1, 3) rfl
theorem dX8_forgets_19 : decode cX8_forgets 19 = .ok (.goto (-16), 3) := tb_d tk_X8_forgets_1 11 (19, .goto (-16), 3) rfl
theorem dX8_forgets_22 : decode cX8_forgets 22 = .ok (.aload_n 0, 1) := tb_d tk_X8_forgets_1 12 (22, .aload_n 0, 1) rfl
theorem dX8_forgets_23 : decode cX8_forgets 23 = .ok (.getfield 25, 3) := tb_d tk_X8_forgets_1 13 (23, .getfield 25, 3) rfl
theorem dX8_forgets_26 : decode cX8_forgets 26 = .ok (.bipush 7, 2) := tb_d tk_X8_forgets_1 14 (26, .bipush 7, 2) rfl
theorem dX8_forgets_28 : decode cX8_forgets 28 = .ok (.iconst 0, 1) := tb_d tk_X8_forgets_1 15 (28, .iconst 0, 1) rfl
theorem dX8_forgets_29 : decode cX8_forgets 29 = .ok (.iastore, 1) := tb_d tk_X8_forgets_1 16 (29, .iastore, 1) rfl
theorem dX8_forgets_30 : decode cX8_forgets 30 = .ok (.return_, 1) := tb_d tk_X8_forgets_1 17 (30, .return_, 1) rfl
theorem ggX8_nights_X8_isGate : GoodIn wsX8_nights wsX8_isGate := fun w h => ⟨List.mem_cons_of_mem _ (List.mem_append_right _ (List.mem_append_right _ (List.mem_append_left _ h))), good_of_word (gdX8_isGate w h)⟩
set_option maxRecDepth 20000 in
theorem gX8_nights_X8_isGate : GoodIn wsX8_nights (wsV RX8 180 RX8 yX8_isGate wsX8_isGate) := goodIn_app (goodIn_of _ (by decide +kernel)) ggX8_nights_X8_isGate
theorem ggX8_nights_X8_in : GoodIn wsX8_nights wsX8_in := fun w h => ⟨List.mem_cons_of_mem _ (List.mem_append_right _ (List.mem_append_right _ (List.mem_append_right _ (List.mem_append_left _ h)))), good_of_word (gdX8_in w h)⟩
set_option maxRecDepth 20000 in
theorem gX8_nights_X8_in : GoodIn wsX8_nights (va_wsS RX8 56 yX8_in wsX8_in) := goodIn_app (goodIn_of _ (by decide +kernel)) ggX8_nights_X8_in
theorem ggX8_nights_X8_notes : GoodIn wsX8_nights wsX8_notes := fun w h => ⟨List.mem_cons_of_mem _ (List.mem_append_right _ (List.mem_append_right _ (List.mem_append_right _ (List.mem_append_right _ (List.mem_append_left _ h))))), good_of_word (gdX8_notes w h)⟩
set_option maxRecDepth 20000 in
theorem gX8_nights_X8_notes : GoodIn wsX8_nights (wsV RX8 184 RX8 yX8_notes wsX8_notes) := goodIn_app (goodIn_of _ (by decide +kernel)) ggX8_nights_X8_notes
theorem ggX8_nights_X8_forgets : GoodIn wsX8_nights wsX8_forgets := fun w h => ⟨List.mem_cons_of_mem _ (List.mem_append_right _ (List.mem_append_right _ (List.mem_append_right _ (List.mem_append_right _ (List.mem_append_right _ (List.mem_append_left _ h)))))), good_of_word (gdX8_forgets w h)⟩
set_option maxRecDepth 20000 in
theorem gX8_nights_X8_forgets : GoodIn wsX8_nights (wsV RX8 187 RX8 yX8_forgets wsX8_forgets) := goodIn_app (goodIn_of _ (by decide +kernel)) ggX8_nights_X8_forgets
theorem ggX8_nights_X8_secretOf : GoodIn wsX8_nights wsX8_secretOf := fun w h => ⟨List.mem_cons_of_mem _ (List.mem_append_right _ (List.mem_append_right _ (List.mem_append_right _ (List.mem_append_right _ (List.mem_append_right _ (List.mem_append_right _ (List.mem_append_left _ h))))))), good_of_word (gdX8_secretOf w h)⟩
set_option maxRecDepth 20000 in
theorem gX8_nights_X8_secretOf : GoodIn wsX8_nights (va_wsS RX8 172 yX8_secretOf wsX8_secretOf) := goodIn_app (goodIn_of _ (by decide +kernel)) ggX8_nights_X8_secretOf
def tb_X8_nights_1 : List (Nat × Instr × Nat) := [(0, .aload_n 0, 1), (1, .invokevirtual 180, 3), (4, .ifCond .ne 6, 3), (7, .ldc 183, 2), (9, .ireturn, 1), (10, .iload_n 1, 1), (11, .iconst 1, 1), (12, .bipush 24, 2), (14, .invokestatic 56, 3), (17, .ifCond .ne 6, 3), (20, .ldc 64, 2), (22, .ireturn, 1), (23, .aload_n 0, 1), (24, .getfield 25, 3), (27, .iconst 5, 1), (28, .iaload, 1), (29, .iload_n 1, 1), (30, .iadd, 1), (31, .sipush 999, 3), (34, .if_icmp .le 6, 3), (37, .ldc 85, 2), (39, .ireturn, 1), (40, .iconst 0, 1), (41, .istore_n 2, 1), (42, .iload_n 2, 1), (43, .iload_n 1, 1), (44, .if_icmp .ge 27, 3), (47, .aload_n 0, 1), (48, .invokevirtual 184, 3), (51, .aload_n 0, 1), (52, .getfield 25, 3), (55, .iconst 5, 1), (56, .dup2, 1), (57, .iaload, 1), (58, .iconst 1, 1), (59, .iadd, 1), (60, .iastore, 1), (61, .aload_n 0, 1), (62, .invokevirtual 187, 3), (65, .iinc 2 1, 3)]
set_option maxRecDepth 100000 in
theorem tk_X8_nights_1 : (tb_X8_nights_1.all fun q => decide (decode cX8_nights q.1 = .ok q.2)) = true := by decide +kernel
theorem dX8_nights_0 : decode cX8_nights 0 = .ok (.aload_n 0, 1) := tb_d tk_X8_nights_1 0 (0, .aload_n 0, 1) rfl
theorem dX8_nights_1 : decode cX8_nights 1 = .ok (.invokevirtual 180, 3) := tb_d tk_X8_nights_1 1 (1, .invokevirtual 180, 3) rfl
theorem dX8_nights_4 : decode cX8_nights 4 = .ok (.ifCond .ne 6, 3) := tb_d tk_X8_nights_1 2 (4, .ifCond .ne 6, 3) rfl
theorem dX8_nights_7 : decode cX8_nights 7 = .ok (.ldc 183, 2) := tb_d tk_X8_nights_1 3 (7, .ldc 183, 2) rfl
theorem dX8_nights_9 : decode cX8_nights 9 = .ok (.ireturn, 1) := tb_d tk_X8_nights_1 4 (9, .ireturn, 1) rfl
theorem dX8_nights_10 : decode cX8_nights 10 = .ok (.iload_n 1, 1) := tb_d tk_X8_nights_1 5 (10, .iload_n 1, 1) rfl
theorem dX8_nights_11 : decode cX8_nights 11 = .ok (.iconst 1, 1) := tb_d tk_X8_nights_1 6 (11, .iconst 1, 1) rfl
theorem dX8_nights_12 : decode cX8_nights 12 = .ok (.bipush 24, 2) := tb_d tk_X8_nights_1 7 (12, .bipush 24, 2) rfl
theorem dX8_nights_14 : decode cX8_nights 14 = .ok (.invokestatic 56, 3) := tb_d tk_X8_nights_1 8 (14, .invokestatic 56, 3) rfl
theorem dX8_nights_17 : decode cX8_nights 17 = .ok (.ifCond .ne 6, 3) := tb_d tk_X8_nights_1 9 (17, .ifCond .ne 6, 3) rfl
theorem dX8_nights_20 : decode cX8_nights 20 = .ok (.ldc 64, 2) := tb_d tk_X8_nights_1 10 (20, .ldc 64, 2) rfl
theorem dX8_nights_22 : decode cX8_nights 22 = .ok (.ireturn, 1) := tb_d tk_X8_nights_1 11 (22, .ireturn, 1) rfl
theorem dX8_nights_23 : decode cX8_nights 23 = .ok (.aload_n 0, 1) := tb_d tk_X8_nights_1 12 (23, .aload_n 0, 1) rfl
theorem dX8_nights_24 : decode cX8_nights 24 = .ok (.getfield 25, 3) := tb_d tk_X8_nights_1 13 (24, .getfield 25, 3) rfl
theorem dX8_nights_27 : decode cX8_nights 27 = .ok (.iconst 5, 1) := tb_d tk_X8_nights_1 14 (27, .iconst 5, 1) rfl
theorem dX8_nights_28 : decode cX8_nights 28 = .ok (.iaload, 1) := tb_d tk_X8_nights_1 15 (28, .iaload, 1) rfl
theorem dX8_nights_29 : decode cX8_nights 29 = .ok (.iload_n 1, 1) := tb_d tk_X8_nights_1 16 (29, .iload_n 1, 1) rfl
theorem dX8_nights_30 : decode cX8_nights 30 = .ok (.iadd, 1) := tb_d tk_X8_nights_1 17 (30, .iadd, 1) rfl
theorem dX8_nights_31 : decode cX8_nights 31 = .ok (.sipush 999, 3) := tb_d tk_X8_nights_1 18 (31, .sipush 999, 3) rfl
theorem dX8_nights_34 : decode cX8_nights 34 = .ok (.if_icmp .le 6, 3) := tb_d tk_X8_nights_1 19 (34, .if_icmp .le 6, 3) rfl
theorem dX8_nights_37 : decode cX8_nights 37 = .ok (.ldc 85, 2) := tb_d tk_X8_nights_1 20 (37, .ldc 85, 2) rfl
theorem dX8_nights_39 : decode cX8_nights 39 = .ok (.ireturn, 1) := tb_d tk_X8_nights_1 21 (39, .ireturn, 1) rfl
theorem dX8_nights_40 : decode cX8_nights 40 = .ok (.iconst 0, 1) := tb_d tk_X8_nights_1 22 (40, .iconst 0, 1) rfl
theorem dX8_nights_41 : decode cX8_nights 41 = .ok (.istore_n 2, 1) := tb_d tk_X8_nights_1 23 (41, .istore_n 2, 1) rfl
theorem dX8_nights_42 : decode cX8_nights 42 = .ok (.iload_n 2, 1) := tb_d tk_X8_nights_1 24 (42, .iload_n 2, 1) rfl
theorem dX8_nights_43 : decode cX8_nights 43 = .ok (.iload_n 1, 1) := tb_d tk_X8_nights_1 25 (43, .iload_n 1, 1) rfl
theorem dX8_nights_44 : decode cX8_nights 44 = .ok (.if_icmp .ge 27, 3) := tb_d tk_X8_nights_1 26 (44, .if_icmp .ge 27, 3) rfl
theorem dX8_nights_47 : decode cX8_nights 47 = .ok (.aload_n 0, 1) := tb_d tk_X8_nights_1 27 (47, .aload_n 0, 1) rfl
theorem dX8_nights_48 : decode cX8_nights 48 = .ok (.invokevirtual 184, 3) := tb_d tk_X8_nights_1 28 (48, .invokevirtual 184, 3) rfl
theorem dX8_nights_51 : decode cX8_nights 51 = .ok (.aload_n 0, 1) := tb_d tk_X8_nights_1 29 (51, .aload_n 0, 1) rfl
theorem dX8_nights_52 : decode cX8_nights 52 = .ok (.getfield 25, 3) := tb_d tk_X8_nights_1 30 (52, .getfield 25, 3) rfl
theorem dX8_nights_55 : decode cX8_nights 55 = .ok (.iconst 5, 1) := tb_d tk_X8_nights_1 31 (55, .iconst 5, 1) rfl
theorem dX8_nights_56 : decode cX8_nights 56 = .ok (.dup2, 1) := tb_d tk_X8_nights_1 32 (56, .dup2, 1) rfl
theorem dX8_nights_57 : decode cX8_nights 57 = .ok (.iaload, 1) := tb_d tk_X8_nights_1 33 (57, .iaload, 1) rfl
theorem dX8_nights_58 : decode cX8_nights 58 = .ok (.iconst 1, 1) := tb_d tk_X8_nights_1 34 (58, .iconst 1, 1) rfl
theorem dX8_nights_59 : decode cX8_nights 59 = .ok (.iadd, 1) := tb_d tk_X8_nights_1 35 (59, .iadd, 1) rfl
theorem dX8_nights_60 : decode cX8_nights 60 = .ok (.iastore, 1) := tb_d tk_X8_nights_1 36 (60, .iastore, 1) rfl
theorem dX8_nights_61 : decode cX8_nights 61 = .ok (.aload_n 0, 1) := tb_d tk_X8_nights_1 37 (61, .aload_n 0, 1) rfl
theorem dX8_nights_62 : decode cX8_nights 62 = .ok (.invokevirtual 187, 3) := tb_d tk_X8_nights_1 38 (62, .invokevirtual 187, 3) rfl
theorem dX8_nights_65 : decode cX8_nights 65 = .ok (.iinc 2 1, 3) := tb_d tk_X8_nights_1 39 (65, .iinc 2 1, 3) rfl
def tb_X8_nights_2 : List (Nat × Instr × Nat) := [(68, .goto (-26), 3), (71, .aload_n 0, 1), (72, .getfield 25, 3), (75, .aload_n 0, 1), (76, .getfield 25, 3), (79, .iconst 5, 1), (80, .iaload, 1), (81, .invokestatic 172, 3), (84, .ireturn, 1)]
set_option maxRecDepth 100000 in
theorem tk_X8_nights_2 : (tb_X8_nights_2.all fun q => decide (decode cX8_nights q.1 = .ok q.2)) = true := by decide +kernel
theorem dX8_nights_68 : decode cX8_nights 68 = .ok (.goto (-26), 3) := tb_d tk_X8_nights_2 0 (68, .goto (-26), 3) rfl
theorem dX8_nights_71 : decode cX8_nights 71 = .ok (.aload_n 0, 1) := tb_d tk_X8_nights_2 1 (71, .aload_n 0, 1) rfl
theorem dX8_nights_72 : decode cX8_nights 72 = .ok (.getfield 25, 3) := tb_d tk_X8_nights_2 2 (72, .getfield 25, 3) rfl
theorem dX8_nights_75 : decode cX8_nights 75 = .ok (.aload_n 0, 1) := tb_d tk_X8_nights_2 3 (75, .aload_n 0, 1) rfl
theorem dX8_nights_76 : decode cX8_nights 76 = .ok (.getfield 25, 3) := tb_d tk_X8_nights_2 4 (76, .getfield 25, 3) rfl
theorem dX8_nights_79 : decode cX8_nights 79 = .ok (.iconst 5, 1) := tb_d tk_X8_nights_2 5 (79, .iconst 5, 1) rfl
theorem dX8_nights_80 : decode cX8_nights 80 = .ok (.iaload, 1) := tb_d tk_X8_nights_2 6 (80, .iaload, 1) rfl
theorem dX8_nights_81 : decode cX8_nights 81 = .ok (.invokestatic 172, 3) := tb_d tk_X8_nights_2 7 (81, .invokestatic 172, 3) rfl
theorem dX8_nights_84 : decode cX8_nights 84 = .ok (.ireturn, 1) := tb_d tk_X8_nights_2 8 (84, .ireturn, 1) rfl
theorem ggX8_say_X8_isWord : GoodIn wsX8_say wsX8_isWord := fun w h => ⟨List.mem_cons_of_mem _ (List.mem_append_right _ (List.mem_append_right _ (List.mem_append_left _ h))), good_of_word (gdX8_isWord w h)⟩
set_option maxRecDepth 20000 in
theorem gX8_say_X8_isWord : GoodIn wsX8_say (wsV RX8 190 RX8 yX8_isWord wsX8_isWord) := goodIn_app (goodIn_of _ (by decide +kernel)) ggX8_say_X8_isWord
theorem ggX8_say_X8_isHour : GoodIn wsX8_say wsX8_isHour := fun w h => ⟨List.mem_cons_of_mem _ (List.mem_append_right _ (List.mem_append_right _ (List.mem_append_right _ (List.mem_append_left _ h)))), good_of_word (gdX8_isHour w h)⟩
set_option maxRecDepth 20000 in
theorem gX8_say_X8_isHour : GoodIn wsX8_say (va_wsS RX8 193 yX8_isHour wsX8_isHour) := goodIn_app (goodIn_of _ (by decide +kernel)) ggX8_say_X8_isHour
theorem ggX8_say_X8_notes : GoodIn wsX8_say wsX8_notes := fun w h => ⟨List.mem_cons_of_mem _ (List.mem_append_right _ (List.mem_append_right _ (List.mem_append_right _ (List.mem_append_right _ (List.mem_append_left _ h))))), good_of_word (gdX8_notes w h)⟩
set_option maxRecDepth 20000 in
theorem gX8_say_X8_notes : GoodIn wsX8_say (wsV RX8 184 RX8 yX8_notes wsX8_notes) := goodIn_app (goodIn_of _ (by decide +kernel)) ggX8_say_X8_notes
theorem ggX8_say_X8_guardOn : GoodIn wsX8_say wsX8_guardOn := fun w h => ⟨List.mem_cons_of_mem _ (List.mem_append_right _ (List.mem_append_right _ (List.mem_append_right _ (List.mem_append_right _ (List.mem_append_right _ (List.mem_append_left _ h)))))), good_of_word (gdX8_guardOn w h)⟩
set_option maxRecDepth 20000 in
theorem gX8_say_X8_guardOn : GoodIn wsX8_say (wsV RX8 158 RX8 yX8_guardOn wsX8_guardOn) := goodIn_app (goodIn_of _ (by decide +kernel)) ggX8_say_X8_guardOn
theorem ggX8_say_X8_isTakenNow : GoodIn wsX8_say wsX8_isTakenNow := fun w h => ⟨List.mem_cons_of_mem _ (List.mem_append_right _ (List.mem_append_right _ (List.mem_append_right _ (List.mem_append_right _ (List.mem_append_right _ (List.mem_append_right _ (List.mem_append_left _ h))))))), good_of_word (gdX8_isTakenNow w h)⟩
set_option maxRecDepth 20000 in
theorem gX8_say_X8_isTakenNow : GoodIn wsX8_say (wsV RX8 196 RX8 yX8_isTakenNow wsX8_isTakenNow) := goodIn_app (goodIn_of _ (by decide +kernel)) ggX8_say_X8_isTakenNow
theorem ggX8_say_X8_has : GoodIn wsX8_say wsX8_has := fun w h => ⟨List.mem_cons_of_mem _ (List.mem_append_right _ (List.mem_append_right _ (List.mem_append_right _ (List.mem_append_right _ (List.mem_append_right _ (List.mem_append_right _ (List.mem_append_right _ (List.mem_append_left _ h)))))))), good_of_word (gdX8_has w h)⟩
set_option maxRecDepth 20000 in
theorem gX8_say_X8_has : GoodIn wsX8_say (va_wsS RX8 161 yX8_has wsX8_has) := goodIn_app (goodIn_of _ (by decide +kernel)) ggX8_say_X8_has
def tb_X8_say_1 : List (Nat × Instr × Nat) := [(0, .aload_n 0, 1), (1, .iload_n 1, 1), (2, .invokevirtual 190, 3), (5, .ifCond .eq 10, 3), (8, .iload_n 2, 1), (9, .invokestatic 193, 3), (12, .ifCond .ne 6, 3), (15, .ldc 64, 2), (17, .ireturn, 1), (18, .aload_n 0, 1), (19, .getfield 25, 3), (22, .bipush 7, 2), (24, .iaload, 1), (25, .bipush 9, 2), (27, .if_icmp .ne 6, 3), (30, .ldc 85, 2), (32, .ireturn, 1), (33, .aload_n 0, 1), (34, .invokevirtual 184, 3), (37, .aload_n 0, 1), (38, .iload_n 2, 1), (39, .aload_n 0, 1), (40, .getfield 25, 3), (43, .iconst 5, 1), (44, .iaload, 1), (45, .invokevirtual 158, 3), (48, .istore_n 3, 1), (49, .aload_n 0, 1), (50, .iload_n 1, 1), (51, .iload_n 2, 1), (52, .iconst 0, 1), (53, .invokevirtual 196, 3), (56, .ifCond .eq 7, 3), (59, .iconst 1, 1), (60, .goto 4, 3), (63, .iconst 0, 1), (64, .istore 4, 2), (66, .bipush 38, 2), (68, .iconst 3, 1), (69, .aload_n 0, 1)]
set_option maxRecDepth 100000 in
theorem tk_X8_say_1 : (tb_X8_say_1.all fun q => decide (decode cX8_say q.1 = .ok q.2)) = true := by decide +kernel
theorem dX8_say_0 : decode cX8_say 0 = .ok (.aload_n 0, 1) := tb_d tk_X8_say_1 0 (0, .aload_n 0, 1) rfl
theorem dX8_say_1 : decode cX8_say 1 = .ok (.iload_n 1, 1) := tb_d tk_X8_say_1 1 (1, .iload_n 1, 1) rfl
theorem dX8_say_2 : decode cX8_say 2 = .ok (.invokevirtual 190, 3) := tb_d tk_X8_say_1 2 (2, .invokevirtual 190, 3) rfl
theorem dX8_say_5 : decode cX8_say 5 = .ok (.ifCond .eq 10, 3) := tb_d tk_X8_say_1 3 (5, .ifCond .eq 10, 3) rfl
theorem dX8_say_8 : decode cX8_say 8 = .ok (.iload_n 2, 1) := tb_d tk_X8_say_1 4 (8, .iload_n 2, 1) rfl
theorem dX8_say_9 : decode cX8_say 9 = .ok (.invokestatic 193, 3) := tb_d tk_X8_say_1 5 (9, .invokestatic 193, 3) rfl
theorem dX8_say_12 : decode cX8_say 12 = .ok (.ifCond .ne 6, 3) := tb_d tk_X8_say_1 6 (12, .ifCond .ne 6, 3) rfl
theorem dX8_say_15 : decode cX8_say 15 = .ok (.ldc 64, 2) := tb_d tk_X8_say_1 7 (15, .ldc 64, 2) rfl
theorem dX8_say_17 : decode cX8_say 17 = .ok (.ireturn, 1) := tb_d tk_X8_say_1 8 (17, .ireturn, 1) rfl
theorem dX8_say_18 : decode cX8_say 18 = .ok (.aload_n 0, 1) := tb_d tk_X8_say_1 9 (18, .aload_n 0, 1) rfl
theorem dX8_say_19 : decode cX8_say 19 = .ok (.getfield 25, 3) := tb_d tk_X8_say_1 10 (19, .getfield 25, 3) rfl
theorem dX8_say_22 : decode cX8_say 22 = .ok (.bipush 7, 2) := tb_d tk_X8_say_1 11 (22, .bipush 7, 2) rfl
theorem dX8_say_24 : decode cX8_say 24 = .ok (.iaload, 1) := tb_d tk_X8_say_1 12 (24, .iaload, 1) rfl
theorem dX8_say_25 : decode cX8_say 25 = .ok (.bipush 9, 2) := tb_d tk_X8_say_1 13 (25, .bipush 9, 2) rfl
theorem dX8_say_27 : decode cX8_say 27 = .ok (.if_icmp .ne 6, 3) := tb_d tk_X8_say_1 14 (27, .if_icmp .ne 6, 3) rfl
theorem dX8_say_30 : decode cX8_say 30 = .ok (.ldc 85, 2) := tb_d tk_X8_say_1 15 (30, .ldc 85, 2) rfl
theorem dX8_say_32 : decode cX8_say 32 = .ok (.ireturn, 1) := tb_d tk_X8_say_1 16 (32, .ireturn, 1) rfl
theorem dX8_say_33 : decode cX8_say 33 = .ok (.aload_n 0, 1) := tb_d tk_X8_say_1 17 (33, .aload_n 0, 1) rfl
theorem dX8_say_34 : decode cX8_say 34 = .ok (.invokevirtual 184, 3) := tb_d tk_X8_say_1 18 (34, .invokevirtual 184, 3) rfl
theorem dX8_say_37 : decode cX8_say 37 = .ok (.aload_n 0, 1) := tb_d tk_X8_say_1 19 (37, .aload_n 0, 1) rfl
theorem dX8_say_38 : decode cX8_say 38 = .ok (.iload_n 2, 1) := tb_d tk_X8_say_1 20 (38, .iload_n 2, 1) rfl
theorem dX8_say_39 : decode cX8_say 39 = .ok (.aload_n 0, 1) := tb_d tk_X8_say_1 21 (39, .aload_n 0, 1) rfl
theorem dX8_say_40 : decode cX8_say 40 = .ok (.getfield 25, 3) := tb_d tk_X8_say_1 22 (40, .getfield 25, 3) rfl
theorem dX8_say_43 : decode cX8_say 43 = .ok (.iconst 5, 1) := tb_d tk_X8_say_1 23 (43, .iconst 5, 1) rfl
theorem dX8_say_44 : decode cX8_say 44 = .ok (.iaload, 1) := tb_d tk_X8_say_1 24 (44, .iaload, 1) rfl
theorem dX8_say_45 : decode cX8_say 45 = .ok (.invokevirtual 158, 3) := tb_d tk_X8_say_1 25 (45, .invokevirtual 158, 3) rfl
theorem dX8_say_48 : decode cX8_say 48 = .ok (.istore_n 3, 1) := tb_d tk_X8_say_1 26 (48, .istore_n 3, 1) rfl
theorem dX8_say_49 : decode cX8_say 49 = .ok (.aload_n 0, 1) := tb_d tk_X8_say_1 27 (49, .aload_n 0, 1) rfl
theorem dX8_say_50 : decode cX8_say 50 = .ok (.iload_n 1, 1) := tb_d tk_X8_say_1 28 (50, .iload_n 1, 1) rfl
theorem dX8_say_51 : decode cX8_say 51 = .ok (.iload_n 2, 1) := tb_d tk_X8_say_1 29 (51, .iload_n 2, 1) rfl
theorem dX8_say_52 : decode cX8_say 52 = .ok (.iconst 0, 1) := tb_d tk_X8_say_1 30 (52, .iconst 0, 1) rfl
theorem dX8_say_53 : decode cX8_say 53 = .ok (.invokevirtual 196, 3) := tb_d tk_X8_say_1 31 (53, .invokevirtual 196, 3) rfl
theorem dX8_say_56 : decode cX8_say 56 = .ok (.ifCond .eq 7, 3) := tb_d tk_X8_say_1 32 (56, .ifCond .eq 7, 3) rfl
theorem dX8_say_59 : decode cX8_say 59 = .ok (.iconst 1, 1) := tb_d tk_X8_say_1 33 (59, .iconst 1, 1) rfl
theorem dX8_say_60 : decode cX8_say 60 = .ok (.goto 4, 3) := tb_d tk_X8_say_1 34 (60, .goto 4, 3) rfl
theorem dX8_say_63 : decode cX8_say 63 = .ok (.iconst 0, 1) := tb_d tk_X8_say_1 35 (63, .iconst 0, 1) rfl
theorem dX8_say_64 : decode cX8_say 64 = .ok (.istore 4, 2) := tb_d tk_X8_say_1 36 (64, .istore 4, 2) rfl
theorem dX8_say_66 : decode cX8_say 66 = .ok (.bipush 38, 2) := tb_d tk_X8_say_1 37 (66, .bipush 38, 2) rfl
theorem dX8_say_68 : decode cX8_say 68 = .ok (.iconst 3, 1) := tb_d tk_X8_say_1 38 (68, .iconst 3, 1) rfl
theorem dX8_say_69 : decode cX8_say 69 = .ok (.aload_n 0, 1) := tb_d tk_X8_say_1 39 (69, .aload_n 0, 1) rfl
def tb_X8_say_2 : List (Nat × Instr × Nat) := [(70, .getfield 25, 3), (73, .bipush 7, 2), (75, .iaload, 1), (76, .imul, 1), (77, .iadd, 1), (78, .istore 5, 2), (80, .aload_n 0, 1), (81, .getfield 25, 3), (84, .iload 5, 2), (86, .iload_n 1, 1), (87, .iastore, 1), (88, .aload_n 0, 1), (89, .getfield 25, 3), (92, .iload 5, 2), (94, .iconst 1, 1), (95, .iadd, 1), (96, .aload_n 0, 1), (97, .getfield 25, 3), (100, .bipush 6, 2), (102, .iaload, 1), (103, .iload_n 3, 1), (104, .invokestatic 161, 3), (107, .ifCond .eq 9, 3), (110, .iload_n 3, 1), (111, .iconst 1, 1), (112, .iadd, 1), (113, .goto 4, 3), (116, .iconst 0, 1), (117, .iastore, 1), (118, .aload_n 0, 1), (119, .getfield 25, 3), (122, .iload 5, 2), (124, .iconst 2, 1), (125, .iadd, 1), (126, .iload 4, 2), (128, .iastore, 1), (129, .aload_n 0, 1), (130, .getfield 25, 3), (133, .bipush 7, 2), (135, .dup2, 1)]
set_option maxRecDepth 100000 in
theorem tk_X8_say_2 : (tb_X8_say_2.all fun q => decide (decode cX8_say q.1 = .ok q.2)) = true := by decide +kernel
theorem dX8_say_70 : decode cX8_say 70 = .ok (.getfield 25, 3) := tb_d tk_X8_say_2 0 (70, .getfield 25, 3) rfl
theorem dX8_say_73 : decode cX8_say 73 = .ok (.bipush 7, 2) := tb_d tk_X8_say_2 1 (73, .bipush 7, 2) rfl
theorem dX8_say_75 : decode cX8_say 75 = .ok (.iaload, 1) := tb_d tk_X8_say_2 2 (75, .iaload, 1) rfl
theorem dX8_say_76 : decode cX8_say 76 = .ok (.imul, 1) := tb_d tk_X8_say_2 3 (76, .imul, 1) rfl
theorem dX8_say_77 : decode cX8_say 77 = .ok (.iadd, 1) := tb_d tk_X8_say_2 4 (77, .iadd, 1) rfl
theorem dX8_say_78 : decode cX8_say 78 = .ok (.istore 5, 2) := tb_d tk_X8_say_2 5 (78, .istore 5, 2) rfl
theorem dX8_say_80 : decode cX8_say 80 = .ok (.aload_n 0, 1) := tb_d tk_X8_say_2 6 (80, .aload_n 0, 1) rfl
theorem dX8_say_81 : decode cX8_say 81 = .ok (.getfield 25, 3) := tb_d tk_X8_say_2 7 (81, .getfield 25, 3) rfl
theorem dX8_say_84 : decode cX8_say 84 = .ok (.iload 5, 2) := tb_d tk_X8_say_2 8 (84, .iload 5, 2) rfl
theorem dX8_say_86 : decode cX8_say 86 = .ok (.iload_n 1, 1) := tb_d tk_X8_say_2 9 (86, .iload_n 1, 1) rfl
theorem dX8_say_87 : decode cX8_say 87 = .ok (.iastore, 1) := tb_d tk_X8_say_2 10 (87, .iastore, 1) rfl
theorem dX8_say_88 : decode cX8_say 88 = .ok (.aload_n 0, 1) := tb_d tk_X8_say_2 11 (88, .aload_n 0, 1) rfl
theorem dX8_say_89 : decode cX8_say 89 = .ok (.getfield 25, 3) := tb_d tk_X8_say_2 12 (89, .getfield 25, 3) rfl
theorem dX8_say_92 : decode cX8_say 92 = .ok (.iload 5, 2) := tb_d tk_X8_say_2 13 (92, .iload 5, 2) rfl
theorem dX8_say_94 : decode cX8_say 94 = .ok (.iconst 1, 1) := tb_d tk_X8_say_2 14 (94, .iconst 1, 1) rfl
theorem dX8_say_95 : decode cX8_say 95 = .ok (.iadd, 1) := tb_d tk_X8_say_2 15 (95, .iadd, 1) rfl
theorem dX8_say_96 : decode cX8_say 96 = .ok (.aload_n 0, 1) := tb_d tk_X8_say_2 16 (96, .aload_n 0, 1) rfl
theorem dX8_say_97 : decode cX8_say 97 = .ok (.getfield 25, 3) := tb_d tk_X8_say_2 17 (97, .getfield 25, 3) rfl
theorem dX8_say_100 : decode cX8_say 100 = .ok (.bipush 6, 2) := tb_d tk_X8_say_2 18 (100, .bipush 6, 2) rfl
theorem dX8_say_102 : decode cX8_say 102 = .ok (.iaload, 1) := tb_d tk_X8_say_2 19 (102, .iaload, 1) rfl
theorem dX8_say_103 : decode cX8_say 103 = .ok (.iload_n 3, 1) := tb_d tk_X8_say_2 20 (103, .iload_n 3, 1) rfl
theorem dX8_say_104 : decode cX8_say 104 = .ok (.invokestatic 161, 3) := tb_d tk_X8_say_2 21 (104, .invokestatic 161, 3) rfl
theorem dX8_say_107 : decode cX8_say 107 = .ok (.ifCond .eq 9, 3) := tb_d tk_X8_say_2 22 (107, .ifCond .eq 9, 3) rfl
theorem dX8_say_110 : decode cX8_say 110 = .ok (.iload_n 3, 1) := tb_d tk_X8_say_2 23 (110, .iload_n 3, 1) rfl
theorem dX8_say_111 : decode cX8_say 111 = .ok (.iconst 1, 1) := tb_d tk_X8_say_2 24 (111, .iconst 1, 1) rfl
theorem dX8_say_112 : decode cX8_say 112 = .ok (.iadd, 1) := tb_d tk_X8_say_2 25 (112, .iadd, 1) rfl
theorem dX8_say_113 : decode cX8_say 113 = .ok (.goto 4, 3) := tb_d tk_X8_say_2 26 (113, .goto 4, 3) rfl
theorem dX8_say_116 : decode cX8_say 116 = .ok (.iconst 0, 1) := tb_d tk_X8_say_2 27 (116, .iconst 0, 1) rfl
theorem dX8_say_117 : decode cX8_say 117 = .ok (.iastore, 1) := tb_d tk_X8_say_2 28 (117, .iastore, 1) rfl
theorem dX8_say_118 : decode cX8_say 118 = .ok (.aload_n 0, 1) := tb_d tk_X8_say_2 29 (118, .aload_n 0, 1) rfl
theorem dX8_say_119 : decode cX8_say 119 = .ok (.getfield 25, 3) := tb_d tk_X8_say_2 30 (119, .getfield 25, 3) rfl
theorem dX8_say_122 : decode cX8_say 122 = .ok (.iload 5, 2) := tb_d tk_X8_say_2 31 (122, .iload 5, 2) rfl
theorem dX8_say_124 : decode cX8_say 124 = .ok (.iconst 2, 1) := tb_d tk_X8_say_2 32 (124, .iconst 2, 1) rfl
theorem dX8_say_125 : decode cX8_say 125 = .ok (.iadd, 1) := tb_d tk_X8_say_2 33 (125, .iadd, 1) rfl
theorem dX8_say_126 : decode cX8_say 126 = .ok (.iload 4, 2) := tb_d tk_X8_say_2 34 (126, .iload 4, 2) rfl
theorem dX8_say_128 : decode cX8_say 128 = .ok (.iastore, 1) := tb_d tk_X8_say_2 35 (128, .iastore, 1) rfl
theorem dX8_say_129 : decode cX8_say 129 = .ok (.aload_n 0, 1) := tb_d tk_X8_say_2 36 (129, .aload_n 0, 1) rfl
theorem dX8_say_130 : decode cX8_say 130 = .ok (.getfield 25, 3) := tb_d tk_X8_say_2 37 (130, .getfield 25, 3) rfl
theorem dX8_say_133 : decode cX8_say 133 = .ok (.bipush 7, 2) := tb_d tk_X8_say_2 38 (133, .bipush 7, 2) rfl
theorem dX8_say_135 : decode cX8_say 135 = .ok (.dup2, 1) := tb_d tk_X8_say_2 39 (135, .dup2, 1) rfl
def tb_X8_say_3 : List (Nat × Instr × Nat) := [(136, .iaload, 1), (137, .iconst 1, 1), (138, .iadd, 1), (139, .iastore, 1), (140, .aload_n 0, 1), (141, .getfield 25, 3), (144, .bipush 26, 2), (146, .iconst 3, 1), (147, .iload_n 3, 1), (148, .imul, 1), (149, .iadd, 1), (150, .iconst 2, 1), (151, .iadd, 1), (152, .dup2, 1), (153, .iaload, 1), (154, .iload 4, 2), (156, .iadd, 1), (157, .iastore, 1), (158, .iload 4, 2), (160, .ireturn, 1)]
set_option maxRecDepth 100000 in
theorem tk_X8_say_3 : (tb_X8_say_3.all fun q => decide (decode cX8_say q.1 = .ok q.2)) = true := by decide +kernel
theorem dX8_say_136 : decode cX8_say 136 = .ok (.iaload, 1) := tb_d tk_X8_say_3 0 (136, .iaload, 1) rfl
theorem dX8_say_137 : decode cX8_say 137 = .ok (.iconst 1, 1) := tb_d tk_X8_say_3 1 (137, .iconst 1, 1) rfl
theorem dX8_say_138 : decode cX8_say 138 = .ok (.iadd, 1) := tb_d tk_X8_say_3 2 (138, .iadd, 1) rfl
theorem dX8_say_139 : decode cX8_say 139 = .ok (.iastore, 1) := tb_d tk_X8_say_3 3 (139, .iastore, 1) rfl
theorem dX8_say_140 : decode cX8_say 140 = .ok (.aload_n 0, 1) := tb_d tk_X8_say_3 4 (140, .aload_n 0, 1) rfl
theorem dX8_say_141 : decode cX8_say 141 = .ok (.getfield 25, 3) := tb_d tk_X8_say_3 5 (141, .getfield 25, 3) rfl
theorem dX8_say_144 : decode cX8_say 144 = .ok (.bipush 26, 2) := tb_d tk_X8_say_3 6 (144, .bipush 26, 2) rfl
theorem dX8_say_146 : decode cX8_say 146 = .ok (.iconst 3, 1) := tb_d tk_X8_say_3 7 (146, .iconst 3, 1) rfl
theorem dX8_say_147 : decode cX8_say 147 = .ok (.iload_n 3, 1) := tb_d tk_X8_say_3 8 (147, .iload_n 3, 1) rfl
theorem dX8_say_148 : decode cX8_say 148 = .ok (.imul, 1) := tb_d tk_X8_say_3 9 (148, .imul, 1) rfl
theorem dX8_say_149 : decode cX8_say 149 = .ok (.iadd, 1) := tb_d tk_X8_say_3 10 (149, .iadd, 1) rfl
theorem dX8_say_150 : decode cX8_say 150 = .ok (.iconst 2, 1) := tb_d tk_X8_say_3 11 (150, .iconst 2, 1) rfl
theorem dX8_say_151 : decode cX8_say 151 = .ok (.iadd, 1) := tb_d tk_X8_say_3 12 (151, .iadd, 1) rfl
theorem dX8_say_152 : decode cX8_say 152 = .ok (.dup2, 1) := tb_d tk_X8_say_3 13 (152, .dup2, 1) rfl
theorem dX8_say_153 : decode cX8_say 153 = .ok (.iaload, 1) := tb_d tk_X8_say_3 14 (153, .iaload, 1) rfl
theorem dX8_say_154 : decode cX8_say 154 = .ok (.iload 4, 2) := tb_d tk_X8_say_3 15 (154, .iload 4, 2) rfl
theorem dX8_say_156 : decode cX8_say 156 = .ok (.iadd, 1) := tb_d tk_X8_say_3 16 (156, .iadd, 1) rfl
theorem dX8_say_157 : decode cX8_say 157 = .ok (.iastore, 1) := tb_d tk_X8_say_3 17 (157, .iastore, 1) rfl
theorem dX8_say_158 : decode cX8_say 158 = .ok (.iload 4, 2) := tb_d tk_X8_say_3 18 (158, .iload 4, 2) rfl
theorem dX8_say_160 : decode cX8_say 160 = .ok (.ireturn, 1) := tb_d tk_X8_say_3 19 (160, .ireturn, 1) rfl
theorem ggX8_start_X8_isGate : GoodIn wsX8_start wsX8_isGate := fun w h => ⟨List.mem_cons_of_mem _ (List.mem_append_right _ (List.mem_append_right _ (List.mem_append_left _ h))), good_of_word (gdX8_isGate w h)⟩
set_option maxRecDepth 20000 in
theorem gX8_start_X8_isGate : GoodIn wsX8_start (wsV RX8 180 RX8 yX8_isGate wsX8_isGate) := goodIn_app (goodIn_of _ (by decide +kernel)) ggX8_start_X8_isGate
theorem ggX8_start_X8_in : GoodIn wsX8_start wsX8_in := fun w h => ⟨List.mem_cons_of_mem _ (List.mem_append_right _ (List.mem_append_right _ (List.mem_append_right _ (List.mem_append_left _ h)))), good_of_word (gdX8_in w h)⟩
set_option maxRecDepth 20000 in
theorem gX8_start_X8_in : GoodIn wsX8_start (va_wsS RX8 56 yX8_in wsX8_in) := goodIn_app (goodIn_of _ (by decide +kernel)) ggX8_start_X8_in
theorem ggX8_start_X8_notes : GoodIn wsX8_start wsX8_notes := fun w h => ⟨List.mem_cons_of_mem _ (List.mem_append_right _ (List.mem_append_right _ (List.mem_append_right _ (List.mem_append_right _ (List.mem_append_left _ h))))), good_of_word (gdX8_notes w h)⟩
set_option maxRecDepth 20000 in
theorem gX8_start_X8_notes : GoodIn wsX8_start (wsV RX8 184 RX8 yX8_notes wsX8_notes) := goodIn_app (goodIn_of _ (by decide +kernel)) ggX8_start_X8_notes
def tb_X8_start_1 : List (Nat × Instr × Nat) := [(0, .aload_n 0, 1), (1, .invokevirtual 180, 3), (4, .ifCond .ne 6, 3), (7, .ldc 183, 2), (9, .ireturn, 1), (10, .iload_n 1, 1), (11, .iconst 0, 1), (12, .bipush 9, 2), (14, .invokestatic 56, 3), (17, .ifCond .ne 6, 3), (20, .ldc 64, 2), (22, .ireturn, 1), (23, .aload_n 0, 1), (24, .invokevirtual 184, 3), (27, .aload_n 0, 1), (28, .getfield 25, 3), (31, .iconst 0, 1), (32, .iaload, 1), (33, .istore_n 2, 1), (34, .aload_n 0, 1), (35, .getfield 25, 3), (38, .iconst 0, 1), (39, .iload_n 1, 1), (40, .iastore, 1), (41, .iload_n 2, 1), (42, .ireturn, 1)]
set_option maxRecDepth 100000 in
theorem tk_X8_start_1 : (tb_X8_start_1.all fun q => decide (decode cX8_start q.1 = .ok q.2)) = true := by decide +kernel
theorem dX8_start_0 : decode cX8_start 0 = .ok (.aload_n 0, 1) := tb_d tk_X8_start_1 0 (0, .aload_n 0, 1) rfl
theorem dX8_start_1 : decode cX8_start 1 = .ok (.invokevirtual 180, 3) := tb_d tk_X8_start_1 1 (1, .invokevirtual 180, 3) rfl
theorem dX8_start_4 : decode cX8_start 4 = .ok (.ifCond .ne 6, 3) := tb_d tk_X8_start_1 2 (4, .ifCond .ne 6, 3) rfl
theorem dX8_start_7 : decode cX8_start 7 = .ok (.ldc 183, 2) := tb_d tk_X8_start_1 3 (7, .ldc 183, 2) rfl
theorem dX8_start_9 : decode cX8_start 9 = .ok (.ireturn, 1) := tb_d tk_X8_start_1 4 (9, .ireturn, 1) rfl
theorem dX8_start_10 : decode cX8_start 10 = .ok (.iload_n 1, 1) := tb_d tk_X8_start_1 5 (10, .iload_n 1, 1) rfl
theorem dX8_start_11 : decode cX8_start 11 = .ok (.iconst 0, 1) := tb_d tk_X8_start_1 6 (11, .iconst 0, 1) rfl
theorem dX8_start_12 : decode cX8_start 12 = .ok (.bipush 9, 2) := tb_d tk_X8_start_1 7 (12, .bipush 9, 2) rfl
theorem dX8_start_14 : decode cX8_start 14 = .ok (.invokestatic 56, 3) := tb_d tk_X8_start_1 8 (14, .invokestatic 56, 3) rfl
theorem dX8_start_17 : decode cX8_start 17 = .ok (.ifCond .ne 6, 3) := tb_d tk_X8_start_1 9 (17, .ifCond .ne 6, 3) rfl
theorem dX8_start_20 : decode cX8_start 20 = .ok (.ldc 64, 2) := tb_d tk_X8_start_1 10 (20, .ldc 64, 2) rfl
theorem dX8_start_22 : decode cX8_start 22 = .ok (.ireturn, 1) := tb_d tk_X8_start_1 11 (22, .ireturn, 1) rfl
theorem dX8_start_23 : decode cX8_start 23 = .ok (.aload_n 0, 1) := tb_d tk_X8_start_1 12 (23, .aload_n 0, 1) rfl
theorem dX8_start_24 : decode cX8_start 24 = .ok (.invokevirtual 184, 3) := tb_d tk_X8_start_1 13 (24, .invokevirtual 184, 3) rfl
theorem dX8_start_27 : decode cX8_start 27 = .ok (.aload_n 0, 1) := tb_d tk_X8_start_1 14 (27, .aload_n 0, 1) rfl
theorem dX8_start_28 : decode cX8_start 28 = .ok (.getfield 25, 3) := tb_d tk_X8_start_1 15 (28, .getfield 25, 3) rfl
theorem dX8_start_31 : decode cX8_start 31 = .ok (.iconst 0, 1) := tb_d tk_X8_start_1 16 (31, .iconst 0, 1) rfl
theorem dX8_start_32 : decode cX8_start 32 = .ok (.iaload, 1) := tb_d tk_X8_start_1 17 (32, .iaload, 1) rfl
theorem dX8_start_33 : decode cX8_start 33 = .ok (.istore_n 2, 1) := tb_d tk_X8_start_1 18 (33, .istore_n 2, 1) rfl
theorem dX8_start_34 : decode cX8_start 34 = .ok (.aload_n 0, 1) := tb_d tk_X8_start_1 19 (34, .aload_n 0, 1) rfl
theorem dX8_start_35 : decode cX8_start 35 = .ok (.getfield 25, 3) := tb_d tk_X8_start_1 20 (35, .getfield 25, 3) rfl
theorem dX8_start_38 : decode cX8_start 38 = .ok (.iconst 0, 1) := tb_d tk_X8_start_1 21 (38, .iconst 0, 1) rfl
theorem dX8_start_39 : decode cX8_start 39 = .ok (.iload_n 1, 1) := tb_d tk_X8_start_1 22 (39, .iload_n 1, 1) rfl
theorem dX8_start_40 : decode cX8_start 40 = .ok (.iastore, 1) := tb_d tk_X8_start_1 23 (40, .iastore, 1) rfl
theorem dX8_start_41 : decode cX8_start 41 = .ok (.iload_n 2, 1) := tb_d tk_X8_start_1 24 (41, .iload_n 2, 1) rfl
theorem dX8_start_42 : decode cX8_start 42 = .ok (.ireturn, 1) := tb_d tk_X8_start_1 25 (42, .ireturn, 1) rfl
theorem ggX8_dismiss_X8_isGuard : GoodIn wsX8_dismiss wsX8_isGuard := fun w h => ⟨List.mem_cons_of_mem _ (List.mem_append_right _ (List.mem_append_right _ (List.mem_append_left _ h))), good_of_word (gdX8_isGuard w h)⟩
set_option maxRecDepth 20000 in
theorem gX8_dismiss_X8_isGuard : GoodIn wsX8_dismiss (wsV RX8 199 RX8 yX8_isGuard wsX8_isGuard) := goodIn_app (goodIn_of _ (by decide +kernel)) ggX8_dismiss_X8_isGuard
theorem ggX8_dismiss_X8_in : GoodIn wsX8_dismiss wsX8_in := fun w h => ⟨List.mem_cons_of_mem _ (List.mem_append_right _ (List.mem_append_right _ (List.mem_append_right _ (List.mem_append_left _ h)))), good_of_word (gdX8_in w h)⟩
set_option maxRecDepth 20000 in
theorem gX8_dismiss_X8_in : GoodIn wsX8_dismiss (va_wsS RX8 56 yX8_in wsX8_in) := goodIn_app (goodIn_of _ (by decide +kernel)) ggX8_dismiss_X8_in
theorem ggX8_dismiss_X8_notes : GoodIn wsX8_dismiss wsX8_notes := fun w h => ⟨List.mem_cons_of_mem _ (List.mem_append_right _ (List.mem_append_right _ (List.mem_append_right _ (List.mem_append_right _ (List.mem_append_left _ h))))), good_of_word (gdX8_notes w h)⟩
set_option maxRecDepth 20000 in
theorem gX8_dismiss_X8_notes : GoodIn wsX8_dismiss (wsV RX8 184 RX8 yX8_notes wsX8_notes) := goodIn_app (goodIn_of _ (by decide +kernel)) ggX8_dismiss_X8_notes
def tb_X8_dismiss_1 : List (Nat × Instr × Nat) := [(0, .aload_n 0, 1), (1, .iload_n 1, 1), (2, .invokevirtual 199, 3), (5, .ifCond .eq 12, 3), (8, .iload_n 2, 1), (9, .iconst 0, 1), (10, .iconst 1, 1), (11, .invokestatic 56, 3), (14, .ifCond .ne 6, 3), (17, .ldc 64, 2), (19, .ireturn, 1), (20, .aload_n 0, 1), (21, .getfield 25, 3), (24, .bipush 6, 2), (26, .iaload, 1), (27, .iload_n 1, 1), (28, .ishr, 1), (29, .iconst 1, 1), (30, .iand, 1), (31, .iload_n 2, 1), (32, .if_icmp .ne 6, 3), (35, .ldc 183, 2), (37, .ireturn, 1), (38, .aload_n 0, 1), (39, .invokevirtual 184, 3), (42, .aload_n 0, 1), (43, .getfield 25, 3), (46, .bipush 6, 2), (48, .dup2, 1), (49, .iaload, 1), (50, .iconst 1, 1), (51, .iload_n 1, 1), (52, .ishl, 1), (53, .ixor, 1), (54, .iastore, 1), (55, .aload_n 0, 1), (56, .getfield 25, 3), (59, .bipush 6, 2), (61, .iaload, 1), (62, .ireturn, 1)]
set_option maxRecDepth 100000 in
theorem tk_X8_dismiss_1 : (tb_X8_dismiss_1.all fun q => decide (decode cX8_dismiss q.1 = .ok q.2)) = true := by decide +kernel
theorem dX8_dismiss_0 : decode cX8_dismiss 0 = .ok (.aload_n 0, 1) := tb_d tk_X8_dismiss_1 0 (0, .aload_n 0, 1) rfl
theorem dX8_dismiss_1 : decode cX8_dismiss 1 = .ok (.iload_n 1, 1) := tb_d tk_X8_dismiss_1 1 (1, .iload_n 1, 1) rfl
theorem dX8_dismiss_2 : decode cX8_dismiss 2 = .ok (.invokevirtual 199, 3) := tb_d tk_X8_dismiss_1 2 (2, .invokevirtual 199, 3) rfl
theorem dX8_dismiss_5 : decode cX8_dismiss 5 = .ok (.ifCond .eq 12, 3) := tb_d tk_X8_dismiss_1 3 (5, .ifCond .eq 12, 3) rfl
theorem dX8_dismiss_8 : decode cX8_dismiss 8 = .ok (.iload_n 2, 1) := tb_d tk_X8_dismiss_1 4 (8, .iload_n 2, 1) rfl
theorem dX8_dismiss_9 : decode cX8_dismiss 9 = .ok (.iconst 0, 1) := tb_d tk_X8_dismiss_1 5 (9, .iconst 0, 1) rfl
theorem dX8_dismiss_10 : decode cX8_dismiss 10 = .ok (.iconst 1, 1) := tb_d tk_X8_dismiss_1 6 (10, .iconst 1, 1) rfl
theorem dX8_dismiss_11 : decode cX8_dismiss 11 = .ok (.invokestatic 56, 3) := tb_d tk_X8_dismiss_1 7 (11, .invokestatic 56, 3) rfl
theorem dX8_dismiss_14 : decode cX8_dismiss 14 = .ok (.ifCond .ne 6, 3) := tb_d tk_X8_dismiss_1 8 (14, .ifCond .ne 6, 3) rfl
theorem dX8_dismiss_17 : decode cX8_dismiss 17 = .ok (.ldc 64, 2) := tb_d tk_X8_dismiss_1 9 (17, .ldc 64, 2) rfl
theorem dX8_dismiss_19 : decode cX8_dismiss 19 = .ok (.ireturn, 1) := tb_d tk_X8_dismiss_1 10 (19, .ireturn, 1) rfl
theorem dX8_dismiss_20 : decode cX8_dismiss 20 = .ok (.aload_n 0, 1) := tb_d tk_X8_dismiss_1 11 (20, .aload_n 0, 1) rfl
theorem dX8_dismiss_21 : decode cX8_dismiss 21 = .ok (.getfield 25, 3) := tb_d tk_X8_dismiss_1 12 (21, .getfield 25, 3) rfl
theorem dX8_dismiss_24 : decode cX8_dismiss 24 = .ok (.bipush 6, 2) := tb_d tk_X8_dismiss_1 13 (24, .bipush 6, 2) rfl
theorem dX8_dismiss_26 : decode cX8_dismiss 26 = .ok (.iaload, 1) := tb_d tk_X8_dismiss_1 14 (26, .iaload, 1) rfl
theorem dX8_dismiss_27 : decode cX8_dismiss 27 = .ok (.iload_n 1, 1) := tb_d tk_X8_dismiss_1 15 (27, .iload_n 1, 1) rfl
theorem dX8_dismiss_28 : decode cX8_dismiss 28 = .ok (.ishr, 1) := tb_d tk_X8_dismiss_1 16 (28, .ishr, 1) rfl
theorem dX8_dismiss_29 : decode cX8_dismiss 29 = .ok (.iconst 1, 1) := tb_d tk_X8_dismiss_1 17 (29, .iconst 1, 1) rfl
theorem dX8_dismiss_30 : decode cX8_dismiss 30 = .ok (.iand, 1) := tb_d tk_X8_dismiss_1 18 (30, .iand, 1) rfl
theorem dX8_dismiss_31 : decode cX8_dismiss 31 = .ok (.iload_n 2, 1) := tb_d tk_X8_dismiss_1 19 (31, .iload_n 2, 1) rfl
theorem dX8_dismiss_32 : decode cX8_dismiss 32 = .ok (.if_icmp .ne 6, 3) := tb_d tk_X8_dismiss_1 20 (32, .if_icmp .ne 6, 3) rfl
theorem dX8_dismiss_35 : decode cX8_dismiss 35 = .ok (.ldc 183, 2) := tb_d tk_X8_dismiss_1 21 (35, .ldc 183, 2) rfl
theorem dX8_dismiss_37 : decode cX8_dismiss 37 = .ok (.ireturn, 1) := tb_d tk_X8_dismiss_1 22 (37, .ireturn, 1) rfl
theorem dX8_dismiss_38 : decode cX8_dismiss 38 = .ok (.aload_n 0, 1) := tb_d tk_X8_dismiss_1 23 (38, .aload_n 0, 1) rfl
theorem dX8_dismiss_39 : decode cX8_dismiss 39 = .ok (.invokevirtual 184, 3) := tb_d tk_X8_dismiss_1 24 (39, .invokevirtual 184, 3) rfl
theorem dX8_dismiss_42 : decode cX8_dismiss 42 = .ok (.aload_n 0, 1) := tb_d tk_X8_dismiss_1 25 (42, .aload_n 0, 1) rfl
theorem dX8_dismiss_43 : decode cX8_dismiss 43 = .ok (.getfield 25, 3) := tb_d tk_X8_dismiss_1 26 (43, .getfield 25, 3) rfl
theorem dX8_dismiss_46 : decode cX8_dismiss 46 = .ok (.bipush 6, 2) := tb_d tk_X8_dismiss_1 27 (46, .bipush 6, 2) rfl
theorem dX8_dismiss_48 : decode cX8_dismiss 48 = .ok (.dup2, 1) := tb_d tk_X8_dismiss_1 28 (48, .dup2, 1) rfl
theorem dX8_dismiss_49 : decode cX8_dismiss 49 = .ok (.iaload, 1) := tb_d tk_X8_dismiss_1 29 (49, .iaload, 1) rfl
theorem dX8_dismiss_50 : decode cX8_dismiss 50 = .ok (.iconst 1, 1) := tb_d tk_X8_dismiss_1 30 (50, .iconst 1, 1) rfl
theorem dX8_dismiss_51 : decode cX8_dismiss 51 = .ok (.iload_n 1, 1) := tb_d tk_X8_dismiss_1 31 (51, .iload_n 1, 1) rfl
theorem dX8_dismiss_52 : decode cX8_dismiss 52 = .ok (.ishl, 1) := tb_d tk_X8_dismiss_1 32 (52, .ishl, 1) rfl
theorem dX8_dismiss_53 : decode cX8_dismiss 53 = .ok (.ixor, 1) := tb_d tk_X8_dismiss_1 33 (53, .ixor, 1) rfl
theorem dX8_dismiss_54 : decode cX8_dismiss 54 = .ok (.iastore, 1) := tb_d tk_X8_dismiss_1 34 (54, .iastore, 1) rfl
theorem dX8_dismiss_55 : decode cX8_dismiss 55 = .ok (.aload_n 0, 1) := tb_d tk_X8_dismiss_1 35 (55, .aload_n 0, 1) rfl
theorem dX8_dismiss_56 : decode cX8_dismiss 56 = .ok (.getfield 25, 3) := tb_d tk_X8_dismiss_1 36 (56, .getfield 25, 3) rfl
theorem dX8_dismiss_59 : decode cX8_dismiss 59 = .ok (.bipush 6, 2) := tb_d tk_X8_dismiss_1 37 (59, .bipush 6, 2) rfl
theorem dX8_dismiss_61 : decode cX8_dismiss 61 = .ok (.iaload, 1) := tb_d tk_X8_dismiss_1 38 (61, .iaload, 1) rfl
theorem dX8_dismiss_62 : decode cX8_dismiss 62 = .ok (.ireturn, 1) := tb_d tk_X8_dismiss_1 39 (62, .ireturn, 1) rfl
theorem ggX8_undo_X8_copies : GoodIn wsX8_undo wsX8_copies := fun w h => ⟨List.mem_cons_of_mem _ (List.mem_append_right _ (List.mem_append_right _ (List.mem_append_left _ h))), good_of_word (gdX8_copies w h)⟩
set_option maxRecDepth 20000 in
theorem gX8_undo_X8_copies : GoodIn wsX8_undo (va_wsS RX8 145 yX8_copies wsX8_copies) := goodIn_app (goodIn_of _ (by decide +kernel)) ggX8_undo_X8_copies
def tb_X8_undo_1 : List (Nat × Instr × Nat) := [(0, .aload_n 0, 1), (1, .getfield 149, 3), (4, .ifCond .ne 6, 3), (7, .ldc 183, 2), (9, .ireturn, 1), (10, .aload_n 0, 1), (11, .dup, 1), (12, .getfield 149, 3), (15, .iconst 1, 1), (16, .isub, 1), (17, .putfield 149, 3), (20, .aload_n 0, 1), (21, .getfield 34, 3), (24, .bipush 65, 2), (26, .aload_n 0, 1), (27, .getfield 149, 3), (30, .imul, 1), (31, .aload_n 0, 1), (32, .getfield 25, 3), (35, .iconst 0, 1), (36, .invokestatic 145, 3), (39, .aload_n 0, 1), (40, .getfield 149, 3), (43, .ireturn, 1)]
set_option maxRecDepth 100000 in
theorem tk_X8_undo_1 : (tb_X8_undo_1.all fun q => decide (decode cX8_undo q.1 = .ok q.2)) = true := by decide +kernel
theorem dX8_undo_0 : decode cX8_undo 0 = .ok (.aload_n 0, 1) := tb_d tk_X8_undo_1 0 (0, .aload_n 0, 1) rfl
theorem dX8_undo_1 : decode cX8_undo 1 = .ok (.getfield 149, 3) := tb_d tk_X8_undo_1 1 (1, .getfield 149, 3) rfl
theorem dX8_undo_4 : decode cX8_undo 4 = .ok (.ifCond .ne 6, 3) := tb_d tk_X8_undo_1 2 (4, .ifCond .ne 6, 3) rfl
theorem dX8_undo_7 : decode cX8_undo 7 = .ok (.ldc 183, 2) := tb_d tk_X8_undo_1 3 (7, .ldc 183, 2) rfl
theorem dX8_undo_9 : decode cX8_undo 9 = .ok (.ireturn, 1) := tb_d tk_X8_undo_1 4 (9, .ireturn, 1) rfl
theorem dX8_undo_10 : decode cX8_undo 10 = .ok (.aload_n 0, 1) := tb_d tk_X8_undo_1 5 (10, .aload_n 0, 1) rfl
theorem dX8_undo_11 : decode cX8_undo 11 = .ok (.dup, 1) := tb_d tk_X8_undo_1 6 (11, .dup, 1) rfl
theorem dX8_undo_12 : decode cX8_undo 12 = .ok (.getfield 149, 3) := tb_d tk_X8_undo_1 7 (12, .getfield 149, 3) rfl
theorem dX8_undo_15 : decode cX8_undo 15 = .ok (.iconst 1, 1) := tb_d tk_X8_undo_1 8 (15, .iconst 1, 1) rfl
theorem dX8_undo_16 : decode cX8_undo 16 = .ok (.isub, 1) := tb_d tk_X8_undo_1 9 (16, .isub, 1) rfl
theorem dX8_undo_17 : decode cX8_undo 17 = .ok (.putfield 149, 3) := tb_d tk_X8_undo_1 10 (17, .putfield 149, 3) rfl
theorem dX8_undo_20 : decode cX8_undo 20 = .ok (.aload_n 0, 1) := tb_d tk_X8_undo_1 11 (20, .aload_n 0, 1) rfl
theorem dX8_undo_21 : decode cX8_undo 21 = .ok (.getfield 34, 3) := tb_d tk_X8_undo_1 12 (21, .getfield 34, 3) rfl
theorem dX8_undo_24 : decode cX8_undo 24 = .ok (.bipush 65, 2) := tb_d tk_X8_undo_1 13 (24, .bipush 65, 2) rfl
theorem dX8_undo_26 : decode cX8_undo 26 = .ok (.aload_n 0, 1) := tb_d tk_X8_undo_1 14 (26, .aload_n 0, 1) rfl
theorem dX8_undo_27 : decode cX8_undo 27 = .ok (.getfield 149, 3) := tb_d tk_X8_undo_1 15 (27, .getfield 149, 3) rfl
theorem dX8_undo_30 : decode cX8_undo 30 = .ok (.imul, 1) := tb_d tk_X8_undo_1 16 (30, .imul, 1) rfl
theorem dX8_undo_31 : decode cX8_undo 31 = .ok (.aload_n 0, 1) := tb_d tk_X8_undo_1 17 (31, .aload_n 0, 1) rfl
theorem dX8_undo_32 : decode cX8_undo 32 = .ok (.getfield 25, 3) := tb_d tk_X8_undo_1 18 (32, .getfield 25, 3) rfl
theorem dX8_undo_35 : decode cX8_undo 35 = .ok (.iconst 0, 1) := tb_d tk_X8_undo_1 19 (35, .iconst 0, 1) rfl
theorem dX8_undo_36 : decode cX8_undo 36 = .ok (.invokestatic 145, 3) := tb_d tk_X8_undo_1 20 (36, .invokestatic 145, 3) rfl
theorem dX8_undo_39 : decode cX8_undo 39 = .ok (.aload_n 0, 1) := tb_d tk_X8_undo_1 21 (39, .aload_n 0, 1) rfl
theorem dX8_undo_40 : decode cX8_undo 40 = .ok (.getfield 149, 3) := tb_d tk_X8_undo_1 22 (40, .getfield 149, 3) rfl
theorem dX8_undo_43 : decode cX8_undo 43 = .ok (.ireturn, 1) := tb_d tk_X8_undo_1 23 (43, .ireturn, 1) rfl
theorem ggX8_letter_X8_isWord : GoodIn wsX8_letter wsX8_isWord := fun w h => ⟨List.mem_cons_of_mem _ (List.mem_append_right _ (List.mem_append_right _ (List.mem_append_left _ h))), good_of_word (gdX8_isWord w h)⟩
set_option maxRecDepth 20000 in
theorem gX8_letter_X8_isWord : GoodIn wsX8_letter (wsV RX8 190 RX8 yX8_isWord wsX8_isWord) := goodIn_app (goodIn_of _ (by decide +kernel)) ggX8_letter_X8_isWord
theorem ggX8_letter_X8_in : GoodIn wsX8_letter wsX8_in := fun w h => ⟨List.mem_cons_of_mem _ (List.mem_append_right _ (List.mem_append_right _ (List.mem_append_right _ (List.mem_append_left _ h)))), good_of_word (gdX8_in w h)⟩
set_option maxRecDepth 20000 in
theorem gX8_letter_X8_in : GoodIn wsX8_letter (va_wsS RX8 56 yX8_in wsX8_in) := goodIn_app (goodIn_of _ (by decide +kernel)) ggX8_letter_X8_in
def tb_X8_letter_1 : List (Nat × Instr × Nat) := [(0, .aload_n 0, 1), (1, .iload_n 1, 1), (2, .invokevirtual 190, 3), (5, .ifCond .eq 28, 3), (8, .iload_n 2, 1), (9, .iconst 0, 1), (10, .iconst 2, 1), (11, .invokestatic 56, 3), (14, .ifCond .eq 19, 3), (17, .aload_n 0, 1), (18, .getfield 25, 3), (21, .bipush 8, 2), (23, .iconst 3, 1), (24, .iload_n 1, 1), (25, .imul, 1), (26, .iadd, 1), (27, .iload_n 2, 1), (28, .iadd, 1), (29, .iaload, 1), (30, .goto 5, 3), (33, .ldc 64, 2), (35, .ireturn, 1)]
set_option maxRecDepth 100000 in
theorem tk_X8_letter_1 : (tb_X8_letter_1.all fun q => decide (decode cX8_letter q.1 = .ok q.2)) = true := by decide +kernel
theorem dX8_letter_0 : decode cX8_letter 0 = .ok (.aload_n 0, 1) := tb_d tk_X8_letter_1 0 (0, .aload_n 0, 1) rfl
theorem dX8_letter_1 : decode cX8_letter 1 = .ok (.iload_n 1, 1) := tb_d tk_X8_letter_1 1 (1, .iload_n 1, 1) rfl
theorem dX8_letter_2 : decode cX8_letter 2 = .ok (.invokevirtual 190, 3) := tb_d tk_X8_letter_1 2 (2, .invokevirtual 190, 3) rfl
theorem dX8_letter_5 : decode cX8_letter 5 = .ok (.ifCond .eq 28, 3) := tb_d tk_X8_letter_1 3 (5, .ifCond .eq 28, 3) rfl
theorem dX8_letter_8 : decode cX8_letter 8 = .ok (.iload_n 2, 1) := tb_d tk_X8_letter_1 4 (8, .iload_n 2, 1) rfl
theorem dX8_letter_9 : decode cX8_letter 9 = .ok (.iconst 0, 1) := tb_d tk_X8_letter_1 5 (9, .iconst 0, 1) rfl
theorem dX8_letter_10 : decode cX8_letter 10 = .ok (.iconst 2, 1) := tb_d tk_X8_letter_1 6 (10, .iconst 2, 1) rfl
theorem dX8_letter_11 : decode cX8_letter 11 = .ok (.invokestatic 56, 3) := tb_d tk_X8_letter_1 7 (11, .invokestatic 56, 3) rfl
theorem dX8_letter_14 : decode cX8_letter 14 = .ok (.ifCond .eq 19, 3) := tb_d tk_X8_letter_1 8 (14, .ifCond .eq 19, 3) rfl
theorem dX8_letter_17 : decode cX8_letter 17 = .ok (.aload_n 0, 1) := tb_d tk_X8_letter_1 9 (17, .aload_n 0, 1) rfl
theorem dX8_letter_18 : decode cX8_letter 18 = .ok (.getfield 25, 3) := tb_d tk_X8_letter_1 10 (18, .getfield 25, 3) rfl
theorem dX8_letter_21 : decode cX8_letter 21 = .ok (.bipush 8, 2) := tb_d tk_X8_letter_1 11 (21, .bipush 8, 2) rfl
theorem dX8_letter_23 : decode cX8_letter 23 = .ok (.iconst 3, 1) := tb_d tk_X8_letter_1 12 (23, .iconst 3, 1) rfl
theorem dX8_letter_24 : decode cX8_letter 24 = .ok (.iload_n 1, 1) := tb_d tk_X8_letter_1 13 (24, .iload_n 1, 1) rfl
theorem dX8_letter_25 : decode cX8_letter 25 = .ok (.imul, 1) := tb_d tk_X8_letter_1 14 (25, .imul, 1) rfl
theorem dX8_letter_26 : decode cX8_letter 26 = .ok (.iadd, 1) := tb_d tk_X8_letter_1 15 (26, .iadd, 1) rfl
theorem dX8_letter_27 : decode cX8_letter 27 = .ok (.iload_n 2, 1) := tb_d tk_X8_letter_1 16 (27, .iload_n 2, 1) rfl
theorem dX8_letter_28 : decode cX8_letter 28 = .ok (.iadd, 1) := tb_d tk_X8_letter_1 17 (28, .iadd, 1) rfl
theorem dX8_letter_29 : decode cX8_letter 29 = .ok (.iaload, 1) := tb_d tk_X8_letter_1 18 (29, .iaload, 1) rfl
theorem dX8_letter_30 : decode cX8_letter 30 = .ok (.goto 5, 3) := tb_d tk_X8_letter_1 19 (30, .goto 5, 3) rfl
theorem dX8_letter_33 : decode cX8_letter 33 = .ok (.ldc 64, 2) := tb_d tk_X8_letter_1 20 (33, .ldc 64, 2) rfl
theorem dX8_letter_35 : decode cX8_letter 35 = .ok (.ireturn, 1) := tb_d tk_X8_letter_1 21 (35, .ireturn, 1) rfl
theorem ggX8_like_X8_isWord : GoodIn wsX8_like wsX8_isWord := fun w h => ⟨List.mem_cons_of_mem _ (List.mem_append_right _ (List.mem_append_right _ (List.mem_append_left _ h))), good_of_word (gdX8_isWord w h)⟩
set_option maxRecDepth 20000 in
theorem gX8_like_X8_isWord : GoodIn wsX8_like (wsV RX8 190 RX8 yX8_isWord wsX8_isWord) := goodIn_app (goodIn_of _ (by decide +kernel)) ggX8_like_X8_isWord
theorem ggX8_like_X8_in : GoodIn wsX8_like wsX8_in := fun w h => ⟨List.mem_cons_of_mem _ (List.mem_append_right _ (List.mem_append_right _ (List.mem_append_right _ (List.mem_append_left _ h)))), good_of_word (gdX8_in w h)⟩
set_option maxRecDepth 20000 in
theorem gX8_like_X8_in : GoodIn wsX8_like (va_wsS RX8 56 yX8_in wsX8_in) := goodIn_app (goodIn_of _ (by decide +kernel)) ggX8_like_X8_in
theorem ggX8_like_X8_distance : GoodIn wsX8_like wsX8_distance := fun w h => ⟨List.mem_cons_of_mem _ (List.mem_append_right _ (List.mem_append_right _ (List.mem_append_right _ (List.mem_append_right _ (List.mem_append_left _ h))))), good_of_word (gdX8_distance w h)⟩
set_option maxRecDepth 20000 in
theorem gX8_like_X8_distance : GoodIn wsX8_like (wsV RX8 152 RX8 yX8_distance wsX8_distance) := goodIn_app (goodIn_of _ (by decide +kernel)) ggX8_like_X8_distance
theorem ggX8_like_X8_lips : GoodIn wsX8_like wsX8_lips := fun w h => ⟨List.mem_cons_of_mem _ (List.mem_append_right _ (List.mem_append_right _ (List.mem_append_right _ (List.mem_append_right _ (List.mem_append_right _ (List.mem_append_left _ h)))))), good_of_word (gdX8_lips w h)⟩
set_option maxRecDepth 20000 in
theorem gX8_like_X8_lips : GoodIn wsX8_like (wsV RX8 155 RX8 yX8_lips wsX8_lips) := goodIn_app (goodIn_of _ (by decide +kernel)) ggX8_like_X8_lips
def tb_X8_like_1 : List (Nat × Instr × Nat) := [(0, .aload_n 0, 1), (1, .iload_n 1, 1), (2, .invokevirtual 190, 3), (5, .ifCond .eq 20, 3), (8, .aload_n 0, 1), (9, .iload_n 2, 1), (10, .invokevirtual 190, 3), (13, .ifCond .eq 12, 3), (16, .iload_n 3, 1), (17, .iconst 0, 1), (18, .iconst 1, 1), (19, .invokestatic 56, 3), (22, .ifCond .ne 6, 3), (25, .ldc 64, 2), (27, .ireturn, 1), (28, .iload_n 3, 1), (29, .ifCond .ne 12, 3), (32, .aload_n 0, 1), (33, .iload_n 1, 1), (34, .iload_n 2, 1), (35, .invokevirtual 152, 3), (38, .goto 9, 3), (41, .aload_n 0, 1), (42, .iload_n 1, 1), (43, .iload_n 2, 1), (44, .invokevirtual 155, 3), (47, .ireturn, 1)]
set_option maxRecDepth 100000 in
theorem tk_X8_like_1 : (tb_X8_like_1.all fun q => decide (decode cX8_like q.1 = .ok q.2)) = true := by decide +kernel
theorem dX8_like_0 : decode cX8_like 0 = .ok (.aload_n 0, 1) := tb_d tk_X8_like_1 0 (0, .aload_n 0, 1) rfl
theorem dX8_like_1 : decode cX8_like 1 = .ok (.iload_n 1, 1) := tb_d tk_X8_like_1 1 (1, .iload_n 1, 1) rfl
theorem dX8_like_2 : decode cX8_like 2 = .ok (.invokevirtual 190, 3) := tb_d tk_X8_like_1 2 (2, .invokevirtual 190, 3) rfl
theorem dX8_like_5 : decode cX8_like 5 = .ok (.ifCond .eq 20, 3) := tb_d tk_X8_like_1 3 (5, .ifCond .eq 20, 3) rfl
theorem dX8_like_8 : decode cX8_like 8 = .ok (.aload_n 0, 1) := tb_d tk_X8_like_1 4 (8, .aload_n 0, 1) rfl
theorem dX8_like_9 : decode cX8_like 9 = .ok (.iload_n 2, 1) := tb_d tk_X8_like_1 5 (9, .iload_n 2, 1) rfl
theorem dX8_like_10 : decode cX8_like 10 = .ok (.invokevirtual 190, 3) := tb_d tk_X8_like_1 6 (10, .invokevirtual 190, 3) rfl
theorem dX8_like_13 : decode cX8_like 13 = .ok (.ifCond .eq 12, 3) := tb_d tk_X8_like_1 7 (13, .ifCond .eq 12, 3) rfl
theorem dX8_like_16 : decode cX8_like 16 = .ok (.iload_n 3, 1) := tb_d tk_X8_like_1 8 (16, .iload_n 3, 1) rfl
theorem dX8_like_17 : decode cX8_like 17 = .ok (.iconst 0, 1) := tb_d tk_X8_like_1 9 (17, .iconst 0, 1) rfl
theorem dX8_like_18 : decode cX8_like 18 = .ok (.iconst 1, 1) := tb_d tk_X8_like_1 10 (18, .iconst 1, 1) rfl
theorem dX8_like_19 : decode cX8_like 19 = .ok (.invokestatic 56, 3) := tb_d tk_X8_like_1 11 (19, .invokestatic 56, 3) rfl
theorem dX8_like_22 : decode cX8_like 22 = .ok (.ifCond .ne 6, 3) := tb_d tk_X8_like_1 12 (22, .ifCond .ne 6, 3) rfl
theorem dX8_like_25 : decode cX8_like 25 = .ok (.ldc 64, 2) := tb_d tk_X8_like_1 13 (25, .ldc 64, 2) rfl
theorem dX8_like_27 : decode cX8_like 27 = .ok (.ireturn, 1) := tb_d tk_X8_like_1 14 (27, .ireturn, 1) rfl
theorem dX8_like_28 : decode cX8_like 28 = .ok (.iload_n 3, 1) := tb_d tk_X8_like_1 15 (28, .iload_n 3, 1) rfl
theorem dX8_like_29 : decode cX8_like 29 = .ok (.ifCond .ne 12, 3) := tb_d tk_X8_like_1 16 (29, .ifCond .ne 12, 3) rfl
theorem dX8_like_32 : decode cX8_like 32 = .ok (.aload_n 0, 1) := tb_d tk_X8_like_1 17 (32, .aload_n 0, 1) rfl
theorem dX8_like_33 : decode cX8_like 33 = .ok (.iload_n 1, 1) := tb_d tk_X8_like_1 18 (33, .iload_n 1, 1) rfl
theorem dX8_like_34 : decode cX8_like 34 = .ok (.iload_n 2, 1) := tb_d tk_X8_like_1 19 (34, .iload_n 2, 1) rfl
theorem dX8_like_35 : decode cX8_like 35 = .ok (.invokevirtual 152, 3) := tb_d tk_X8_like_1 20 (35, .invokevirtual 152, 3) rfl
theorem dX8_like_38 : decode cX8_like 38 = .ok (.goto 9, 3) := tb_d tk_X8_like_1 21 (38, .goto 9, 3) rfl
theorem dX8_like_41 : decode cX8_like 41 = .ok (.aload_n 0, 1) := tb_d tk_X8_like_1 22 (41, .aload_n 0, 1) rfl
theorem dX8_like_42 : decode cX8_like 42 = .ok (.iload_n 1, 1) := tb_d tk_X8_like_1 23 (42, .iload_n 1, 1) rfl
theorem dX8_like_43 : decode cX8_like 43 = .ok (.iload_n 2, 1) := tb_d tk_X8_like_1 24 (43, .iload_n 2, 1) rfl
theorem dX8_like_44 : decode cX8_like 44 = .ok (.invokevirtual 155, 3) := tb_d tk_X8_like_1 25 (44, .invokevirtual 155, 3) rfl
theorem dX8_like_47 : decode cX8_like 47 = .ok (.ireturn, 1) := tb_d tk_X8_like_1 26 (47, .ireturn, 1) rfl
theorem ggX8_hoursOf_X8_guardOn : GoodIn wsX8_hoursOf wsX8_guardOn := fun w h => ⟨List.mem_cons_of_mem _ (List.mem_append_right _ (List.mem_append_right _ (List.mem_append_left _ h))), good_of_word (gdX8_guardOn w h)⟩
set_option maxRecDepth 20000 in
theorem gX8_hoursOf_X8_guardOn : GoodIn wsX8_hoursOf (wsV RX8 158 RX8 yX8_guardOn wsX8_guardOn) := goodIn_app (goodIn_of _ (by decide +kernel)) ggX8_hoursOf_X8_guardOn
def tb_X8_hoursOf_1 : List (Nat × Instr × Nat) := [(0, .iconst 0, 1), (1, .istore_n 2, 1), (2, .iconst 0, 1), (3, .istore_n 3, 1), (4, .iload_n 3, 1), (5, .bipush 6, 2), (7, .if_icmp .ge 34, 3), (10, .iload_n 2, 1), (11, .aload_n 0, 1), (12, .iload_n 3, 1), (13, .aload_n 0, 1), (14, .getfield 25, 3), (17, .iconst 5, 1), (18, .iaload, 1), (19, .invokevirtual 158, 3), (22, .iload_n 1, 1), (23, .if_icmp .ne 9, 3), (26, .iconst 1, 1), (27, .iload_n 3, 1), (28, .ishl, 1), (29, .goto 4, 3), (32, .iconst 0, 1), (33, .ior, 1), (34, .istore_n 2, 1), (35, .iinc 3 1, 3), (38, .goto (-34), 3), (41, .iload_n 2, 1), (42, .ireturn, 1)]
set_option maxRecDepth 100000 in
theorem tk_X8_hoursOf_1 : (tb_X8_hoursOf_1.all fun q => decide (decode cX8_hoursOf q.1 = .ok q.2)) = true := by decide +kernel
theorem dX8_hoursOf_0 : decode cX8_hoursOf 0 = .ok (.iconst 0, 1) := tb_d tk_X8_hoursOf_1 0 (0, .iconst 0, 1) rfl
theorem dX8_hoursOf_1 : decode cX8_hoursOf 1 = .ok (.istore_n 2, 1) := tb_d tk_X8_hoursOf_1 1 (1, .istore_n 2, 1) rfl
theorem dX8_hoursOf_2 : decode cX8_hoursOf 2 = .ok (.iconst 0, 1) := tb_d tk_X8_hoursOf_1 2 (2, .iconst 0, 1) rfl
theorem dX8_hoursOf_3 : decode cX8_hoursOf 3 = .ok (.istore_n 3, 1) := tb_d tk_X8_hoursOf_1 3 (3, .istore_n 3, 1) rfl
theorem dX8_hoursOf_4 : decode cX8_hoursOf 4 = .ok (.iload_n 3, 1) := tb_d tk_X8_hoursOf_1 4 (4, .iload_n 3, 1) rfl
theorem dX8_hoursOf_5 : decode cX8_hoursOf 5 = .ok (.bipush 6, 2) := tb_d tk_X8_hoursOf_1 5 (5, .bipush 6, 2) rfl
theorem dX8_hoursOf_7 : decode cX8_hoursOf 7 = .ok (.if_icmp .ge 34, 3) := tb_d tk_X8_hoursOf_1 6 (7, .if_icmp .ge 34, 3) rfl
theorem dX8_hoursOf_10 : decode cX8_hoursOf 10 = .ok (.iload_n 2, 1) := tb_d tk_X8_hoursOf_1 7 (10, .iload_n 2, 1) rfl
theorem dX8_hoursOf_11 : decode cX8_hoursOf 11 = .ok (.aload_n 0, 1) := tb_d tk_X8_hoursOf_1 8 (11, .aload_n 0, 1) rfl
theorem dX8_hoursOf_12 : decode cX8_hoursOf 12 = .ok (.iload_n 3, 1) := tb_d tk_X8_hoursOf_1 9 (12, .iload_n 3, 1) rfl
theorem dX8_hoursOf_13 : decode cX8_hoursOf 13 = .ok (.aload_n 0, 1) := tb_d tk_X8_hoursOf_1 10 (13, .aload_n 0, 1) rfl
theorem dX8_hoursOf_14 : decode cX8_hoursOf 14 = .ok (.getfield 25, 3) := tb_d tk_X8_hoursOf_1 11 (14, .getfield 25, 3) rfl
theorem dX8_hoursOf_17 : decode cX8_hoursOf 17 = .ok (.iconst 5, 1) := tb_d tk_X8_hoursOf_1 12 (17, .iconst 5, 1) rfl
theorem dX8_hoursOf_18 : decode cX8_hoursOf 18 = .ok (.iaload, 1) := tb_d tk_X8_hoursOf_1 13 (18, .iaload, 1) rfl
theorem dX8_hoursOf_19 : decode cX8_hoursOf 19 = .ok (.invokevirtual 158, 3) := tb_d tk_X8_hoursOf_1 14 (19, .invokevirtual 158, 3) rfl
theorem dX8_hoursOf_22 : decode cX8_hoursOf 22 = .ok (.iload_n 1, 1) := tb_d tk_X8_hoursOf_1 15 (22, .iload_n 1, 1) rfl
theorem dX8_hoursOf_23 : decode cX8_hoursOf 23 = .ok (.if_icmp .ne 9, 3) := tb_d tk_X8_hoursOf_1 16 (23, .if_icmp .ne 9, 3) rfl
theorem dX8_hoursOf_26 : decode cX8_hoursOf 26 = .ok (.iconst 1, 1) := tb_d tk_X8_hoursOf_1 17 (26, .iconst 1, 1) rfl
theorem dX8_hoursOf_27 : decode cX8_hoursOf 27 = .ok (.iload_n 3, 1) := tb_d tk_X8_hoursOf_1 18 (27, .iload_n 3, 1) rfl
theorem dX8_hoursOf_28 : decode cX8_hoursOf 28 = .ok (.ishl, 1) := tb_d tk_X8_hoursOf_1 19 (28, .ishl, 1) rfl
theorem dX8_hoursOf_29 : decode cX8_hoursOf 29 = .ok (.goto 4, 3) := tb_d tk_X8_hoursOf_1 20 (29, .goto 4, 3) rfl
theorem dX8_hoursOf_32 : decode cX8_hoursOf 32 = .ok (.iconst 0, 1) := tb_d tk_X8_hoursOf_1 21 (32, .iconst 0, 1) rfl
theorem dX8_hoursOf_33 : decode cX8_hoursOf 33 = .ok (.ior, 1) := tb_d tk_X8_hoursOf_1 22 (33, .ior, 1) rfl
theorem dX8_hoursOf_34 : decode cX8_hoursOf 34 = .ok (.istore_n 2, 1) := tb_d tk_X8_hoursOf_1 23 (34, .istore_n 2, 1) rfl
theorem dX8_hoursOf_35 : decode cX8_hoursOf 35 = .ok (.iinc 3 1, 3) := tb_d tk_X8_hoursOf_1 24 (35, .iinc 3 1, 3) rfl
theorem dX8_hoursOf_38 : decode cX8_hoursOf 38 = .ok (.goto (-34), 3) := tb_d tk_X8_hoursOf_1 25 (38, .goto (-34), 3) rfl
theorem dX8_hoursOf_41 : decode cX8_hoursOf 41 = .ok (.iload_n 2, 1) := tb_d tk_X8_hoursOf_1 26 (41, .iload_n 2, 1) rfl
theorem dX8_hoursOf_42 : decode cX8_hoursOf 42 = .ok (.ireturn, 1) := tb_d tk_X8_hoursOf_1 27 (42, .ireturn, 1) rfl
theorem ggX8_guard_X8_isGuard : GoodIn wsX8_guard wsX8_isGuard := fun w h => ⟨List.mem_cons_of_mem _ (List.mem_append_right _ (List.mem_append_right _ (List.mem_append_left _ h))), good_of_word (gdX8_isGuard w h)⟩
set_option maxRecDepth 20000 in
theorem gX8_guard_X8_isGuard : GoodIn wsX8_guard (wsV RX8 199 RX8 yX8_isGuard wsX8_isGuard) := goodIn_app (goodIn_of _ (by decide +kernel)) ggX8_guard_X8_isGuard
theorem ggX8_guard_X8_hoursOf : GoodIn wsX8_guard wsX8_hoursOf := fun w h => ⟨List.mem_cons_of_mem _ (List.mem_append_right _ (List.mem_append_right _ (List.mem_append_right _ (List.mem_append_left _ h)))), good_of_word (gdX8_hoursOf w h)⟩
set_option maxRecDepth 20000 in
theorem gX8_guard_X8_hoursOf : GoodIn wsX8_guard (wsV RX8 202 RX8 yX8_hoursOf wsX8_hoursOf) := goodIn_app (goodIn_of _ (by decide +kernel)) ggX8_guard_X8_hoursOf
def tb_X8_guard_1 : List (Nat × Instr × Nat) := [(0, .aload_n 0, 1), (1, .iload_n 1, 1), (2, .invokevirtual 199, 3), (5, .ifCond .ne 6, 3), (8, .ldc 64, 2), (10, .ireturn, 1), (11, .iload_n 2, 1), (12, .tableswitch 78 0 3 #[32, 46, 60, 72], 32), (44, .aload_n 0, 1), (45, .getfield 25, 3), (48, .bipush 26, 2), (50, .iconst 3, 1), (51, .iload_n 1, 1), (52, .imul, 1), (53, .iadd, 1), (54, .iconst 1, 1), (55, .iadd, 1), (56, .iaload, 1), (57, .ireturn, 1), (58, .aload_n 0, 1), (59, .getfield 25, 3), (62, .bipush 26, 2), (64, .iconst 3, 1), (65, .iload_n 1, 1), (66, .imul, 1), (67, .iadd, 1), (68, .iconst 2, 1), (69, .iadd, 1), (70, .iaload, 1), (71, .ireturn, 1), (72, .aload_n 0, 1), (73, .getfield 25, 3), (76, .bipush 6, 2), (78, .iaload, 1), (79, .iload_n 1, 1), (80, .ishr, 1), (81, .iconst 1, 1), (82, .iand, 1), (83, .ireturn, 1), (84, .aload_n 0, 1)]
set_option maxRecDepth 100000 in
theorem tk_X8_guard_1 : (tb_X8_guard_1.all fun q => decide (decode cX8_guard q.1 = .ok q.2)) = true := by decide +kernel
theorem dX8_guard_0 : decode cX8_guard 0 = .ok (.aload_n 0, 1) := tb_d tk_X8_guard_1 0 (0, .aload_n 0, 1) rfl
theorem dX8_guard_1 : decode cX8_guard 1 = .ok (.iload_n 1, 1) := tb_d tk_X8_guard_1 1 (1, .iload_n 1, 1) rfl
theorem dX8_guard_2 : decode cX8_guard 2 = .ok (.invokevirtual 199, 3) := tb_d tk_X8_guard_1 2 (2, .invokevirtual 199, 3) rfl
theorem dX8_guard_5 : decode cX8_guard 5 = .ok (.ifCond .ne 6, 3) := tb_d tk_X8_guard_1 3 (5, .ifCond .ne 6, 3) rfl
theorem dX8_guard_8 : decode cX8_guard 8 = .ok (.ldc 64, 2) := tb_d tk_X8_guard_1 4 (8, .ldc 64, 2) rfl
theorem dX8_guard_10 : decode cX8_guard 10 = .ok (.ireturn, 1) := tb_d tk_X8_guard_1 5 (10, .ireturn, 1) rfl
theorem dX8_guard_11 : decode cX8_guard 11 = .ok (.iload_n 2, 1) := tb_d tk_X8_guard_1 6 (11, .iload_n 2, 1) rfl
theorem dX8_guard_12 : decode cX8_guard 12 = .ok (.tableswitch 78 0 3 #[32, 46, 60, 72], 32) := tb_d tk_X8_guard_1 7 (12, .tableswitch 78 0 3 #[32, 46, 60, 72], 32) rfl
theorem dX8_guard_44 : decode cX8_guard 44 = .ok (.aload_n 0, 1) := tb_d tk_X8_guard_1 8 (44, .aload_n 0, 1) rfl
theorem dX8_guard_45 : decode cX8_guard 45 = .ok (.getfield 25, 3) := tb_d tk_X8_guard_1 9 (45, .getfield 25, 3) rfl
theorem dX8_guard_48 : decode cX8_guard 48 = .ok (.bipush 26, 2) := tb_d tk_X8_guard_1 10 (48, .bipush 26, 2) rfl
theorem dX8_guard_50 : decode cX8_guard 50 = .ok (.iconst 3, 1) := tb_d tk_X8_guard_1 11 (50, .iconst 3, 1) rfl
theorem dX8_guard_51 : decode cX8_guard 51 = .ok (.iload_n 1, 1) := tb_d tk_X8_guard_1 12 (51, .iload_n 1, 1) rfl
theorem dX8_guard_52 : decode cX8_guard 52 = .ok (.imul, 1) := tb_d tk_X8_guard_1 13 (52, .imul, 1) rfl
theorem dX8_guard_53 : decode cX8_guard 53 = .ok (.iadd, 1) := tb_d tk_X8_guard_1 14 (53, .iadd, 1) rfl
theorem dX8_guard_54 : decode cX8_guard 54 = .ok (.iconst 1, 1) := tb_d tk_X8_guard_1 15 (54, .iconst 1, 1) rfl
theorem dX8_guard_55 : decode cX8_guard 55 = .ok (.iadd, 1) := tb_d tk_X8_guard_1 16 (55, .iadd, 1) rfl
theorem dX8_guard_56 : decode cX8_guard 56 = .ok (.iaload, 1) := tb_d tk_X8_guard_1 17 (56, .iaload, 1) rfl
theorem dX8_guard_57 : decode cX8_guard 57 = .ok (.ireturn, 1) := tb_d tk_X8_guard_1 18 (57, .ireturn, 1) rfl
theorem dX8_guard_58 : decode cX8_guard 58 = .ok (.aload_n 0, 1) := tb_d tk_X8_guard_1 19 (58, .aload_n 0, 1) rfl
theorem dX8_guard_59 : decode cX8_guard 59 = .ok (.getfield 25, 3) := tb_d tk_X8_guard_1 20 (59, .getfield 25, 3) rfl
theorem dX8_guard_62 : decode cX8_guard 62 = .ok (.bipush 26, 2) := tb_d tk_X8_guard_1 21 (62, .bipush 26, 2) rfl
theorem dX8_guard_64 : decode cX8_guard 64 = .ok (.iconst 3, 1) := tb_d tk_X8_guard_1 22 (64, .iconst 3, 1) rfl
theorem dX8_guard_65 : decode cX8_guard 65 = .ok (.iload_n 1, 1) := tb_d tk_X8_guard_1 23 (65, .iload_n 1, 1) rfl
theorem dX8_guard_66 : decode cX8_guard 66 = .ok (.imul, 1) := tb_d tk_X8_guard_1 24 (66, .imul, 1) rfl
theorem dX8_guard_67 : decode cX8_guard 67 = .ok (.iadd, 1) := tb_d tk_X8_guard_1 25 (67, .iadd, 1) rfl
theorem dX8_guard_68 : decode cX8_guard 68 = .ok (.iconst 2, 1) := tb_d tk_X8_guard_1 26 (68, .iconst 2, 1) rfl
theorem dX8_guard_69 : decode cX8_guard 69 = .ok (.iadd, 1) := tb_d tk_X8_guard_1 27 (69, .iadd, 1) rfl
theorem dX8_guard_70 : decode cX8_guard 70 = .ok (.iaload, 1) := tb_d tk_X8_guard_1 28 (70, .iaload, 1) rfl
theorem dX8_guard_71 : decode cX8_guard 71 = .ok (.ireturn, 1) := tb_d tk_X8_guard_1 29 (71, .ireturn, 1) rfl
theorem dX8_guard_72 : decode cX8_guard 72 = .ok (.aload_n 0, 1) := tb_d tk_X8_guard_1 30 (72, .aload_n 0, 1) rfl
theorem dX8_guard_73 : decode cX8_guard 73 = .ok (.getfield 25, 3) := tb_d tk_X8_guard_1 31 (73, .getfield 25, 3) rfl
theorem dX8_guard_76 : decode cX8_guard 76 = .ok (.bipush 6, 2) := tb_d tk_X8_guard_1 32 (76, .bipush 6, 2) rfl
theorem dX8_guard_78 : decode cX8_guard 78 = .ok (.iaload, 1) := tb_d tk_X8_guard_1 33 (78, .iaload, 1) rfl
theorem dX8_guard_79 : decode cX8_guard 79 = .ok (.iload_n 1, 1) := tb_d tk_X8_guard_1 34 (79, .iload_n 1, 1) rfl
theorem dX8_guard_80 : decode cX8_guard 80 = .ok (.ishr, 1) := tb_d tk_X8_guard_1 35 (80, .ishr, 1) rfl
theorem dX8_guard_81 : decode cX8_guard 81 = .ok (.iconst 1, 1) := tb_d tk_X8_guard_1 36 (81, .iconst 1, 1) rfl
theorem dX8_guard_82 : decode cX8_guard 82 = .ok (.iand, 1) := tb_d tk_X8_guard_1 37 (82, .iand, 1) rfl
theorem dX8_guard_83 : decode cX8_guard 83 = .ok (.ireturn, 1) := tb_d tk_X8_guard_1 38 (83, .ireturn, 1) rfl
theorem dX8_guard_84 : decode cX8_guard 84 = .ok (.aload_n 0, 1) := tb_d tk_X8_guard_1 39 (84, .aload_n 0, 1) rfl
def tb_X8_guard_2 : List (Nat × Instr × Nat) := [(85, .iload_n 1, 1), (86, .invokevirtual 202, 3), (89, .ireturn, 1), (90, .ldc 64, 2), (92, .ireturn, 1)]
set_option maxRecDepth 100000 in
theorem tk_X8_guard_2 : (tb_X8_guard_2.all fun q => decide (decode cX8_guard q.1 = .ok q.2)) = true := by decide +kernel
theorem dX8_guard_85 : decode cX8_guard 85 = .ok (.iload_n 1, 1) := tb_d tk_X8_guard_2 0 (85, .iload_n 1, 1) rfl
theorem dX8_guard_86 : decode cX8_guard 86 = .ok (.invokevirtual 202, 3) := tb_d tk_X8_guard_2 1 (86, .invokevirtual 202, 3) rfl
theorem dX8_guard_89 : decode cX8_guard 89 = .ok (.ireturn, 1) := tb_d tk_X8_guard_2 2 (89, .ireturn, 1) rfl
theorem dX8_guard_90 : decode cX8_guard 90 = .ok (.ldc 64, 2) := tb_d tk_X8_guard_2 3 (90, .ldc 64, 2) rfl
theorem dX8_guard_92 : decode cX8_guard 92 = .ok (.ireturn, 1) := tb_d tk_X8_guard_2 4 (92, .ireturn, 1) rfl
theorem ggX8_tried_X8_in : GoodIn wsX8_tried wsX8_in := fun w h => ⟨List.mem_cons_of_mem _ (List.mem_append_right _ (List.mem_append_right _ (List.mem_append_left _ h))), good_of_word (gdX8_in w h)⟩
set_option maxRecDepth 20000 in
theorem gX8_tried_X8_in : GoodIn wsX8_tried (va_wsS RX8 56 yX8_in wsX8_in) := goodIn_app (goodIn_of _ (by decide +kernel)) ggX8_tried_X8_in
def tb_X8_tried_1 : List (Nat × Instr × Nat) := [(0, .iload_n 1, 1), (1, .iconst 0, 1), (2, .aload_n 0, 1), (3, .getfield 25, 3), (6, .bipush 7, 2), (8, .iaload, 1), (9, .iconst 1, 1), (10, .isub, 1), (11, .invokestatic 56, 3), (14, .ifCond .eq 12, 3), (17, .iload_n 2, 1), (18, .iconst 0, 1), (19, .iconst 2, 1), (20, .invokestatic 56, 3), (23, .ifCond .ne 6, 3), (26, .ldc 64, 2), (28, .ireturn, 1), (29, .aload_n 0, 1), (30, .getfield 25, 3), (33, .bipush 38, 2), (35, .iconst 3, 1), (36, .iload_n 1, 1), (37, .imul, 1), (38, .iadd, 1), (39, .iload_n 2, 1), (40, .iadd, 1), (41, .iaload, 1), (42, .istore_n 3, 1), (43, .iload_n 2, 1), (44, .iconst 1, 1), (45, .if_icmp .eq 7, 3), (48, .iload_n 3, 1), (49, .goto 15, 3), (52, .iload_n 3, 1), (53, .ifCond .ne 8, 3), (56, .ldc 50, 2), (58, .goto 6, 3), (61, .iload_n 3, 1), (62, .iconst 1, 1), (63, .isub, 1)]
set_option maxRecDepth 100000 in
theorem tk_X8_tried_1 : (tb_X8_tried_1.all fun q => decide (decode cX8_tried q.1 = .ok q.2)) = true := by decide +kernel
theorem dX8_tried_0 : decode cX8_tried 0 = .ok (.iload_n 1, 1) := tb_d tk_X8_tried_1 0 (0, .iload_n 1, 1) rfl
theorem dX8_tried_1 : decode cX8_tried 1 = .ok (.iconst 0, 1) := tb_d tk_X8_tried_1 1 (1, .iconst 0, 1) rfl
theorem dX8_tried_2 : decode cX8_tried 2 = .ok (.aload_n 0, 1) := tb_d tk_X8_tried_1 2 (2, .aload_n 0, 1) rfl
theorem dX8_tried_3 : decode cX8_tried 3 = .ok (.getfield 25, 3) := tb_d tk_X8_tried_1 3 (3, .getfield 25, 3) rfl
theorem dX8_tried_6 : decode cX8_tried 6 = .ok (.bipush 7, 2) := tb_d tk_X8_tried_1 4 (6, .bipush 7, 2) rfl
theorem dX8_tried_8 : decode cX8_tried 8 = .ok (.iaload, 1) := tb_d tk_X8_tried_1 5 (8, .iaload, 1) rfl
theorem dX8_tried_9 : decode cX8_tried 9 = .ok (.iconst 1, 1) := tb_d tk_X8_tried_1 6 (9, .iconst 1, 1) rfl
theorem dX8_tried_10 : decode cX8_tried 10 = .ok (.isub, 1) := tb_d tk_X8_tried_1 7 (10, .isub, 1) rfl
theorem dX8_tried_11 : decode cX8_tried 11 = .ok (.invokestatic 56, 3) := tb_d tk_X8_tried_1 8 (11, .invokestatic 56, 3) rfl
theorem dX8_tried_14 : decode cX8_tried 14 = .ok (.ifCond .eq 12, 3) := tb_d tk_X8_tried_1 9 (14, .ifCond .eq 12, 3) rfl
theorem dX8_tried_17 : decode cX8_tried 17 = .ok (.iload_n 2, 1) := tb_d tk_X8_tried_1 10 (17, .iload_n 2, 1) rfl
theorem dX8_tried_18 : decode cX8_tried 18 = .ok (.iconst 0, 1) := tb_d tk_X8_tried_1 11 (18, .iconst 0, 1) rfl
theorem dX8_tried_19 : decode cX8_tried 19 = .ok (.iconst 2, 1) := tb_d tk_X8_tried_1 12 (19, .iconst 2, 1) rfl
theorem dX8_tried_20 : decode cX8_tried 20 = .ok (.invokestatic 56, 3) := tb_d tk_X8_tried_1 13 (20, .invokestatic 56, 3) rfl
theorem dX8_tried_23 : decode cX8_tried 23 = .ok (.ifCond .ne 6, 3) := tb_d tk_X8_tried_1 14 (23, .ifCond .ne 6, 3) rfl
theorem dX8_tried_26 : decode cX8_tried 26 = .ok (.ldc 64, 2) := tb_d tk_X8_tried_1 15 (26, .ldc 64, 2) rfl
theorem dX8_tried_28 : decode cX8_tried 28 = .ok (.ireturn, 1) := tb_d tk_X8_tried_1 16 (28, .ireturn, 1) rfl
theorem dX8_tried_29 : decode cX8_tried 29 = .ok (.aload_n 0, 1) := tb_d tk_X8_tried_1 17 (29, .aload_n 0, 1) rfl
theorem dX8_tried_30 : decode cX8_tried 30 = .ok (.getfield 25, 3) := tb_d tk_X8_tried_1 18 (30, .getfield 25, 3) rfl
theorem dX8_tried_33 : decode cX8_tried 33 = .ok (.bipush 38, 2) := tb_d tk_X8_tried_1 19 (33, .bipush 38, 2) rfl
theorem dX8_tried_35 : decode cX8_tried 35 = .ok (.iconst 3, 1) := tb_d tk_X8_tried_1 20 (35, .iconst 3, 1) rfl
theorem dX8_tried_36 : decode cX8_tried 36 = .ok (.iload_n 1, 1) := tb_d tk_X8_tried_1 21 (36, .iload_n 1, 1) rfl
theorem dX8_tried_37 : decode cX8_tried 37 = .ok (.imul, 1) := tb_d tk_X8_tried_1 22 (37, .imul, 1) rfl
theorem dX8_tried_38 : decode cX8_tried 38 = .ok (.iadd, 1) := tb_d tk_X8_tried_1 23 (38, .iadd, 1) rfl
theorem dX8_tried_39 : decode cX8_tried 39 = .ok (.iload_n 2, 1) := tb_d tk_X8_tried_1 24 (39, .iload_n 2, 1) rfl
theorem dX8_tried_40 : decode cX8_tried 40 = .ok (.iadd, 1) := tb_d tk_X8_tried_1 25 (40, .iadd, 1) rfl
theorem dX8_tried_41 : decode cX8_tried 41 = .ok (.iaload, 1) := tb_d tk_X8_tried_1 26 (41, .iaload, 1) rfl
theorem dX8_tried_42 : decode cX8_tried 42 = .ok (.istore_n 3, 1) := tb_d tk_X8_tried_1 27 (42, .istore_n 3, 1) rfl
theorem dX8_tried_43 : decode cX8_tried 43 = .ok (.iload_n 2, 1) := tb_d tk_X8_tried_1 28 (43, .iload_n 2, 1) rfl
theorem dX8_tried_44 : decode cX8_tried 44 = .ok (.iconst 1, 1) := tb_d tk_X8_tried_1 29 (44, .iconst 1, 1) rfl
theorem dX8_tried_45 : decode cX8_tried 45 = .ok (.if_icmp .eq 7, 3) := tb_d tk_X8_tried_1 30 (45, .if_icmp .eq 7, 3) rfl
theorem dX8_tried_48 : decode cX8_tried 48 = .ok (.iload_n 3, 1) := tb_d tk_X8_tried_1 31 (48, .iload_n 3, 1) rfl
theorem dX8_tried_49 : decode cX8_tried 49 = .ok (.goto 15, 3) := tb_d tk_X8_tried_1 32 (49, .goto 15, 3) rfl
theorem dX8_tried_52 : decode cX8_tried 52 = .ok (.iload_n 3, 1) := tb_d tk_X8_tried_1 33 (52, .iload_n 3, 1) rfl
theorem dX8_tried_53 : decode cX8_tried 53 = .ok (.ifCond .ne 8, 3) := tb_d tk_X8_tried_1 34 (53, .ifCond .ne 8, 3) rfl
theorem dX8_tried_56 : decode cX8_tried 56 = .ok (.ldc 50, 2) := tb_d tk_X8_tried_1 35 (56, .ldc 50, 2) rfl
theorem dX8_tried_58 : decode cX8_tried 58 = .ok (.goto 6, 3) := tb_d tk_X8_tried_1 36 (58, .goto 6, 3) rfl
theorem dX8_tried_61 : decode cX8_tried 61 = .ok (.iload_n 3, 1) := tb_d tk_X8_tried_1 37 (61, .iload_n 3, 1) rfl
theorem dX8_tried_62 : decode cX8_tried 62 = .ok (.iconst 1, 1) := tb_d tk_X8_tried_1 38 (62, .iconst 1, 1) rfl
theorem dX8_tried_63 : decode cX8_tried 63 = .ok (.isub, 1) := tb_d tk_X8_tried_1 39 (63, .isub, 1) rfl
def tb_X8_tried_2 : List (Nat × Instr × Nat) := [(64, .ireturn, 1)]
set_option maxRecDepth 100000 in
theorem tk_X8_tried_2 : (tb_X8_tried_2.all fun q => decide (decode cX8_tried q.1 = .ok q.2)) = true := by decide +kernel
theorem dX8_tried_64 : decode cX8_tried 64 = .ok (.ireturn, 1) := tb_d tk_X8_tried_2 0 (64, .ireturn, 1) rfl
theorem ggX8_secret_X8_isGate : GoodIn wsX8_secret wsX8_isGate := fun w h => ⟨List.mem_cons_of_mem _ (List.mem_append_right _ (List.mem_append_right _ (List.mem_append_left _ h))), good_of_word (gdX8_isGate w h)⟩
set_option maxRecDepth 20000 in
theorem gX8_secret_X8_isGate : GoodIn wsX8_secret (wsV RX8 180 RX8 yX8_isGate wsX8_isGate) := goodIn_app (goodIn_of _ (by decide +kernel)) ggX8_secret_X8_isGate
theorem ggX8_secret_X8_isFar : GoodIn wsX8_secret wsX8_isFar := fun w h => ⟨List.mem_cons_of_mem _ (List.mem_append_right _ (List.mem_append_right _ (List.mem_append_right _ (List.mem_append_left _ h)))), good_of_word (gdX8_isFar w h)⟩
set_option maxRecDepth 20000 in
theorem gX8_secret_X8_isFar : GoodIn wsX8_secret (va_wsS RX8 205 yX8_isFar wsX8_isFar) := goodIn_app (goodIn_of _ (by decide +kernel)) ggX8_secret_X8_isFar
theorem ggX8_secret_X8_secretOf : GoodIn wsX8_secret wsX8_secretOf := fun w h => ⟨List.mem_cons_of_mem _ (List.mem_append_right _ (List.mem_append_right _ (List.mem_append_right _ (List.mem_append_right _ (List.mem_append_left _ h))))), good_of_word (gdX8_secretOf w h)⟩
set_option maxRecDepth 20000 in
theorem gX8_secret_X8_secretOf : GoodIn wsX8_secret (va_wsS RX8 172 yX8_secretOf wsX8_secretOf) := goodIn_app (goodIn_of _ (by decide +kernel)) ggX8_secret_X8_secretOf
