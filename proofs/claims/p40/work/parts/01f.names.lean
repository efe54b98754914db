theorem dX7_say_19 : decode cX7_say 19 = .ok (.aload_n 0, 1) := tb_d tk_X7_say_1 10 (19, .aload_n 0, 1) rfl
theorem dX7_say_20 : decode cX7_say 20 = .ok (.getfield 25, 3) := tb_d tk_X7_say_1 11 (20, .getfield 25, 3) rfl
theorem dX7_say_23 : decode cX7_say 23 = .ok (.getfield 137, 3) := tb_d tk_X7_say_1 12 (23, .getfield 137, 3) rfl
theorem dX7_say_26 : decode cX7_say 26 = .ok (.getfield 162, 3) := tb_d tk_X7_say_1 13 (26, .getfield 162, 3) rfl
theorem dX7_say_29 : decode cX7_say 29 = .ok (.bipush 9, 2) := tb_d tk_X7_say_1 14 (29, .bipush 9, 2) rfl
theorem dX7_say_31 : decode cX7_say 31 = .ok (.if_icmp .lt 6, 3) := tb_d tk_X7_say_1 15 (31, .if_icmp .lt 6, 3) rfl
theorem dX7_say_34 : decode cX7_say 34 = .ok (.ldc 105, 2) := tb_d tk_X7_say_1 16 (34, .ldc 105, 2) rfl
theorem dX7_say_36 : decode cX7_say 36 = .ok (.ireturn, 1) := tb_d tk_X7_say_1 17 (36, .ireturn, 1) rfl
theorem dX7_say_37 : decode cX7_say 37 = .ok (.aload_n 0, 1) := tb_d tk_X7_say_1 18 (37, .aload_n 0, 1) rfl
theorem dX7_say_38 : decode cX7_say 38 = .ok (.getfield 25, 3) := tb_d tk_X7_say_1 19 (38, .getfield 25, 3) rfl
theorem dX7_say_41 : decode cX7_say 41 = .ok (.aload_n 0, 1) := tb_d tk_X7_say_1 20 (41, .aload_n 0, 1) rfl
theorem dX7_say_42 : decode cX7_say 42 = .ok (.getfield 25, 3) := tb_d tk_X7_say_1 21 (42, .getfield 25, 3) rfl
theorem dX7_say_45 : decode cX7_say 45 = .ok (.getfield 137, 3) := tb_d tk_X7_say_1 22 (45, .getfield 137, 3) rfl
theorem dX7_say_48 : decode cX7_say 48 = .ok (.getfield 141, 3) := tb_d tk_X7_say_1 23 (48, .getfield 141, 3) rfl
theorem dX7_say_51 : decode cX7_say 51 = .ok (.iload_n 2, 1) := tb_d tk_X7_say_1 24 (51, .iload_n 2, 1) rfl
theorem dX7_say_52 : decode cX7_say 52 = .ok (.invokevirtual 165, 3) := tb_d tk_X7_say_1 25 (52, .invokevirtual 165, 3) rfl
theorem dX7_say_55 : decode cX7_say 55 = .ok (.istore_n 3, 1) := tb_d tk_X7_say_1 26 (55, .istore_n 3, 1) rfl
theorem dX7_say_56 : decode cX7_say 56 = .ok (.aload_n 0, 1) := tb_d tk_X7_say_1 27 (56, .aload_n 0, 1) rfl
theorem dX7_say_57 : decode cX7_say 57 = .ok (.getfield 25, 3) := tb_d tk_X7_say_1 28 (57, .getfield 25, 3) rfl
theorem dX7_say_60 : decode cX7_say 60 = .ok (.iload_n 1, 1) := tb_d tk_X7_say_1 29 (60, .iload_n 1, 1) rfl
theorem dX7_say_61 : decode cX7_say 61 = .ok (.iload_n 2, 1) := tb_d tk_X7_say_1 30 (61, .iload_n 2, 1) rfl
theorem dX7_say_62 : decode cX7_say 62 = .ok (.iconst 0, 1) := tb_d tk_X7_say_1 31 (62, .iconst 0, 1) rfl
theorem dX7_say_63 : decode cX7_say 63 = .ok (.invokevirtual 168, 3) := tb_d tk_X7_say_1 32 (63, .invokevirtual 168, 3) rfl
theorem dX7_say_66 : decode cX7_say 66 = .ok (.istore 4, 2) := tb_d tk_X7_say_1 33 (66, .istore 4, 2) rfl
theorem dX7_say_68 : decode cX7_say 68 = .ok (.aload_n 0, 1) := tb_d tk_X7_say_1 34 (68, .aload_n 0, 1) rfl
theorem dX7_say_69 : decode cX7_say 69 = .ok (.getfield 32, 3) := tb_d tk_X7_say_1 35 (69, .getfield 32, 3) rfl
theorem dX7_say_72 : decode cX7_say 72 = .ok (.aload_n 0, 1) := tb_d tk_X7_say_1 36 (72, .aload_n 0, 1) rfl
theorem dX7_say_73 : decode cX7_say 73 = .ok (.getfield 25, 3) := tb_d tk_X7_say_1 37 (73, .getfield 25, 3) rfl
theorem dX7_say_76 : decode cX7_say 76 = .ok (.getfield 137, 3) := tb_d tk_X7_say_1 38 (76, .getfield 137, 3) rfl
theorem dX7_say_79 : decode cX7_say 79 = .ok (.invokevirtual 146, 3) := tb_d tk_X7_say_1 39 (79, .invokevirtual 146, 3) rfl
def tb_X7_say_2 : List (Nat × Instr × Nat) := [(82, .aload_n 0, 1), (83, .getfield 25, 3), (86, .getfield 137, 3), (89, .iload_n 1, 1), (90, .aload_n 0, 1), (91, .getfield 25, 3), (94, .iload_n 3, 1), (95, .invokevirtual 172, 3), (98, .ifCond .eq 7, 3), (101, .iload_n 3, 1), (102, .goto 5, 3), (105, .ldc 175, 2), (107, .iload 4, 2), (109, .invokevirtual 176, 3), (112, .iload 4, 2), (114, .invokestatic 180, 3), (117, .ireturn, 1)]
set_option maxRecDepth 100000 in
theorem tk_X7_say_2 : (tb_X7_say_2.all fun q => decide (decode cX7_say q.1 = .ok q.2)) = true := by decide +kernel
theorem dX7_say_82 : decode cX7_say 82 = .ok (.aload_n 0, 1) := tb_d tk_X7_say_2 0 (82, .aload_n 0, 1) rfl
theorem dX7_say_83 : decode cX7_say 83 = .ok (.getfield 25, 3) := tb_d tk_X7_say_2 1 (83, .getfield 25, 3) rfl
theorem dX7_say_86 : decode cX7_say 86 = .ok (.getfield 137, 3) := tb_d tk_X7_say_2 2 (86, .getfield 137, 3) rfl
theorem dX7_say_89 : decode cX7_say 89 = .ok (.iload_n 1, 1) := tb_d tk_X7_say_2 3 (89, .iload_n 1, 1) rfl
theorem dX7_say_90 : decode cX7_say 90 = .ok (.aload_n 0, 1) := tb_d tk_X7_say_2 4 (90, .aload_n 0, 1) rfl
theorem dX7_say_91 : decode cX7_say 91 = .ok (.getfield 25, 3) := tb_d tk_X7_say_2 5 (91, .getfield 25, 3) rfl
theorem dX7_say_94 : decode cX7_say 94 = .ok (.iload_n 3, 1) := tb_d tk_X7_say_2 6 (94, .iload_n 3, 1) rfl
theorem dX7_say_95 : decode cX7_say 95 = .ok (.invokevirtual 172, 3) := tb_d tk_X7_say_2 7 (95, .invokevirtual 172, 3) rfl
theorem dX7_say_98 : decode cX7_say 98 = .ok (.ifCond .eq 7, 3) := tb_d tk_X7_say_2 8 (98, .ifCond .eq 7, 3) rfl
theorem dX7_say_101 : decode cX7_say 101 = .ok (.iload_n 3, 1) := tb_d tk_X7_say_2 9 (101, .iload_n 3, 1) rfl
theorem dX7_say_102 : decode cX7_say 102 = .ok (.goto 5, 3) := tb_d tk_X7_say_2 10 (102, .goto 5, 3) rfl
theorem dX7_say_105 : decode cX7_say 105 = .ok (.ldc 175, 2) := tb_d tk_X7_say_2 11 (105, .ldc 175, 2) rfl
theorem dX7_say_107 : decode cX7_say 107 = .ok (.iload 4, 2) := tb_d tk_X7_say_2 12 (107, .iload 4, 2) rfl
theorem dX7_say_109 : decode cX7_say 109 = .ok (.invokevirtual 176, 3) := tb_d tk_X7_say_2 13 (109, .invokevirtual 176, 3) rfl
theorem dX7_say_112 : decode cX7_say 112 = .ok (.iload 4, 2) := tb_d tk_X7_say_2 14 (112, .iload 4, 2) rfl
theorem dX7_say_114 : decode cX7_say 114 = .ok (.invokestatic 180, 3) := tb_d tk_X7_say_2 15 (114, .invokestatic 180, 3) rfl
theorem dX7_say_117 : decode cX7_say 117 = .ok (.ireturn, 1) := tb_d tk_X7_say_2 16 (117, .ireturn, 1) rfl
theorem ggX7_start_X7_noGate : GoodIn wsX7_start wsX7_noGate := fun w h => ⟨List.mem_cons_of_mem _ (List.mem_append_right _ (List.mem_append_right _ (List.mem_append_right _ (List.mem_append_right _ (List.mem_append_right _ (List.mem_append_right _ (List.mem_append_right _ (List.mem_append_left _ h)))))))), good_of_word (gdX7_noGate w h)⟩
set_option maxRecDepth 20000 in
theorem gX7_start_X7_noGate : GoodIn wsX7_start (wsV RX7 133 RX7 yX7_noGate wsX7_noGate) := goodIn_app (a := bkV RX7 133 RX7 yX7_noGate) (fun w h => ⟨List.mem_cons_of_mem _ (List.mem_append_right _ (List.mem_append_left _ h)), good_of_word (gd_bV _ _ _ _ w h)⟩) ggX7_start_X7_noGate
theorem ggX7_start_X0_keep : GoodIn wsX7_start wsX0_keep := fun w h => ⟨List.mem_cons_of_mem _ (List.mem_append_right _ (List.mem_append_right _ (List.mem_append_right _ (List.mem_append_right _ (List.mem_append_right _ (List.mem_append_right _ (List.mem_append_right _ (List.mem_append_right _ (List.mem_append_left _ h))))))))), good_of_word (gdX0_keep w h)⟩
set_option maxRecDepth 20000 in
theorem gX7_start_X0_keep : GoodIn wsX7_start (wsV RX7 146 RX0 yX0_keep wsX0_keep) := goodIn_app (a := bkV RX7 146 RX0 yX0_keep) (fun w h => ⟨List.mem_cons_of_mem _ (List.mem_append_right _ (List.mem_append_right _ (List.mem_append_left _ h))), good_of_word (gd_bV _ _ _ _ w h)⟩) ggX7_start_X0_keep
def tb_X7_start_1 : List (Nat × Instr × Nat) := [(0, .aload_n 0, 1), (1, .invokevirtual 133, 3), (4, .ifCond .eq 6, 3), (7, .ldc 136, 2), (9, .ireturn, 1), (10, .iload_n 1, 1), (11, .ifCond .lt 9, 3), (14, .iload_n 1, 1), (15, .bipush 9, 2), (17, .if_icmp .le 6, 3), (20, .ldc 59, 2), (22, .ireturn, 1), (23, .aload_n 0, 1), (24, .getfield 25, 3), (27, .getfield 137, 3), (30, .getfield 184, 3), (33, .istore_n 2, 1), (34, .aload_n 0, 1), (35, .getfield 32, 3), (38, .aload_n 0, 1), (39, .getfield 25, 3), (42, .getfield 137, 3), (45, .invokevirtual 146, 3), (48, .aload_n 0, 1), (49, .getfield 25, 3), (52, .getfield 137, 3), (55, .iload_n 1, 1), (56, .putfield 184, 3), (59, .iload_n 2, 1), (60, .ireturn, 1)]
set_option maxRecDepth 100000 in
theorem tk_X7_start_1 : (tb_X7_start_1.all fun q => decide (decode cX7_start q.1 = .ok q.2)) = true := by decide +kernel
theorem dX7_start_0 : decode cX7_start 0 = .ok (.aload_n 0, 1) := tb_d tk_X7_start_1 0 (0, .aload_n 0, 1) rfl
theorem dX7_start_1 : decode cX7_start 1 = .ok (.invokevirtual 133, 3) := tb_d tk_X7_start_1 1 (1, .invokevirtual 133, 3) rfl
theorem dX7_start_4 : decode cX7_start 4 = .ok (.ifCond .eq 6, 3) := tb_d tk_X7_start_1 2 (4, .ifCond .eq 6, 3) rfl
theorem dX7_start_7 : decode cX7_start 7 = .ok (.ldc 136, 2) := tb_d tk_X7_start_1 3 (7, .ldc 136, 2) rfl
theorem dX7_start_9 : decode cX7_start 9 = .ok (.ireturn, 1) := tb_d tk_X7_start_1 4 (9, .ireturn, 1) rfl
theorem dX7_start_10 : decode cX7_start 10 = .ok (.iload_n 1, 1) := tb_d tk_X7_start_1 5 (10, .iload_n 1, 1) rfl
theorem dX7_start_11 : decode cX7_start 11 = .ok (.ifCond .lt 9, 3) := tb_d tk_X7_start_1 6 (11, .ifCond .lt 9, 3) rfl
theorem dX7_start_14 : decode cX7_start 14 = .ok (.iload_n 1, 1) := tb_d tk_X7_start_1 7 (14, .iload_n 1, 1) rfl
theorem dX7_start_15 : decode cX7_start 15 = .ok (.bipush 9, 2) := tb_d tk_X7_start_1 8 (15, .bipush 9, 2) rfl
theorem dX7_start_17 : decode cX7_start 17 = .ok (.if_icmp .le 6, 3) := tb_d tk_X7_start_1 9 (17, .if_icmp .le 6, 3) rfl
theorem dX7_start_20 : decode cX7_start 20 = .ok (.ldc 59, 2) := tb_d tk_X7_start_1 10 (20, .ldc 59, 2) rfl
theorem dX7_start_22 : decode cX7_start 22 = .ok (.ireturn, 1) := tb_d tk_X7_start_1 11 (22, .ireturn, 1) rfl
theorem dX7_start_23 : decode cX7_start 23 = .ok (.aload_n 0, 1) := tb_d tk_X7_start_1 12 (23, .aload_n 0, 1) rfl
theorem dX7_start_24 : decode cX7_start 24 = .ok (.getfield 25, 3) := tb_d tk_X7_start_1 13 (24, .getfield 25, 3) rfl
theorem dX7_start_27 : decode cX7_start 27 = .ok (.getfield 137, 3) := tb_d tk_X7_start_1 14 (27, .getfield 137, 3) rfl
theorem dX7_start_30 : decode cX7_start 30 = .ok (.getfield 184, 3) := tb_d tk_X7_start_1 15 (30, .getfield 184, 3) rfl
theorem dX7_start_33 : decode cX7_start 33 = .ok (.istore_n 2, 1) := tb_d tk_X7_start_1 16 (33, .istore_n 2, 1) rfl
theorem dX7_start_34 : decode cX7_start 34 = .ok (.aload_n 0, 1) := tb_d tk_X7_start_1 17 (34, .aload_n 0, 1) rfl
theorem dX7_start_35 : decode cX7_start 35 = .ok (.getfield 32, 3) := tb_d tk_X7_start_1 18 (35, .getfield 32, 3) rfl
theorem dX7_start_38 : decode cX7_start 38 = .ok (.aload_n 0, 1) := tb_d tk_X7_start_1 19 (38, .aload_n 0, 1) rfl
theorem dX7_start_39 : decode cX7_start 39 = .ok (.getfield 25, 3) := tb_d tk_X7_start_1 20 (39, .getfield 25, 3) rfl
theorem dX7_start_42 : decode cX7_start 42 = .ok (.getfield 137, 3) := tb_d tk_X7_start_1 21 (42, .getfield 137, 3) rfl
theorem dX7_start_45 : decode cX7_start 45 = .ok (.invokevirtual 146, 3) := tb_d tk_X7_start_1 22 (45, .invokevirtual 146, 3) rfl
theorem dX7_start_48 : decode cX7_start 48 = .ok (.aload_n 0, 1) := tb_d tk_X7_start_1 23 (48, .aload_n 0, 1) rfl
theorem dX7_start_49 : decode cX7_start 49 = .ok (.getfield 25, 3) := tb_d tk_X7_start_1 24 (49, .getfield 25, 3) rfl
theorem dX7_start_52 : decode cX7_start 52 = .ok (.getfield 137, 3) := tb_d tk_X7_start_1 25 (52, .getfield 137, 3) rfl
theorem dX7_start_55 : decode cX7_start 55 = .ok (.iload_n 1, 1) := tb_d tk_X7_start_1 26 (55, .iload_n 1, 1) rfl
theorem dX7_start_56 : decode cX7_start 56 = .ok (.putfield 184, 3) := tb_d tk_X7_start_1 27 (56, .putfield 184, 3) rfl
theorem dX7_start_59 : decode cX7_start 59 = .ok (.iload_n 2, 1) := tb_d tk_X7_start_1 28 (59, .iload_n 2, 1) rfl
theorem dX7_start_60 : decode cX7_start 60 = .ok (.ireturn, 1) := tb_d tk_X7_start_1 29 (60, .ireturn, 1) rfl
theorem ggX7_dismiss_X7_isGuard : GoodIn wsX7_dismiss wsX7_isGuard := fun w h => ⟨List.mem_cons_of_mem _ (List.mem_append_right _ (List.mem_append_right _ (List.mem_append_right _ (List.mem_append_right _ (List.mem_append_right _ (List.mem_append_right _ (List.mem_append_right _ (List.mem_append_right _ (List.mem_append_right _ (List.mem_append_left _ h)))))))))), good_of_word (gdX7_isGuard w h)⟩
set_option maxRecDepth 20000 in
theorem gX7_dismiss_X7_isGuard : GoodIn wsX7_dismiss (wsV RX7 187 RX7 yX7_isGuard wsX7_isGuard) := goodIn_app (a := bkV RX7 187 RX7 yX7_isGuard) (fun w h => ⟨List.mem_cons_of_mem _ (List.mem_append_right _ (List.mem_append_left _ h)), good_of_word (gd_bV _ _ _ _ w h)⟩) ggX7_dismiss_X7_isGuard
theorem ggX7_dismiss_X2_isThere : GoodIn wsX7_dismiss wsX2_isThere := fun w h => ⟨List.mem_cons_of_mem _ (List.mem_append_right _ (List.mem_append_right _ (List.mem_append_right _ (List.mem_append_right _ (List.mem_append_right _ (List.mem_append_right _ (List.mem_append_right _ (List.mem_append_right _ (List.mem_append_right _ (List.mem_append_right _ (List.mem_append_left _ h))))))))))), good_of_word (gdX2_isThere w h)⟩
set_option maxRecDepth 20000 in
theorem gX7_dismiss_X2_isThere : GoodIn wsX7_dismiss (wsV RX7 172 RX2 yX2_isThere wsX2_isThere) := goodIn_app (a := bkV RX7 172 RX2 yX2_isThere) (fun w h => ⟨List.mem_cons_of_mem _ (List.mem_append_right _ (List.mem_append_right _ (List.mem_append_left _ h))), good_of_word (gd_bV _ _ _ _ w h)⟩) ggX7_dismiss_X2_isThere
theorem ggX7_dismiss_X7_bit : GoodIn wsX7_dismiss wsX7_bit := fun w h => ⟨List.mem_cons_of_mem _ (List.mem_append_right _ (List.mem_append_right _ (List.mem_append_right _ (List.mem_append_right _ (List.mem_append_right _ (List.mem_append_right _ (List.mem_append_right _ (List.mem_append_right _ (List.mem_append_right _ (List.mem_append_right _ (List.mem_append_right _ (List.mem_append_left _ h)))))))))))), good_of_word (gdX7_bit w h)⟩
set_option maxRecDepth 20000 in
theorem gX7_dismiss_X7_bit : GoodIn wsX7_dismiss (va_wsS RX7 180 yX7_bit wsX7_bit) := goodIn_app (a := bkS RX7 180 yX7_bit) (fun w h => ⟨List.mem_cons_of_mem _ (List.mem_append_right _ (List.mem_append_right _ (List.mem_append_right _ (List.mem_append_left _ h)))), good_of_word (gd_bS _ _ _ w h)⟩) ggX7_dismiss_X7_bit
theorem ggX7_dismiss_X0_keep : GoodIn wsX7_dismiss wsX0_keep := fun w h => ⟨List.mem_cons_of_mem _ (List.mem_append_right _ (List.mem_append_right _ (List.mem_append_right _ (List.mem_append_right _ (List.mem_append_right _ (List.mem_append_right _ (List.mem_append_right _ (List.mem_append_right _ (List.mem_append_right _ (List.mem_append_right _ (List.mem_append_right _ (List.mem_append_right _ (List.mem_append_left _ h))))))))))))), good_of_word (gdX0_keep w h)⟩
set_option maxRecDepth 20000 in
theorem gX7_dismiss_X0_keep : GoodIn wsX7_dismiss (wsV RX7 146 RX0 yX0_keep wsX0_keep) := goodIn_app (a := bkV RX7 146 RX0 yX0_keep) (fun w h => ⟨List.mem_cons_of_mem _ (List.mem_append_right _ (List.mem_append_right _ (List.mem_append_right _ (List.mem_append_right _ (List.mem_append_left _ h))))), good_of_word (gd_bV _ _ _ _ w h)⟩) ggX7_dismiss_X0_keep
def tb_X7_dismiss_1 : List (Nat × Instr × Nat) := [(0, .aload_n 0, 1), (1, .iload_n 1, 1), (2, .invokevirtual 187, 3), (5, .ifCond .eq 12, 3), (8, .iload_n 2, 1), (9, .ifCond .lt 8, 3), (12, .iload_n 2, 1), (13, .iconst 1, 1), (14, .if_icmp .le 6, 3), (17, .ldc 59, 2), (19, .ireturn, 1), (20, .aload_n 0, 1), (21, .getfield 25, 3), (24, .iload_n 1, 1), (25, .invokevirtual 172, 3), (28, .invokestatic 180, 3), (31, .iload_n 2, 1), (32, .if_icmp .ne 6, 3), (35, .ldc 136, 2), (37, .ireturn, 1), (38, .aload_n 0, 1), (39, .getfield 32, 3), (42, .aload_n 0, 1), (43, .getfield 25, 3), (46, .getfield 137, 3), (49, .invokevirtual 146, 3), (52, .aload_n 0, 1), (53, .getfield 25, 3), (56, .getfield 137, 3), (59, .dup, 1), (60, .getfield 190, 3), (63, .iconst 1, 1), (64, .iload_n 1, 1), (65, .ishl, 1), (66, .ixor, 1), (67, .putfield 190, 3), (70, .aload_n 0, 1), (71, .getfield 25, 3), (74, .getfield 137, 3), (77, .getfield 190, 3)]
set_option maxRecDepth 100000 in
theorem tk_X7_dismiss_1 : (tb_X7_dismiss_1.all fun q => decide (decode cX7_dismiss q.1 = .ok q.2)) = true := by decide +kernel
theorem dX7_dismiss_0 : decode cX7_dismiss 0 = .ok (.aload_n 0, 1) := tb_d tk_X7_dismiss_1 0 (0, .aload_n 0, 1) rfl
theorem dX7_dismiss_1 : decode cX7_dismiss 1 = .ok (.iload_n 1, 1) := tb_d tk_X7_dismiss_1 1 (1, .iload_n 1, 1) rfl
theorem dX7_dismiss_2 : decode cX7_dismiss 2 = .ok (.invokevirtual 187, 3) := tb_d tk_X7_dismiss_1 2 (2, .invokevirtual 187, 3) rfl
theorem dX7_dismiss_5 : decode cX7_dismiss 5 = .ok (.ifCond .eq 12, 3) := tb_d tk_X7_dismiss_1 3 (5, .ifCond .eq 12, 3) rfl
theorem dX7_dismiss_8 : decode cX7_dismiss 8 = .ok (.iload_n 2, 1) := tb_d tk_X7_dismiss_1 4 (8, .iload_n 2, 1) rfl
theorem dX7_dismiss_9 : decode cX7_dismiss 9 = .ok (.ifCond .lt 8, 3) := tb_d tk_X7_dismiss_1 5 (9, .ifCond .lt 8, 3) rfl
theorem dX7_dismiss_12 : decode cX7_dismiss 12 = .ok (.iload_n 2, 1) := tb_d tk_X7_dismiss_1 6 (12, .iload_n 2, 1) rfl
theorem dX7_dismiss_13 : decode cX7_dismiss 13 = .ok (.iconst 1, 1) := tb_d tk_X7_dismiss_1 7 (13, .iconst 1, 1) rfl
theorem dX7_dismiss_14 : decode cX7_dismiss 14 = .ok (.if_icmp .le 6, 3) := tb_d tk_X7_dismiss_1 8 (14, .if_icmp .le 6, 3) rfl
theorem dX7_dismiss_17 : decode cX7_dismiss 17 = .ok (.ldc 59, 2) := tb_d tk_X7_dismiss_1 9 (17, .ldc 59, 2) rfl
theorem dX7_dismiss_19 : decode cX7_dismiss 19 = .ok (.ireturn, 1) := tb_d tk_X7_dismiss_1 10 (19, .ireturn, 1) rfl
theorem dX7_dismiss_20 : decode cX7_dismiss 20 = .ok (.aload_n 0, 1) := tb_d tk_X7_dismiss_1 11 (20, .aload_n 0, 1) rfl
theorem dX7_dismiss_21 : decode cX7_dismiss 21 = .ok (.getfield 25, 3) := tb_d tk_X7_dismiss_1 12 (21, .getfield 25, 3) rfl
theorem dX7_dismiss_24 : decode cX7_dismiss 24 = .ok (.iload_n 1, 1) := tb_d tk_X7_dismiss_1 13 (24, .iload_n 1, 1) rfl
theorem dX7_dismiss_25 : decode cX7_dismiss 25 = .ok (.invokevirtual 172, 3) := tb_d tk_X7_dismiss_1 14 (25, .invokevirtual 172, 3) rfl
theorem dX7_dismiss_28 : decode cX7_dismiss 28 = .ok (.invokestatic 180, 3) := tb_d tk_X7_dismiss_1 15 (28, .invokestatic 180, 3) rfl
theorem dX7_dismiss_31 : decode cX7_dismiss 31 = .ok (.iload_n 2, 1) := tb_d tk_X7_dismiss_1 16 (31, .iload_n 2, 1) rfl
theorem dX7_dismiss_32 : decode cX7_dismiss 32 = .ok (.if_icmp .ne 6, 3) := tb_d tk_X7_dismiss_1 17 (32, .if_icmp .ne 6, 3) rfl
theorem dX7_dismiss_35 : decode cX7_dismiss 35 = .ok (.ldc 136, 2) := tb_d tk_X7_dismiss_1 18 (35, .ldc 136, 2) rfl
theorem dX7_dismiss_37 : decode cX7_dismiss 37 = .ok (.ireturn, 1) := tb_d tk_X7_dismiss_1 19 (37, .ireturn, 1) rfl
theorem dX7_dismiss_38 : decode cX7_dismiss 38 = .ok (.aload_n 0, 1) := tb_d tk_X7_dismiss_1 20 (38, .aload_n 0, 1) rfl
theorem dX7_dismiss_39 : decode cX7_dismiss 39 = .ok (.getfield 32, 3) := tb_d tk_X7_dismiss_1 21 (39, .getfield 32, 3) rfl
theorem dX7_dismiss_42 : decode cX7_dismiss 42 = .ok (.aload_n 0, 1) := tb_d tk_X7_dismiss_1 22 (42, .aload_n 0, 1) rfl
theorem dX7_dismiss_43 : decode cX7_dismiss 43 = .ok (.getfield 25, 3) := tb_d tk_X7_dismiss_1 23 (43, .getfield 25, 3) rfl
theorem dX7_dismiss_46 : decode cX7_dismiss 46 = .ok (.getfield 137, 3) := tb_d tk_X7_dismiss_1 24 (46, .getfield 137, 3) rfl
theorem dX7_dismiss_49 : decode cX7_dismiss 49 = .ok (.invokevirtual 146, 3) := tb_d tk_X7_dismiss_1 25 (49, .invokevirtual 146, 3) rfl
theorem dX7_dismiss_52 : decode cX7_dismiss 52 = .ok (.aload_n 0, 1) := tb_d tk_X7_dismiss_1 26 (52, .aload_n 0, 1) rfl
theorem dX7_dismiss_53 : decode cX7_dismiss 53 = .ok (.getfield 25, 3) := tb_d tk_X7_dismiss_1 27 (53, .getfield 25, 3) rfl
theorem dX7_dismiss_56 : decode cX7_dismiss 56 = .ok (.getfield 137, 3) := tb_d tk_X7_dismiss_1 28 (56, .getfield 137, 3) rfl
theorem dX7_dismiss_59 : decode cX7_dismiss 59 = .ok (.dup, 1) := tb_d tk_X7_dismiss_1 29 (59, .dup, 1) rfl
theorem dX7_dismiss_60 : decode cX7_dismiss 60 = .ok (.getfield 190, 3) := tb_d tk_X7_dismiss_1 30 (60, .getfield 190, 3) rfl
theorem dX7_dismiss_63 : decode cX7_dismiss 63 = .ok (.iconst 1, 1) := tb_d tk_X7_dismiss_1 31 (63, .iconst 1, 1) rfl
theorem dX7_dismiss_64 : decode cX7_dismiss 64 = .ok (.iload_n 1, 1) := tb_d tk_X7_dismiss_1 32 (64, .iload_n 1, 1) rfl
theorem dX7_dismiss_65 : decode cX7_dismiss 65 = .ok (.ishl, 1) := tb_d tk_X7_dismiss_1 33 (65, .ishl, 1) rfl
theorem dX7_dismiss_66 : decode cX7_dismiss 66 = .ok (.ixor, 1) := tb_d tk_X7_dismiss_1 34 (66, .ixor, 1) rfl
theorem dX7_dismiss_67 : decode cX7_dismiss 67 = .ok (.putfield 190, 3) := tb_d tk_X7_dismiss_1 35 (67, .putfield 190, 3) rfl
theorem dX7_dismiss_70 : decode cX7_dismiss 70 = .ok (.aload_n 0, 1) := tb_d tk_X7_dismiss_1 36 (70, .aload_n 0, 1) rfl
theorem dX7_dismiss_71 : decode cX7_dismiss 71 = .ok (.getfield 25, 3) := tb_d tk_X7_dismiss_1 37 (71, .getfield 25, 3) rfl
theorem dX7_dismiss_74 : decode cX7_dismiss 74 = .ok (.getfield 137, 3) := tb_d tk_X7_dismiss_1 38 (74, .getfield 137, 3) rfl
theorem dX7_dismiss_77 : decode cX7_dismiss 77 = .ok (.getfield 190, 3) := tb_d tk_X7_dismiss_1 39 (77, .getfield 190, 3) rfl
def tb_X7_dismiss_2 : List (Nat × Instr × Nat) := [(80, .ireturn, 1)]
set_option maxRecDepth 100000 in
theorem tk_X7_dismiss_2 : (tb_X7_dismiss_2.all fun q => decide (decode cX7_dismiss q.1 = .ok q.2)) = true := by decide +kernel
theorem dX7_dismiss_80 : decode cX7_dismiss 80 = .ok (.ireturn, 1) := tb_d tk_X7_dismiss_2 0 (80, .ireturn, 1) rfl
theorem ggX7_undo_X0_takeBack : GoodIn wsX7_undo wsX0_takeBack := fun w h => ⟨List.mem_cons_of_mem _ (List.mem_append_right _ (List.mem_append_right _ (List.mem_append_right _ (List.mem_append_right _ (List.mem_append_right _ (List.mem_append_right _ (List.mem_append_left _ h))))))), good_of_word (gdX0_takeBack w h)⟩
set_option maxRecDepth 20000 in
theorem gX7_undo_X0_takeBack : GoodIn wsX7_undo (wsV RX7 193 RX0 yX0_takeBack wsX0_takeBack) := goodIn_app (a := bkV RX7 193 RX0 yX0_takeBack) (fun w h => ⟨List.mem_cons_of_mem _ (List.mem_append_right _ (List.mem_append_left _ h)), good_of_word (gd_bV _ _ _ _ w h)⟩) ggX7_undo_X0_takeBack
def tb_X7_undo_1 : List (Nat × Instr × Nat) := [(0, .aload_n 0, 1), (1, .getfield 32, 3), (4, .aload_n 0, 1), (5, .getfield 25, 3), (8, .getfield 137, 3), (11, .invokevirtual 193, 3), (14, .ifCond .eq 13, 3), (17, .aload_n 0, 1), (18, .getfield 32, 3), (21, .getfield 197, 3), (24, .goto 5, 3), (27, .ldc 136, 2), (29, .ireturn, 1)]
set_option maxRecDepth 100000 in
theorem tk_X7_undo_1 : (tb_X7_undo_1.all fun q => decide (decode cX7_undo q.1 = .ok q.2)) = true := by decide +kernel
theorem dX7_undo_0 : decode cX7_undo 0 = .ok (.aload_n 0, 1) := tb_d tk_X7_undo_1 0 (0, .aload_n 0, 1) rfl
theorem dX7_undo_1 : decode cX7_undo 1 = .ok (.getfield 32, 3) := tb_d tk_X7_undo_1 1 (1, .getfield 32, 3) rfl
theorem dX7_undo_4 : decode cX7_undo 4 = .ok (.aload_n 0, 1) := tb_d tk_X7_undo_1 2 (4, .aload_n 0, 1) rfl
theorem dX7_undo_5 : decode cX7_undo 5 = .ok (.getfield 25, 3) := tb_d tk_X7_undo_1 3 (5, .getfield 25, 3) rfl
theorem dX7_undo_8 : decode cX7_undo 8 = .ok (.getfield 137, 3) := tb_d tk_X7_undo_1 4 (8, .getfield 137, 3) rfl
theorem dX7_undo_11 : decode cX7_undo 11 = .ok (.invokevirtual 193, 3) := tb_d tk_X7_undo_1 5 (11, .invokevirtual 193, 3) rfl
theorem dX7_undo_14 : decode cX7_undo 14 = .ok (.ifCond .eq 13, 3) := tb_d tk_X7_undo_1 6 (14, .ifCond .eq 13, 3) rfl
theorem dX7_undo_17 : decode cX7_undo 17 = .ok (.aload_n 0, 1) := tb_d tk_X7_undo_1 7 (17, .aload_n 0, 1) rfl
theorem dX7_undo_18 : decode cX7_undo 18 = .ok (.getfield 32, 3) := tb_d tk_X7_undo_1 8 (18, .getfield 32, 3) rfl
theorem dX7_undo_21 : decode cX7_undo 21 = .ok (.getfield 197, 3) := tb_d tk_X7_undo_1 9 (21, .getfield 197, 3) rfl
theorem dX7_undo_24 : decode cX7_undo 24 = .ok (.goto 5, 3) := tb_d tk_X7_undo_1 10 (24, .goto 5, 3) rfl
theorem dX7_undo_27 : decode cX7_undo 27 = .ok (.ldc 136, 2) := tb_d tk_X7_undo_1 11 (27, .ldc 136, 2) rfl
theorem dX7_undo_29 : decode cX7_undo 29 = .ok (.ireturn, 1) := tb_d tk_X7_undo_1 12 (29, .ireturn, 1) rfl
theorem ggX7_letter_X7_isWord : GoodIn wsX7_letter wsX7_isWord := fun w h => ⟨List.mem_cons_of_mem _ (List.mem_append_right _ (List.mem_append_right _ (List.mem_append_right _ (List.mem_append_right _ (List.mem_append_left _ h))))), good_of_word (gdX7_isWord w h)⟩
set_option maxRecDepth 20000 in
theorem gX7_letter_X7_isWord : GoodIn wsX7_letter (wsV RX7 156 RX7 yX7_isWord wsX7_isWord) := goodIn_app (a := bkV RX7 156 RX7 yX7_isWord) (fun w h => ⟨List.mem_cons_of_mem _ (List.mem_append_right _ (List.mem_append_left _ h)), good_of_word (gd_bV _ _ _ _ w h)⟩) ggX7_letter_X7_isWord
def tb_X7_letter_1 : List (Nat × Instr × Nat) := [(0, .aload_n 0, 1), (1, .iload_n 1, 1), (2, .invokevirtual 156, 3), (5, .ifCond .eq 12, 3), (8, .iload_n 2, 1), (9, .ifCond .lt 8, 3), (12, .iload_n 2, 1), (13, .iconst 3, 1), (14, .if_icmp .lt 6, 3), (17, .ldc 59, 2), (19, .ireturn, 1), (20, .aload_n 0, 1), (21, .getfield 25, 3), (24, .getfield 200, 3), (27, .iload_n 1, 1), (28, .iconst 3, 1), (29, .imul, 1), (30, .iload_n 2, 1), (31, .iadd, 1), (32, .iaload, 1), (33, .ireturn, 1)]
set_option maxRecDepth 100000 in
theorem tk_X7_letter_1 : (tb_X7_letter_1.all fun q => decide (decode cX7_letter q.1 = .ok q.2)) = true := by decide +kernel
theorem dX7_letter_0 : decode cX7_letter 0 = .ok (.aload_n 0, 1) := tb_d tk_X7_letter_1 0 (0, .aload_n 0, 1) rfl
theorem dX7_letter_1 : decode cX7_letter 1 = .ok (.iload_n 1, 1) := tb_d tk_X7_letter_1 1 (1, .iload_n 1, 1) rfl
theorem dX7_letter_2 : decode cX7_letter 2 = .ok (.invokevirtual 156, 3) := tb_d tk_X7_letter_1 2 (2, .invokevirtual 156, 3) rfl
theorem dX7_letter_5 : decode cX7_letter 5 = .ok (.ifCond .eq 12, 3) := tb_d tk_X7_letter_1 3 (5, .ifCond .eq 12, 3) rfl
theorem dX7_letter_8 : decode cX7_letter 8 = .ok (.iload_n 2, 1) := tb_d tk_X7_letter_1 4 (8, .iload_n 2, 1) rfl
theorem dX7_letter_9 : decode cX7_letter 9 = .ok (.ifCond .lt 8, 3) := tb_d tk_X7_letter_1 5 (9, .ifCond .lt 8, 3) rfl
theorem dX7_letter_12 : decode cX7_letter 12 = .ok (.iload_n 2, 1) := tb_d tk_X7_letter_1 6 (12, .iload_n 2, 1) rfl
theorem dX7_letter_13 : decode cX7_letter 13 = .ok (.iconst 3, 1) := tb_d tk_X7_letter_1 7 (13, .iconst 3, 1) rfl
theorem dX7_letter_14 : decode cX7_letter 14 = .ok (.if_icmp .lt 6, 3) := tb_d tk_X7_letter_1 8 (14, .if_icmp .lt 6, 3) rfl
theorem dX7_letter_17 : decode cX7_letter 17 = .ok (.ldc 59, 2) := tb_d tk_X7_letter_1 9 (17, .ldc 59, 2) rfl
theorem dX7_letter_19 : decode cX7_letter 19 = .ok (.ireturn, 1) := tb_d tk_X7_letter_1 10 (19, .ireturn, 1) rfl
theorem dX7_letter_20 : decode cX7_letter 20 = .ok (.aload_n 0, 1) := tb_d tk_X7_letter_1 11 (20, .aload_n 0, 1) rfl
theorem dX7_letter_21 : decode cX7_letter 21 = .ok (.getfield 25, 3) := tb_d tk_X7_letter_1 12 (21, .getfield 25, 3) rfl
theorem dX7_letter_24 : decode cX7_letter 24 = .ok (.getfield 200, 3) := tb_d tk_X7_letter_1 13 (24, .getfield 200, 3) rfl
theorem dX7_letter_27 : decode cX7_letter 27 = .ok (.iload_n 1, 1) := tb_d tk_X7_letter_1 14 (27, .iload_n 1, 1) rfl
theorem dX7_letter_28 : decode cX7_letter 28 = .ok (.iconst 3, 1) := tb_d tk_X7_letter_1 15 (28, .iconst 3, 1) rfl
theorem dX7_letter_29 : decode cX7_letter 29 = .ok (.imul, 1) := tb_d tk_X7_letter_1 16 (29, .imul, 1) rfl
theorem dX7_letter_30 : decode cX7_letter 30 = .ok (.iload_n 2, 1) := tb_d tk_X7_letter_1 17 (30, .iload_n 2, 1) rfl
theorem dX7_letter_31 : decode cX7_letter 31 = .ok (.iadd, 1) := tb_d tk_X7_letter_1 18 (31, .iadd, 1) rfl
theorem dX7_letter_32 : decode cX7_letter 32 = .ok (.iaload, 1) := tb_d tk_X7_letter_1 19 (32, .iaload, 1) rfl
theorem dX7_letter_33 : decode cX7_letter 33 = .ok (.ireturn, 1) := tb_d tk_X7_letter_1 20 (33, .ireturn, 1) rfl
theorem ggX7_like_X7_isWord : GoodIn wsX7_like wsX7_isWord := fun w h => ⟨List.mem_cons_of_mem _ (List.mem_append_right _ (List.mem_append_right _ (List.mem_append_right _ (List.mem_append_right _ (List.mem_append_right _ (List.mem_append_right _ (List.mem_append_left _ h))))))), good_of_word (gdX7_isWord w h)⟩
set_option maxRecDepth 20000 in
theorem gX7_like_X7_isWord : GoodIn wsX7_like (wsV RX7 156 RX7 yX7_isWord wsX7_isWord) := goodIn_app (a := bkV RX7 156 RX7 yX7_isWord) (fun w h => ⟨List.mem_cons_of_mem _ (List.mem_append_right _ (List.mem_append_left _ h)), good_of_word (gd_bV _ _ _ _ w h)⟩) ggX7_like_X7_isWord
theorem ggX7_like_X2_distance : GoodIn wsX7_like wsX2_distance := fun w h => ⟨List.mem_cons_of_mem _ (List.mem_append_right _ (List.mem_append_right _ (List.mem_append_right _ (List.mem_append_right _ (List.mem_append_right _ (List.mem_append_right _ (List.mem_append_right _ (List.mem_append_left _ h)))))))), good_of_word (gdX2_distance w h)⟩
set_option maxRecDepth 20000 in
theorem gX7_like_X2_distance : GoodIn wsX7_like (wsV RX7 203 RX2 yX2_distance wsX2_distance) := goodIn_app (a := bkV RX7 203 RX2 yX2_distance) (fun w h => ⟨List.mem_cons_of_mem _ (List.mem_append_right _ (List.mem_append_right _ (List.mem_append_left _ h))), good_of_word (gd_bV _ _ _ _ w h)⟩) ggX7_like_X2_distance
theorem ggX7_like_X2_lips : GoodIn wsX7_like wsX2_lips := fun w h => ⟨List.mem_cons_of_mem _ (List.mem_append_right _ (List.mem_append_right _ (List.mem_append_right _ (List.mem_append_right _ (List.mem_append_right _ (List.mem_append_right _ (List.mem_append_right _ (List.mem_append_right _ (List.mem_append_left _ h))))))))), good_of_word (gdX2_lips w h)⟩
set_option maxRecDepth 20000 in
theorem gX7_like_X2_lips : GoodIn wsX7_like (wsV RX7 206 RX2 yX2_lips wsX2_lips) := goodIn_app (a := bkV RX7 206 RX2 yX2_lips) (fun w h => ⟨List.mem_cons_of_mem _ (List.mem_append_right _ (List.mem_append_right _ (List.mem_append_right _ (List.mem_append_left _ h)))), good_of_word (gd_bV _ _ _ _ w h)⟩) ggX7_like_X2_lips
def tb_X7_like_1 : List (Nat × Instr × Nat) := [(0, .aload_n 0, 1), (1, .iload_n 1, 1), (2, .invokevirtual 156, 3), (5, .ifCond .eq 20, 3), (8, .aload_n 0, 1), (9, .iload_n 2, 1), (10, .invokevirtual 156, 3), (13, .ifCond .eq 12, 3), (16, .iload_n 3, 1), (17, .ifCond .lt 8, 3), (20, .iload_n 3, 1), (21, .iconst 1, 1), (22, .if_icmp .le 6, 3), (25, .ldc 59, 2), (27, .ireturn, 1), (28, .iload_n 3, 1), (29, .ifCond .ne 15, 3), (32, .aload_n 0, 1), (33, .getfield 25, 3), (36, .iload_n 1, 1), (37, .iload_n 2, 1), (38, .invokevirtual 203, 3), (41, .goto 12, 3), (44, .aload_n 0, 1), (45, .getfield 25, 3), (48, .iload_n 1, 1), (49, .iload_n 2, 1), (50, .invokevirtual 206, 3), (53, .ireturn, 1)]
set_option maxRecDepth 100000 in
theorem tk_X7_like_1 : (tb_X7_like_1.all fun q => decide (decode cX7_like q.1 = .ok q.2)) = true := by decide +kernel
theorem dX7_like_0 : decode cX7_like 0 = .ok (.aload_n 0, 1) := tb_d tk_X7_like_1 0 (0, .aload_n 0, 1) rfl
theorem dX7_like_1 : decode cX7_like 1 = .ok (.iload_n 1, 1) := tb_d tk_X7_like_1 1 (1, .iload_n 1, 1) rfl
theorem dX7_like_2 : decode cX7_like 2 = .ok (.invokevirtual 156, 3) := tb_d tk_X7_like_1 2 (2, .invokevirtual 156, 3) rfl
theorem dX7_like_5 : decode cX7_like 5 = .ok (.ifCond .eq 20, 3) := tb_d tk_X7_like_1 3 (5, .ifCond .eq 20, 3) rfl
theorem dX7_like_8 : decode cX7_like 8 = .ok (.aload_n 0, 1) := tb_d tk_X7_like_1 4 (8, .aload_n 0, 1) rfl
theorem dX7_like_9 : decode cX7_like 9 = .ok (.iload_n 2, 1) := tb_d tk_X7_like_1 5 (9, .iload_n 2, 1) rfl
theorem dX7_like_10 : decode cX7_like 10 = .ok (.invokevirtual 156, 3) := tb_d tk_X7_like_1 6 (10, .invokevirtual 156, 3) rfl
theorem dX7_like_13 : decode cX7_like 13 = .ok (.ifCond .eq 12, 3) := tb_d tk_X7_like_1 7 (13, .ifCond .eq 12, 3) rfl
theorem dX7_like_16 : decode cX7_like 16 = .ok (.iload_n 3, 1) := tb_d tk_X7_like_1 8 (16, .iload_n 3, 1) rfl
theorem dX7_like_17 : decode cX7_like 17 = .ok (.ifCond .lt 8, 3) := tb_d tk_X7_like_1 9 (17, .ifCond .lt 8, 3) rfl
theorem dX7_like_20 : decode cX7_like 20 = .ok (.iload_n 3, 1) := tb_d tk_X7_like_1 10 (20, .iload_n 3, 1) rfl
theorem dX7_like_21 : decode cX7_like 21 = .ok (.iconst 1, 1) := tb_d tk_X7_like_1 11 (21, .iconst 1, 1) rfl
theorem dX7_like_22 : decode cX7_like 22 = .ok (.if_icmp .le 6, 3) := tb_d tk_X7_like_1 12 (22, .if_icmp .le 6, 3) rfl
theorem dX7_like_25 : decode cX7_like 25 = .ok (.ldc 59, 2) := tb_d tk_X7_like_1 13 (25, .ldc 59, 2) rfl
theorem dX7_like_27 : decode cX7_like 27 = .ok (.ireturn, 1) := tb_d tk_X7_like_1 14 (27, .ireturn, 1) rfl
theorem dX7_like_28 : decode cX7_like 28 = .ok (.iload_n 3, 1) := tb_d tk_X7_like_1 15 (28, .iload_n 3, 1) rfl
theorem dX7_like_29 : decode cX7_like 29 = .ok (.ifCond .ne 15, 3) := tb_d tk_X7_like_1 16 (29, .ifCond .ne 15, 3) rfl
theorem dX7_like_32 : decode cX7_like 32 = .ok (.aload_n 0, 1) := tb_d tk_X7_like_1 17 (32, .aload_n 0, 1) rfl
theorem dX7_like_33 : decode cX7_like 33 = .ok (.getfield 25, 3) := tb_d tk_X7_like_1 18 (33, .getfield 25, 3) rfl
theorem dX7_like_36 : decode cX7_like 36 = .ok (.iload_n 1, 1) := tb_d tk_X7_like_1 19 (36, .iload_n 1, 1) rfl
theorem dX7_like_37 : decode cX7_like 37 = .ok (.iload_n 2, 1) := tb_d tk_X7_like_1 20 (37, .iload_n 2, 1) rfl
theorem dX7_like_38 : decode cX7_like 38 = .ok (.invokevirtual 203, 3) := tb_d tk_X7_like_1 21 (38, .invokevirtual 203, 3) rfl
theorem dX7_like_41 : decode cX7_like 41 = .ok (.goto 12, 3) := tb_d tk_X7_like_1 22 (41, .goto 12, 3) rfl
theorem dX7_like_44 : decode cX7_like 44 = .ok (.aload_n 0, 1) := tb_d tk_X7_like_1 23 (44, .aload_n 0, 1) rfl
theorem dX7_like_45 : decode cX7_like 45 = .ok (.getfield 25, 3) := tb_d tk_X7_like_1 24 (45, .getfield 25, 3) rfl
theorem dX7_like_48 : decode cX7_like 48 = .ok (.iload_n 1, 1) := tb_d tk_X7_like_1 25 (48, .iload_n 1, 1) rfl
theorem dX7_like_49 : decode cX7_like 49 = .ok (.iload_n 2, 1) := tb_d tk_X7_like_1 26 (49, .iload_n 2, 1) rfl
theorem dX7_like_50 : decode cX7_like 50 = .ok (.invokevirtual 206, 3) := tb_d tk_X7_like_1 27 (50, .invokevirtual 206, 3) rfl
theorem dX7_like_53 : decode cX7_like 53 = .ok (.ireturn, 1) := tb_d tk_X7_like_1 28 (53, .ireturn, 1) rfl
theorem ggX7_guard_X7_isGuard : GoodIn wsX7_guard wsX7_isGuard := fun w h => ⟨List.mem_cons_of_mem _ (List.mem_append_right _ (List.mem_append_right _ (List.mem_append_right _ (List.mem_append_right _ (List.mem_append_right _ (List.mem_append_right _ (List.mem_append_right _ (List.mem_append_right _ (List.mem_append_left _ h))))))))), good_of_word (gdX7_isGuard w h)⟩
set_option maxRecDepth 20000 in
theorem gX7_guard_X7_isGuard : GoodIn wsX7_guard (wsV RX7 187 RX7 yX7_isGuard wsX7_isGuard) := goodIn_app (a := bkV RX7 187 RX7 yX7_isGuard) (fun w h => ⟨List.mem_cons_of_mem _ (List.mem_append_right _ (List.mem_append_left _ h)), good_of_word (gd_bV _ _ _ _ w h)⟩) ggX7_guard_X7_isGuard
theorem ggX7_guard_X2_isThere : GoodIn wsX7_guard wsX2_isThere := fun w h => ⟨List.mem_cons_of_mem _ (List.mem_append_right _ (List.mem_append_right _ (List.mem_append_right _ (List.mem_append_right _ (List.mem_append_right _ (List.mem_append_right _ (List.mem_append_right _ (List.mem_append_right _ (List.mem_append_right _ (List.mem_append_left _ h)))))))))), good_of_word (gdX2_isThere w h)⟩
set_option maxRecDepth 20000 in
theorem gX7_guard_X2_isThere : GoodIn wsX7_guard (wsV RX7 172 RX2 yX2_isThere wsX2_isThere) := goodIn_app (a := bkV RX7 172 RX2 yX2_isThere) (fun w h => ⟨List.mem_cons_of_mem _ (List.mem_append_right _ (List.mem_append_right _ (List.mem_append_left _ h))), good_of_word (gd_bV _ _ _ _ w h)⟩) ggX7_guard_X2_isThere
theorem ggX7_guard_X7_bit : GoodIn wsX7_guard wsX7_bit := fun w h => ⟨List.mem_cons_of_mem _ (List.mem_append_right _ (List.mem_append_right _ (List.mem_append_right _ (List.mem_append_right _ (List.mem_append_right _ (List.mem_append_right _ (List.mem_append_right _ (List.mem_append_right _ (List.mem_append_right _ (List.mem_append_right _ (List.mem_append_left _ h))))))))))), good_of_word (gdX7_bit w h)⟩
set_option maxRecDepth 20000 in
theorem gX7_guard_X7_bit : GoodIn wsX7_guard (va_wsS RX7 180 yX7_bit wsX7_bit) := goodIn_app (a := bkS RX7 180 yX7_bit) (fun w h => ⟨List.mem_cons_of_mem _ (List.mem_append_right _ (List.mem_append_right _ (List.mem_append_right _ (List.mem_append_left _ h)))), good_of_word (gd_bS _ _ _ w h)⟩) ggX7_guard_X7_bit
theorem ggX7_guard_X2_hoursOf : GoodIn wsX7_guard wsX2_hoursOf := fun w h => ⟨List.mem_cons_of_mem _ (List.mem_append_right _ (List.mem_append_right _ (List.mem_append_right _ (List.mem_append_right _ (List.mem_append_right _ (List.mem_append_right _ (List.mem_append_right _ (List.mem_append_right _ (List.mem_append_right _ (List.mem_append_right _ (List.mem_append_right _ (List.mem_append_left _ h)))))))))))), good_of_word (gdX2_hoursOf w h)⟩
set_option maxRecDepth 20000 in
theorem gX7_guard_X2_hoursOf : GoodIn wsX7_guard (wsV RX7 215 RX2 yX2_hoursOf wsX2_hoursOf) := goodIn_app (a := bkV RX7 215 RX2 yX2_hoursOf) (fun w h => ⟨List.mem_cons_of_mem _ (List.mem_append_right _ (List.mem_append_right _ (List.mem_append_right _ (List.mem_append_right _ (List.mem_append_left _ h))))), good_of_word (gd_bV _ _ _ _ w h)⟩) ggX7_guard_X2_hoursOf
def tb_X7_guard_1 : List (Nat × Instr × Nat) := [(0, .aload_n 0, 1), (1, .iload_n 1, 1), (2, .invokevirtual 187, 3), (5, .ifCond .ne 6, 3), (8, .ldc 59, 2), (10, .ireturn, 1), (11, .iload_n 2, 1), (12, .tableswitch 76 0 3 #[32, 42, 55, 67], 32), (44, .aload_n 0, 1), (45, .getfield 25, 3), (48, .getfield 209, 3), (51, .iload_n 1, 1), (52, .iaload, 1), (53, .ireturn, 1), (54, .aload_n 0, 1), (55, .getfield 25, 3), (58, .getfield 137, 3), (61, .getfield 212, 3), (64, .iload_n 1, 1), (65, .iaload, 1), (66, .ireturn, 1), (67, .aload_n 0, 1), (68, .getfield 25, 3), (71, .iload_n 1, 1), (72, .invokevirtual 172, 3), (75, .invokestatic 180, 3), (78, .ireturn, 1), (79, .aload_n 0, 1), (80, .getfield 25, 3), (83, .iload_n 1, 1), (84, .invokevirtual 215, 3), (87, .ireturn, 1), (88, .ldc 59, 2), (90, .ireturn, 1)]
set_option maxRecDepth 100000 in
theorem tk_X7_guard_1 : (tb_X7_guard_1.all fun q => decide (decode cX7_guard q.1 = .ok q.2)) = true := by decide +kernel
theorem dX7_guard_0 : decode cX7_guard 0 = .ok (.aload_n 0, 1) := tb_d tk_X7_guard_1 0 (0, .aload_n 0, 1) rfl
theorem dX7_guard_1 : decode cX7_guard 1 = .ok (.iload_n 1, 1) := tb_d tk_X7_guard_1 1 (1, .iload_n 1, 1) rfl
theorem dX7_guard_2 : decode cX7_guard 2 = .ok (.invokevirtual 187, 3) := tb_d tk_X7_guard_1 2 (2, .invokevirtual 187, 3) rfl
theorem dX7_guard_5 : decode cX7_guard 5 = .ok (.ifCond .ne 6, 3) := tb_d tk_X7_guard_1 3 (5, .ifCond .ne 6, 3) rfl
theorem dX7_guard_8 : decode cX7_guard 8 = .ok (.ldc 59, 2) := tb_d tk_X7_guard_1 4 (8, .ldc 59, 2) rfl
theorem dX7_guard_10 : decode cX7_guard 10 = .ok (.ireturn, 1) := tb_d tk_X7_guard_1 5 (10, .ireturn, 1) rfl
theorem dX7_guard_11 : decode cX7_guard 11 = .ok (.iload_n 2, 1) := tb_d tk_X7_guard_1 6 (11, .iload_n 2, 1) rfl
theorem dX7_guard_12 : decode cX7_guard 12 = .ok (.tableswitch 76 0 3 #[32, 42, 55, 67], 32) := tb_d tk_X7_guard_1 7 (12, .tableswitch 76 0 3 #[32, 42, 55, 67], 32) rfl
theorem dX7_guard_44 : decode cX7_guard 44 = .ok (.aload_n 0, 1) := tb_d tk_X7_guard_1 8 (44, .aload_n 0, 1) rfl
theorem dX7_guard_45 : decode cX7_guard 45 = .ok (.getfield 25, 3) := tb_d tk_X7_guard_1 9 (45, .getfield 25, 3) rfl
theorem dX7_guard_48 : decode cX7_guard 48 = .ok (.getfield 209, 3) := tb_d tk_X7_guard_1 10 (48, .getfield 209, 3) rfl
theorem dX7_guard_51 : decode cX7_guard 51 = .ok (.iload_n 1, 1) := tb_d tk_X7_guard_1 11 (51, .iload_n 1, 1) rfl
theorem dX7_guard_52 : decode cX7_guard 52 = .ok (.iaload, 1) := tb_d tk_X7_guard_1 12 (52, .iaload, 1) rfl
theorem dX7_guard_53 : decode cX7_guard 53 = .ok (.ireturn, 1) := tb_d tk_X7_guard_1 13 (53, .ireturn, 1) rfl
theorem dX7_guard_54 : decode cX7_guard 54 = .ok (.aload_n 0, 1) := tb_d tk_X7_guard_1 14 (54, .aload_n 0, 1) rfl
theorem dX7_guard_55 : decode cX7_guard 55 = .ok (.getfield 25, 3) := tb_d tk_X7_guard_1 15 (55, .getfield 25, 3) rfl
theorem dX7_guard_58 : decode cX7_guard 58 = .ok (.getfield 137, 3) := tb_d tk_X7_guard_1 16 (58, .getfield 137, 3) rfl
theorem dX7_guard_61 : decode cX7_guard 61 = .ok (.getfield 212, 3) := tb_d tk_X7_guard_1 17 (61, .getfield 212, 3) rfl
theorem dX7_guard_64 : decode cX7_guard 64 = .ok (.iload_n 1, 1) := tb_d tk_X7_guard_1 18 (64, .iload_n 1, 1) rfl
theorem dX7_guard_65 : decode cX7_guard 65 = .ok (.iaload, 1) := tb_d tk_X7_guard_1 19 (65, .iaload, 1) rfl
theorem dX7_guard_66 : decode cX7_guard 66 = .ok (.ireturn, 1) := tb_d tk_X7_guard_1 20 (66, .ireturn, 1) rfl
theorem dX7_guard_67 : decode cX7_guard 67 = .ok (.aload_n 0, 1) := tb_d tk_X7_guard_1 21 (67, .aload_n 0, 1) rfl
theorem dX7_guard_68 : decode cX7_guard 68 = .ok (.getfield 25, 3) := tb_d tk_X7_guard_1 22 (68, .getfield 25, 3) rfl
theorem dX7_guard_71 : decode cX7_guard 71 = .ok (.iload_n 1, 1) := tb_d tk_X7_guard_1 23 (71, .iload_n 1, 1) rfl
theorem dX7_guard_72 : decode cX7_guard 72 = .ok (.invokevirtual 172, 3) := tb_d tk_X7_guard_1 24 (72, .invokevirtual 172, 3) rfl
theorem dX7_guard_75 : decode cX7_guard 75 = .ok (.invokestatic 180, 3) := tb_d tk_X7_guard_1 25 (75, .invokestatic 180, 3) rfl
theorem dX7_guard_78 : decode cX7_guard 78 = .ok (.ireturn, 1) := tb_d tk_X7_guard_1 26 (78, .ireturn, 1) rfl
theorem dX7_guard_79 : decode cX7_guard 79 = .ok (.aload_n 0, 1) := tb_d tk_X7_guard_1 27 (79, .aload_n 0, 1) rfl
theorem dX7_guard_80 : decode cX7_guard 80 = .ok (.getfield 25, 3) := tb_d tk_X7_guard_1 28 (80, .getfield 25, 3) rfl
theorem dX7_guard_83 : decode cX7_guard 83 = .ok (.iload_n 1, 1) := tb_d tk_X7_guard_1 29 (83, .iload_n 1, 1) rfl
theorem dX7_guard_84 : decode cX7_guard 84 = .ok (.invokevirtual 215, 3) := tb_d tk_X7_guard_1 30 (84, .invokevirtual 215, 3) rfl
theorem dX7_guard_87 : decode cX7_guard 87 = .ok (.ireturn, 1) := tb_d tk_X7_guard_1 31 (87, .ireturn, 1) rfl
theorem dX7_guard_88 : decode cX7_guard 88 = .ok (.ldc 59, 2) := tb_d tk_X7_guard_1 32 (88, .ldc 59, 2) rfl
theorem dX7_guard_90 : decode cX7_guard 90 = .ok (.ireturn, 1) := tb_d tk_X7_guard_1 33 (90, .ireturn, 1) rfl
def tb_X7_tried_1 : List (Nat × Instr × Nat) := [(0, .iload_n 1, 1), (1, .ifCond .lt 17, 3), (4, .iload_n 1, 1), (5, .aload_n 0, 1), (6, .getfield 25, 3), (9, .getfield 137, 3), (12, .getfield 162, 3), (15, .if_icmp .lt 6, 3), (18, .ldc 59, 2), (20, .ireturn, 1), (21, .iload_n 2, 1), (22, .tableswitch 65 0 2 #[26, 39, 52], 26), (48, .aload_n 0, 1), (49, .getfield 25, 3), (52, .getfield 137, 3), (55, .getfield 218, 3), (58, .iload_n 1, 1), (59, .iaload, 1), (60, .ireturn, 1), (61, .aload_n 0, 1), (62, .getfield 25, 3), (65, .getfield 137, 3), (68, .getfield 221, 3), (71, .iload_n 1, 1), (72, .iaload, 1), (73, .ireturn, 1), (74, .aload_n 0, 1), (75, .getfield 25, 3), (78, .getfield 137, 3), (81, .getfield 224, 3), (84, .iload_n 1, 1), (85, .iaload, 1), (86, .ireturn, 1), (87, .ldc 59, 2), (89, .ireturn, 1)]
set_option maxRecDepth 100000 in
theorem tk_X7_tried_1 : (tb_X7_tried_1.all fun q => decide (decode cX7_tried q.1 = .ok q.2)) = true := by decide +kernel
theorem dX7_tried_0 : decode cX7_tried 0 = .ok (.iload_n 1, 1) := tb_d tk_X7_tried_1 0 (0, .iload_n 1, 1) rfl
theorem dX7_tried_1 : decode cX7_tried 1 = .ok (.ifCond .lt 17, 3) := tb_d tk_X7_tried_1 1 (1, .ifCond .lt 17, 3) rfl
theorem dX7_tried_4 : decode cX7_tried 4 = .ok (.iload_n 1, 1) := tb_d tk_X7_tried_1 2 (4, .iload_n 1, 1) rfl
theorem dX7_tried_5 : decode cX7_tried 5 = .ok (.aload_n 0, 1) := tb_d tk_X7_tried_1 3 (5, .aload_n 0, 1) rfl
theorem dX7_tried_6 : decode cX7_tried 6 = .ok (.getfield 25, 3) := tb_d tk_X7_tried_1 4 (6, .getfield 25, 3) rfl
theorem dX7_tried_9 : decode cX7_tried 9 = .ok (.getfield 137, 3) := tb_d tk_X7_tried_1 5 (9, .getfield 137, 3) rfl
theorem dX7_tried_12 : decode cX7_tried 12 = .ok (.getfield 162, 3) := tb_d tk_X7_tried_1 6 (12, .getfield 162, 3) rfl
theorem dX7_tried_15 : decode cX7_tried 15 = .ok (.if_icmp .lt 6, 3) := tb_d tk_X7_tried_1 7 (15, .if_icmp .lt 6, 3) rfl
theorem dX7_tried_18 : decode cX7_tried 18 = .ok (.ldc 59, 2) := tb_d tk_X7_tried_1 8 (18, .ldc 59, 2) rfl
theorem dX7_tried_20 : decode cX7_tried 20 = .ok (.ireturn, 1) := tb_d tk_X7_tried_1 9 (20, .ireturn, 1) rfl
theorem dX7_tried_21 : decode cX7_tried 21 = .ok (.iload_n 2, 1) := tb_d tk_X7_tried_1 10 (21, .iload_n 2, 1) rfl
theorem dX7_tried_22 : decode cX7_tried 22 = .ok (.tableswitch 65 0 2 #[26, 39, 52], 26) := tb_d tk_X7_tried_1 11 (22, .tableswitch 65 0 2 #[26, 39, 52], 26) rfl
theorem dX7_tried_48 : decode cX7_tried 48 = .ok (.aload_n 0, 1) := tb_d tk_X7_tried_1 12 (48, .aload_n 0, 1) rfl
theorem dX7_tried_49 : decode cX7_tried 49 = .ok (.getfield 25, 3) := tb_d tk_X7_tried_1 13 (49, .getfield 25, 3) rfl
theorem dX7_tried_52 : decode cX7_tried 52 = .ok (.getfield 137, 3) := tb_d tk_X7_tried_1 14 (52, .getfield 137, 3) rfl
theorem dX7_tried_55 : decode cX7_tried 55 = .ok (.getfield 218, 3) := tb_d tk_X7_tried_1 15 (55, .getfield 218, 3) rfl
theorem dX7_tried_58 : decode cX7_tried 58 = .ok (.iload_n 1, 1) := tb_d tk_X7_tried_1 16 (58, .iload_n 1, 1) rfl
theorem dX7_tried_59 : decode cX7_tried 59 = .ok (.iaload, 1) := tb_d tk_X7_tried_1 17 (59, .iaload, 1) rfl
theorem dX7_tried_60 : decode cX7_tried 60 = .ok (.ireturn, 1) := tb_d tk_X7_tried_1 18 (60, .ireturn, 1) rfl
theorem dX7_tried_61 : decode cX7_tried 61 = .ok (.aload_n 0, 1) := tb_d tk_X7_tried_1 19 (61, .aload_n 0, 1) rfl
theorem dX7_tried_62 : decode cX7_tried 62 = .ok (.getfield 25, 3) := tb_d tk_X7_tried_1 20 (62, .getfield 25, 3) rfl
theorem dX7_tried_65 : decode cX7_tried 65 = .ok (.getfield 137, 3) := tb_d tk_X7_tried_1 21 (65, .getfield 137, 3) rfl
theorem dX7_tried_68 : decode cX7_tried 68 = .ok (.getfield 221, 3) := tb_d tk_X7_tried_1 22 (68, .getfield 221, 3) rfl
theorem dX7_tried_71 : decode cX7_tried 71 = .ok (.iload_n 1, 1) := tb_d tk_X7_tried_1 23 (71, .iload_n 1, 1) rfl
theorem dX7_tried_72 : decode cX7_tried 72 = .ok (.iaload, 1) := tb_d tk_X7_tried_1 24 (72, .iaload, 1) rfl
theorem dX7_tried_73 : decode cX7_tried 73 = .ok (.ireturn, 1) := tb_d tk_X7_tried_1 25 (73, .ireturn, 1) rfl
theorem dX7_tried_74 : decode cX7_tried 74 = .ok (.aload_n 0, 1) := tb_d tk_X7_tried_1 26 (74, .aload_n 0, 1) rfl
theorem dX7_tried_75 : decode cX7_tried 75 = .ok (.getfield 25, 3) := tb_d tk_X7_tried_1 27 (75, .getfield 25, 3) rfl
theorem dX7_tried_78 : decode cX7_tried 78 = .ok (.getfield 137, 3) := tb_d tk_X7_tried_1 28 (78, .getfield 137, 3) rfl
theorem dX7_tried_81 : decode cX7_tried 81 = .ok (.getfield 224, 3) := tb_d tk_X7_tried_1 29 (81, .getfield 224, 3) rfl
theorem dX7_tried_84 : decode cX7_tried 84 = .ok (.iload_n 1, 1) := tb_d tk_X7_tried_1 30 (84, .iload_n 1, 1) rfl
theorem dX7_tried_85 : decode cX7_tried 85 = .ok (.iaload, 1) := tb_d tk_X7_tried_1 31 (85, .iaload, 1) rfl
theorem dX7_tried_86 : decode cX7_tried 86 = .ok (.ireturn, 1) := tb_d tk_X7_tried_1 32 (86, .ireturn, 1) rfl
theorem dX7_tried_87 : decode cX7_tried 87 = .ok (.ldc 59, 2) := tb_d tk_X7_tried_1 33 (87, .ldc 59, 2) rfl
theorem dX7_tried_89 : decode cX7_tried 89 = .ok (.ireturn, 1) := tb_d tk_X7_tried_1 34 (89, .ireturn, 1) rfl
theorem ggX7_secret_X7_noGate : GoodIn wsX7_secret wsX7_noGate := fun w h => ⟨List.mem_cons_of_mem _ (List.mem_append_right _ (List.mem_append_right _ (List.mem_append_right _ (List.mem_append_right _ (List.mem_append_right _ (List.mem_append_right _ (List.mem_append_right _ (List.mem_append_left _ h)))))))), good_of_word (gdX7_noGate w h)⟩
set_option maxRecDepth 20000 in
theorem gX7_secret_X7_noGate : GoodIn wsX7_secret (wsV RX7 133 RX7 yX7_noGate wsX7_noGate) := goodIn_app (a := bkV RX7 133 RX7 yX7_noGate) (fun w h => ⟨List.mem_cons_of_mem _ (List.mem_append_right _ (List.mem_append_left _ h)), good_of_word (gd_bV _ _ _ _ w h)⟩) ggX7_secret_X7_noGate
theorem ggX7_secret_X7_isAhead : GoodIn wsX7_secret wsX7_isAhead := fun w h => ⟨List.mem_cons_of_mem _ (List.mem_append_right _ (List.mem_append_right _ (List.mem_append_right _ (List.mem_append_right _ (List.mem_append_right _ (List.mem_append_right _ (List.mem_append_right _ (List.mem_append_right _ (List.mem_append_left _ h))))))))), good_of_word (gdX7_isAhead w h)⟩
set_option maxRecDepth 20000 in
theorem gX7_secret_X7_isAhead : GoodIn wsX7_secret (wsV RX7 227 RX7 yX7_isAhead wsX7_isAhead) := goodIn_app (a := bkV RX7 227 RX7 yX7_isAhead) (fun w h => ⟨List.mem_cons_of_mem _ (List.mem_append_right _ (List.mem_append_right _ (List.mem_append_left _ h))), good_of_word (gd_bV _ _ _ _ w h)⟩) ggX7_secret_X7_isAhead
theorem ggX7_secret_X2_secretIn : GoodIn wsX7_secret wsX2_secretIn := fun w h => ⟨List.mem_cons_of_mem _ (List.mem_append_right _ (List.mem_append_right _ (List.mem_append_right _ (List.mem_append_right _ (List.mem_append_right _ (List.mem_append_right _ (List.mem_append_right _ (List.mem_append_right _ (List.mem_append_right _ (List.mem_append_left _ h)))))))))), good_of_word (gdX2_secretIn w h)⟩
set_option maxRecDepth 20000 in
theorem gX7_secret_X2_secretIn : GoodIn wsX7_secret (wsV RX7 153 RX2 yX2_secretIn wsX2_secretIn) := goodIn_app (a := bkV RX7 153 RX2 yX2_secretIn) (fun w h => ⟨List.mem_cons_of_mem _ (List.mem_append_right _ (List.mem_append_right _ (List.mem_append_right _ (List.mem_append_left _ h)))), good_of_word (gd_bV _ _ _ _ w h)⟩) ggX7_secret_X2_secretIn
def tb_X7_secret_1 : List (Nat × Instr × Nat) := [(0, .aload_n 0, 1), (1, .invokevirtual 133, 3), (4, .ifCond .eq 6, 3), (7, .ldc 136, 2), (9, .ireturn, 1), (10, .aload_n 0, 1), (11, .iload_n 1, 1), (12, .invokevirtual 227, 3), (15, .ifCond .eq 14, 3), (18, .aload_n 0, 1), (19, .getfield 25, 3), (22, .iload_n 1, 1), (23, .invokevirtual 153, 3), (26, .goto 5, 3), (29, .ldc 59, 2), (31, .ireturn, 1)]
set_option maxRecDepth 100000 in
theorem tk_X7_secret_1 : (tb_X7_secret_1.all fun q => decide (decode cX7_secret q.1 = .ok q.2)) = true := by decide +kernel
theorem dX7_secret_0 : decode cX7_secret 0 = .ok (.aload_n 0, 1) := tb_d tk_X7_secret_1 0 (0, .aload_n 0, 1) rfl
theorem dX7_secret_1 : decode cX7_secret 1 = .ok (.invokevirtual 133, 3) := tb_d tk_X7_secret_1 1 (1, .invokevirtual 133, 3) rfl
theorem dX7_secret_4 : decode cX7_secret 4 = .ok (.ifCond .eq 6, 3) := tb_d tk_X7_secret_1 2 (4, .ifCond .eq 6, 3) rfl
theorem dX7_secret_7 : decode cX7_secret 7 = .ok (.ldc 136, 2) := tb_d tk_X7_secret_1 3 (7, .ldc 136, 2) rfl
theorem dX7_secret_9 : decode cX7_secret 9 = .ok (.ireturn, 1) := tb_d tk_X7_secret_1 4 (9, .ireturn, 1) rfl
theorem dX7_secret_10 : decode cX7_secret 10 = .ok (.aload_n 0, 1) := tb_d tk_X7_secret_1 5 (10, .aload_n 0, 1) rfl
theorem dX7_secret_11 : decode cX7_secret 11 = .ok (.iload_n 1, 1) := tb_d tk_X7_secret_1 6 (11, .iload_n 1, 1) rfl
theorem dX7_secret_12 : decode cX7_secret 12 = .ok (.invokevirtual 227, 3) := tb_d tk_X7_secret_1 7 (12, .invokevirtual 227, 3) rfl
theorem dX7_secret_15 : decode cX7_secret 15 = .ok (.ifCond .eq 14, 3) := tb_d tk_X7_secret_1 8 (15, .ifCond .eq 14, 3) rfl
theorem dX7_secret_18 : decode cX7_secret 18 = .ok (.aload_n 0, 1) := tb_d tk_X7_secret_1 9 (18, .aload_n 0, 1) rfl
theorem dX7_secret_19 : decode cX7_secret 19 = .ok (.getfield 25, 3) := tb_d tk_X7_secret_1 10 (19, .getfield 25, 3) rfl
theorem dX7_secret_22 : decode cX7_secret 22 = .ok (.iload_n 1, 1) := tb_d tk_X7_secret_1 11 (22, .iload_n 1, 1) rfl
theorem dX7_secret_23 : decode cX7_secret 23 = .ok (.invokevirtual 153, 3) := tb_d tk_X7_secret_1 12 (23, .invokevirtual 153, 3) rfl
theorem dX7_secret_26 : decode cX7_secret 26 = .ok (.goto 5, 3) := tb_d tk_X7_secret_1 13 (26, .goto 5, 3) rfl
theorem dX7_secret_29 : decode cX7_secret 29 = .ok (.ldc 59, 2) := tb_d tk_X7_secret_1 14 (29, .ldc 59, 2) rfl
theorem dX7_secret_31 : decode cX7_secret 31 = .ok (.ireturn, 1) := tb_d tk_X7_secret_1 15 (31, .ireturn, 1) rfl
theorem ggX7_taken_X7_isWord : GoodIn wsX7_taken wsX7_isWord := fun w h => ⟨List.mem_cons_of_mem _ (List.mem_append_right _ (List.mem_append_right _ (List.mem_append_right _ (List.mem_append_right _ (List.mem_append_right _ (List.mem_append_right _ (List.mem_append_right _ (List.mem_append_right _ (List.mem_append_right _ (List.mem_append_left _ h)))))))))), good_of_word (gdX7_isWord w h)⟩
set_option maxRecDepth 20000 in
theorem gX7_taken_X7_isWord : GoodIn wsX7_taken (wsV RX7 156 RX7 yX7_isWord wsX7_isWord) := goodIn_app (a := bkV RX7 156 RX7 yX7_isWord) (fun w h => ⟨List.mem_cons_of_mem _ (List.mem_append_right _ (List.mem_append_left _ h)), good_of_word (gd_bV _ _ _ _ w h)⟩) ggX7_taken_X7_isWord
theorem ggX7_taken_X7_isHour : GoodIn wsX7_taken wsX7_isHour := fun w h => ⟨List.mem_cons_of_mem _ (List.mem_append_right _ (List.mem_append_right _ (List.mem_append_right _ (List.mem_append_right _ (List.mem_append_right _ (List.mem_append_right _ (List.mem_append_right _ (List.mem_append_right _ (List.mem_append_right _ (List.mem_append_right _ (List.mem_append_left _ h))))))))))), good_of_word (gdX7_isHour w h)⟩
set_option maxRecDepth 20000 in
theorem gX7_taken_X7_isHour : GoodIn wsX7_taken (wsV RX7 159 RX7 yX7_isHour wsX7_isHour) := goodIn_app (a := bkV RX7 159 RX7 yX7_isHour) (fun w h => ⟨List.mem_cons_of_mem _ (List.mem_append_right _ (List.mem_append_right _ (List.mem_append_left _ h))), good_of_word (gd_bV _ _ _ _ w h)⟩) ggX7_taken_X7_isHour
theorem ggX7_taken_X7_isAhead : GoodIn wsX7_taken wsX7_isAhead := fun w h => ⟨List.mem_cons_of_mem _ (List.mem_append_right _ (List.mem_append_right _ (List.mem_append_right _ (List.mem_append_right _ (List.mem_append_right _ (List.mem_append_right _ (List.mem_append_right _ (List.mem_append_right _ (List.mem_append_right _ (List.mem_append_right _ (List.mem_append_right _ (List.mem_append_left _ h)))))))))))), good_of_word (gdX7_isAhead w h)⟩
set_option maxRecDepth 20000 in
theorem gX7_taken_X7_isAhead : GoodIn wsX7_taken (wsV RX7 227 RX7 yX7_isAhead wsX7_isAhead) := goodIn_app (a := bkV RX7 227 RX7 yX7_isAhead) (fun w h => ⟨List.mem_cons_of_mem _ (List.mem_append_right _ (List.mem_append_right _ (List.mem_append_right _ (List.mem_append_left _ h)))), good_of_word (gd_bV _ _ _ _ w h)⟩) ggX7_taken_X7_isAhead
theorem ggX7_taken_X2_catches : GoodIn wsX7_taken wsX2_catches := fun w h => ⟨List.mem_cons_of_mem _ (List.mem_append_right _ (List.mem_append_right _ (List.mem_append_right _ (List.mem_append_right _ (List.mem_append_right _ (List.mem_append_right _ (List.mem_append_right _ (List.mem_append_right _ (List.mem_append_right _ (List.mem_append_right _ (List.mem_append_right _ (List.mem_append_right _ (List.mem_append_left _ h))))))))))))), good_of_word (gdX2_catches w h)⟩
set_option maxRecDepth 20000 in
theorem gX7_taken_X2_catches : GoodIn wsX7_taken (wsV RX7 168 RX2 yX2_catches wsX2_catches) := goodIn_app (a := bkV RX7 168 RX2 yX2_catches) (fun w h => ⟨List.mem_cons_of_mem _ (List.mem_append_right _ (List.mem_append_right _ (List.mem_append_right _ (List.mem_append_right _ (List.mem_append_left _ h))))), good_of_word (gd_bV _ _ _ _ w h)⟩) ggX7_taken_X2_catches
theorem ggX7_taken_X7_bit : GoodIn wsX7_taken wsX7_bit := fun w h => ⟨List.mem_cons_of_mem _ (List.mem_append_right _ (List.mem_append_right _ (List.mem_append_right _ (List.mem_append_right _ (List.mem_append_right _ (List.mem_append_right _ (List.mem_append_right _ (List.mem_append_right _ (List.mem_append_right _ (List.mem_append_right _ (List.mem_append_right _ (List.mem_append_right _ (List.mem_append_right _ (List.mem_append_left _ h)))))))))))))), good_of_word (gdX7_bit w h)⟩
set_option maxRecDepth 20000 in
theorem gX7_taken_X7_bit : GoodIn wsX7_taken (va_wsS RX7 180 yX7_bit wsX7_bit) := goodIn_app (a := bkS RX7 180 yX7_bit) (fun w h => ⟨List.mem_cons_of_mem _ (List.mem_append_right _ (List.mem_append_right _ (List.mem_append_right _ (List.mem_append_right _ (List.mem_append_right _ (List.mem_append_left _ h)))))), good_of_word (gd_bS _ _ _ w h)⟩) ggX7_taken_X7_bit
def tb_X7_taken_1 : List (Nat × Instr × Nat) := [(0, .aload_n 0, 1), (1, .iload_n 1, 1), (2, .invokevirtual 156, 3), (5, .ifCond .eq 19, 3), (8, .aload_n 0, 1), (9, .iload_n 2, 1), (10, .invokevirtual 159, 3), (13, .ifCond .eq 11, 3), (16, .aload_n 0, 1), (17, .iload_n 3, 1), (18, .invokevirtual 227, 3), (21, .ifCond .ne 6, 3), (24, .ldc 59, 2), (26, .ireturn, 1), (27, .aload_n 0, 1), (28, .getfield 25, 3), (31, .iload_n 1, 1), (32, .iload_n 2, 1), (33, .iload_n 3, 1), (34, .invokevirtual 168, 3), (37, .invokestatic 180, 3), (40, .ireturn, 1)]
set_option maxRecDepth 100000 in
theorem tk_X7_taken_1 : (tb_X7_taken_1.all fun q => decide (decode cX7_taken q.1 = .ok q.2)) = true := by decide +kernel
theorem dX7_taken_0 : decode cX7_taken 0 = .ok (.aload_n 0, 1) := tb_d tk_X7_taken_1 0 (0, .aload_n 0, 1) rfl
theorem dX7_taken_1 : decode cX7_taken 1 = .ok (.iload_n 1, 1) := tb_d tk_X7_taken_1 1 (1, .iload_n 1, 1) rfl
theorem dX7_taken_2 : decode cX7_taken 2 = .ok (.invokevirtual 156, 3) := tb_d tk_X7_taken_1 2 (2, .invokevirtual 156, 3) rfl
theorem dX7_taken_5 : decode cX7_taken 5 = .ok (.ifCond .eq 19, 3) := tb_d tk_X7_taken_1 3 (5, .ifCond .eq 19, 3) rfl
theorem dX7_taken_8 : decode cX7_taken 8 = .ok (.aload_n 0, 1) := tb_d tk_X7_taken_1 4 (8, .aload_n 0, 1) rfl
theorem dX7_taken_9 : decode cX7_taken 9 = .ok (.iload_n 2, 1) := tb_d tk_X7_taken_1 5 (9, .iload_n 2, 1) rfl
theorem dX7_taken_10 : decode cX7_taken 10 = .ok (.invokevirtual 159, 3) := tb_d tk_X7_taken_1 6 (10, .invokevirtual 159, 3) rfl
theorem dX7_taken_13 : decode cX7_taken 13 = .ok (.ifCond .eq 11, 3) := tb_d tk_X7_taken_1 7 (13, .ifCond .eq 11, 3) rfl
theorem dX7_taken_16 : decode cX7_taken 16 = .ok (.aload_n 0, 1) := tb_d tk_X7_taken_1 8 (16, .aload_n 0, 1) rfl
theorem dX7_taken_17 : decode cX7_taken 17 = .ok (.iload_n 3, 1) := tb_d tk_X7_taken_1 9 (17, .iload_n 3, 1) rfl
theorem dX7_taken_18 : decode cX7_taken 18 = .ok (.invokevirtual 227, 3) := tb_d tk_X7_taken_1 10 (18, .invokevirtual 227, 3) rfl
theorem dX7_taken_21 : decode cX7_taken 21 = .ok (.ifCond .ne 6, 3) := tb_d tk_X7_taken_1 11 (21, .ifCond .ne 6, 3) rfl
theorem dX7_taken_24 : decode cX7_taken 24 = .ok (.ldc 59, 2) := tb_d tk_X7_taken_1 12 (24, .ldc 59, 2) rfl
theorem dX7_taken_26 : decode cX7_taken 26 = .ok (.ireturn, 1) := tb_d tk_X7_taken_1 13 (26, .ireturn, 1) rfl
theorem dX7_taken_27 : decode cX7_taken 27 = .ok (.aload_n 0, 1) := tb_d tk_X7_taken_1 14 (27, .aload_n 0, 1) rfl
theorem dX7_taken_28 : decode cX7_taken 28 = .ok (.getfield 25, 3) := tb_d tk_X7_taken_1 15 (28, .getfield 25, 3) rfl
theorem dX7_taken_31 : decode cX7_taken 31 = .ok (.iload_n 1, 1) := tb_d tk_X7_taken_1 16 (31, .iload_n 1, 1) rfl
theorem dX7_taken_32 : decode cX7_taken 32 = .ok (.iload_n 2, 1) := tb_d tk_X7_taken_1 17 (32, .iload_n 2, 1) rfl
theorem dX7_taken_33 : decode cX7_taken 33 = .ok (.iload_n 3, 1) := tb_d tk_X7_taken_1 18 (33, .iload_n 3, 1) rfl
theorem dX7_taken_34 : decode cX7_taken 34 = .ok (.invokevirtual 168, 3) := tb_d tk_X7_taken_1 19 (34, .invokevirtual 168, 3) rfl
theorem dX7_taken_37 : decode cX7_taken 37 = .ok (.invokestatic 180, 3) := tb_d tk_X7_taken_1 20 (37, .invokestatic 180, 3) rfl
theorem dX7_taken_40 : decode cX7_taken 40 = .ok (.ireturn, 1) := tb_d tk_X7_taken_1 21 (40, .ireturn, 1) rfl
theorem ggX7_safe_X7_noGate : GoodIn wsX7_safe wsX7_noGate := fun w h => ⟨List.mem_cons_of_mem _ (List.mem_append_right _ (List.mem_append_right _ (List.mem_append_right _ (List.mem_append_right _ (List.mem_append_right _ (List.mem_append_right _ (List.mem_append_right _ (List.mem_append_right _ (List.mem_append_left _ h))))))))), good_of_word (gdX7_noGate w h)⟩
set_option maxRecDepth 20000 in
theorem gX7_safe_X7_noGate : GoodIn wsX7_safe (wsV RX7 133 RX7 yX7_noGate wsX7_noGate) := goodIn_app (a := bkV RX7 133 RX7 yX7_noGate) (fun w h => ⟨List.mem_cons_of_mem _ (List.mem_append_right _ (List.mem_append_left _ h)), good_of_word (gd_bV _ _ _ _ w h)⟩) ggX7_safe_X7_noGate
theorem ggX7_safe_X7_isHour : GoodIn wsX7_safe wsX7_isHour := fun w h => ⟨List.mem_cons_of_mem _ (List.mem_append_right _ (List.mem_append_right _ (List.mem_append_right _ (List.mem_append_right _ (List.mem_append_right _ (List.mem_append_right _ (List.mem_append_right _ (List.mem_append_right _ (List.mem_append_right _ (List.mem_append_left _ h)))))))))), good_of_word (gdX7_isHour w h)⟩
set_option maxRecDepth 20000 in
theorem gX7_safe_X7_isHour : GoodIn wsX7_safe (wsV RX7 159 RX7 yX7_isHour wsX7_isHour) := goodIn_app (a := bkV RX7 159 RX7 yX7_isHour) (fun w h => ⟨List.mem_cons_of_mem _ (List.mem_append_right _ (List.mem_append_right _ (List.mem_append_left _ h))), good_of_word (gd_bV _ _ _ _ w h)⟩) ggX7_safe_X7_isHour
theorem ggX7_safe_X7_isAhead : GoodIn wsX7_safe wsX7_isAhead := fun w h => ⟨List.mem_cons_of_mem _ (List.mem_append_right _ (List.mem_append_right _ (List.mem_append_right _ (List.mem_append_right _ (List.mem_append_right _ (List.mem_append_right _ (List.mem_append_right _ (List.mem_append_right _ (List.mem_append_right _ (List.mem_append_right _ (List.mem_append_left _ h))))))))))), good_of_word (gdX7_isAhead w h)⟩
set_option maxRecDepth 20000 in
theorem gX7_safe_X7_isAhead : GoodIn wsX7_safe (wsV RX7 227 RX7 yX7_isAhead wsX7_isAhead) := goodIn_app (a := bkV RX7 227 RX7 yX7_isAhead) (fun w h => ⟨List.mem_cons_of_mem _ (List.mem_append_right _ (List.mem_append_right _ (List.mem_append_right _ (List.mem_append_left _ h)))), good_of_word (gd_bV _ _ _ _ w h)⟩) ggX7_safe_X7_isAhead
theorem ggX7_safe_X2_wordsIn : GoodIn wsX7_safe wsX2_wordsIn := fun w h => ⟨List.mem_cons_of_mem _ (List.mem_append_right _ (List.mem_append_right _ (List.mem_append_right _ (List.mem_append_right _ (List.mem_append_right _ (List.mem_append_right _ (List.mem_append_right _ (List.mem_append_right _ (List.mem_append_right _ (List.mem_append_right _ (List.mem_append_right _ (List.mem_append_left _ h)))))))))))), good_of_word (gdX2_wordsIn w h)⟩
set_option maxRecDepth 20000 in
theorem gX7_safe_X2_wordsIn : GoodIn wsX7_safe (wsV RX7 230 RX2 yX2_wordsIn wsX2_wordsIn) := goodIn_app (a := bkV RX7 230 RX2 yX2_wordsIn) (fun w h => ⟨List.mem_cons_of_mem _ (List.mem_append_right _ (List.mem_append_right _ (List.mem_append_right _ (List.mem_append_right _ (List.mem_append_left _ h))))), good_of_word (gd_bV _ _ _ _ w h)⟩) ggX7_safe_X2_wordsIn
def tb_X7_safe_1 : List (Nat × Instr × Nat) := [(0, .aload_n 0, 1), (1, .invokevirtual 133, 3), (4, .ifCond .eq 6, 3), (7, .ldc 136, 2), (9, .ireturn, 1), (10, .aload_n 0, 1), (11, .iload_n 1, 1), (12, .invokevirtual 159, 3), (15, .ifCond .eq 23, 3), (18, .aload_n 0, 1), (19, .iload_n 2, 1), (20, .invokevirtual 227, 3), (23, .ifCond .eq 15, 3), (26, .aload_n 0, 1), (27, .getfield 25, 3), (30, .iload_n 1, 1), (31, .iload_n 2, 1), (32, .invokevirtual 230, 3), (35, .goto 5, 3), (38, .ldc 59, 2), (40, .ireturn, 1)]
set_option maxRecDepth 100000 in
theorem tk_X7_safe_1 : (tb_X7_safe_1.all fun q => decide (decode cX7_safe q.1 = .ok q.2)) = true := by decide +kernel
theorem dX7_safe_0 : decode cX7_safe 0 = .ok (.aload_n 0, 1) := tb_d tk_X7_safe_1 0 (0, .aload_n 0, 1) rfl
theorem dX7_safe_1 : decode cX7_safe 1 = .ok (.invokevirtual 133, 3) := tb_d tk_X7_safe_1 1 (1, .invokevirtual 133, 3) rfl
theorem dX7_safe_4 : decode cX7_safe 4 = .ok (.ifCond .eq 6, 3) := tb_d tk_X7_safe_1 2 (4, .ifCond .eq 6, 3) rfl
theorem dX7_safe_7 : decode cX7_safe 7 = .ok (.ldc 136, 2) := tb_d tk_X7_safe_1 3 (7, .ldc 136, 2) rfl
theorem dX7_safe_9 : decode cX7_safe 9 = .ok (.ireturn, 1) := tb_d tk_X7_safe_1 4 (9, .ireturn, 1) rfl
theorem dX7_safe_10 : decode cX7_safe 10 = .ok (.aload_n 0, 1) := tb_d tk_X7_safe_1 5 (10, .aload_n 0, 1) rfl
theorem dX7_safe_11 : decode cX7_safe 11 = .ok (.iload_n 1, 1) := tb_d tk_X7_safe_1 6 (11, .iload_n 1, 1) rfl
theorem dX7_safe_12 : decode cX7_safe 12 = .ok (.invokevirtual 159, 3) := tb_d tk_X7_safe_1 7 (12, .invokevirtual 159, 3) rfl
theorem dX7_safe_15 : decode cX7_safe 15 = .ok (.ifCond .eq 23, 3) := tb_d tk_X7_safe_1 8 (15, .ifCond .eq 23, 3) rfl
theorem dX7_safe_18 : decode cX7_safe 18 = .ok (.aload_n 0, 1) := tb_d tk_X7_safe_1 9 (18, .aload_n 0, 1) rfl
theorem dX7_safe_19 : decode cX7_safe 19 = .ok (.iload_n 2, 1) := tb_d tk_X7_safe_1 10 (19, .iload_n 2, 1) rfl
theorem dX7_safe_20 : decode cX7_safe 20 = .ok (.invokevirtual 227, 3) := tb_d tk_X7_safe_1 11 (20, .invokevirtual 227, 3) rfl
theorem dX7_safe_23 : decode cX7_safe 23 = .ok (.ifCond .eq 15, 3) := tb_d tk_X7_safe_1 12 (23, .ifCond .eq 15, 3) rfl
theorem dX7_safe_26 : decode cX7_safe 26 = .ok (.aload_n 0, 1) := tb_d tk_X7_safe_1 13 (26, .aload_n 0, 1) rfl
theorem dX7_safe_27 : decode cX7_safe 27 = .ok (.getfield 25, 3) := tb_d tk_X7_safe_1 14 (27, .getfield 25, 3) rfl
theorem dX7_safe_30 : decode cX7_safe 30 = .ok (.iload_n 1, 1) := tb_d tk_X7_safe_1 15 (30, .iload_n 1, 1) rfl
theorem dX7_safe_31 : decode cX7_safe 31 = .ok (.iload_n 2, 1) := tb_d tk_X7_safe_1 16 (31, .iload_n 2, 1) rfl
theorem dX7_safe_32 : decode cX7_safe 32 = .ok (.invokevirtual 230, 3) := tb_d tk_X7_safe_1 17 (32, .invokevirtual 230, 3) rfl
theorem dX7_safe_35 : decode cX7_safe 35 = .ok (.goto 5, 3) := tb_d tk_X7_safe_1 18 (35, .goto 5, 3) rfl
theorem dX7_safe_38 : decode cX7_safe 38 = .ok (.ldc 59, 2) := tb_d tk_X7_safe_1 19 (38, .ldc 59, 2) rfl
theorem dX7_safe_40 : decode cX7_safe 40 = .ok (.ireturn, 1) := tb_d tk_X7_safe_1 20 (40, .ireturn, 1) rfl
theorem ggX7_open_X7_noGate : GoodIn wsX7_open wsX7_noGate := fun w h => ⟨List.mem_cons_of_mem _ (List.mem_append_right _ (List.mem_append_right _ (List.mem_append_right _ (List.mem_append_right _ (List.mem_append_right _ (List.mem_append_right _ (List.mem_append_right _ (List.mem_append_right _ (List.mem_append_left _ h))))))))), good_of_word (gdX7_noGate w h)⟩
set_option maxRecDepth 20000 in
theorem gX7_open_X7_noGate : GoodIn wsX7_open (wsV RX7 133 RX7 yX7_noGate wsX7_noGate) := goodIn_app (a := bkV RX7 133 RX7 yX7_noGate) (fun w h => ⟨List.mem_cons_of_mem _ (List.mem_append_right _ (List.mem_append_left _ h)), good_of_word (gd_bV _ _ _ _ w h)⟩) ggX7_open_X7_noGate
theorem ggX7_open_X7_areWords : GoodIn wsX7_open wsX7_areWords := fun w h => ⟨List.mem_cons_of_mem _ (List.mem_append_right _ (List.mem_append_right _ (List.mem_append_right _ (List.mem_append_right _ (List.mem_append_right _ (List.mem_append_right _ (List.mem_append_right _ (List.mem_append_right _ (List.mem_append_right _ (List.mem_append_left _ h)))))))))), good_of_word (gdX7_areWords w h)⟩
set_option maxRecDepth 20000 in
theorem gX7_open_X7_areWords : GoodIn wsX7_open (wsV RX7 233 RX7 yX7_areWords wsX7_areWords) := goodIn_app (a := bkV RX7 233 RX7 yX7_areWords) (fun w h => ⟨List.mem_cons_of_mem _ (List.mem_append_right _ (List.mem_append_right _ (List.mem_append_left _ h))), good_of_word (gd_bV _ _ _ _ w h)⟩) ggX7_open_X7_areWords
theorem ggX7_open_X7_isAhead : GoodIn wsX7_open wsX7_isAhead := fun w h => ⟨List.mem_cons_of_mem _ (List.mem_append_right _ (List.mem_append_right _ (List.mem_append_right _ (List.mem_append_right _ (List.mem_append_right _ (List.mem_append_right _ (List.mem_append_right _ (List.mem_append_right _ (List.mem_append_right _ (List.mem_append_right _ (List.mem_append_left _ h))))))))))), good_of_word (gdX7_isAhead w h)⟩
set_option maxRecDepth 20000 in
theorem gX7_open_X7_isAhead : GoodIn wsX7_open (wsV RX7 227 RX7 yX7_isAhead wsX7_isAhead) := goodIn_app (a := bkV RX7 227 RX7 yX7_isAhead) (fun w h => ⟨List.mem_cons_of_mem _ (List.mem_append_right _ (List.mem_append_right _ (List.mem_append_right _ (List.mem_append_left _ h)))), good_of_word (gd_bV _ _ _ _ w h)⟩) ggX7_open_X7_isAhead
theorem ggX7_open_X2_hoursOpen : GoodIn wsX7_open wsX2_hoursOpen := fun w h => ⟨List.mem_cons_of_mem _ (List.mem_append_right _ (List.mem_append_right _ (List.mem_append_right _ (List.mem_append_right _ (List.mem_append_right _ (List.mem_append_right _ (List.mem_append_right _ (List.mem_append_right _ (List.mem_append_right _ (List.mem_append_right _ (List.mem_append_right _ (List.mem_append_left _ h)))))))))))), good_of_word (gdX2_hoursOpen w h)⟩
set_option maxRecDepth 20000 in
theorem gX7_open_X2_hoursOpen : GoodIn wsX7_open (wsV RX7 236 RX2 yX2_hoursOpen wsX2_hoursOpen) := goodIn_app (a := bkV RX7 236 RX2 yX2_hoursOpen) (fun w h => ⟨List.mem_cons_of_mem _ (List.mem_append_right _ (List.mem_append_right _ (List.mem_append_right _ (List.mem_append_right _ (List.mem_append_left _ h))))), good_of_word (gd_bV _ _ _ _ w h)⟩) ggX7_open_X2_hoursOpen
def tb_X7_open_1 : List (Nat × Instr × Nat) := [(0, .aload_n 0, 1), (1, .invokevirtual 133, 3), (4, .ifCond .eq 6, 3), (7, .ldc 136, 2), (9, .ireturn, 1), (10, .aload_n 0, 1), (11, .iload_n 1, 1), (12, .invokevirtual 233, 3), (15, .ifCond .eq 23, 3), (18, .aload_n 0, 1), (19, .iload_n 2, 1), (20, .invokevirtual 227, 3), (23, .ifCond .eq 15, 3), (26, .aload_n 0, 1), (27, .getfield 25, 3), (30, .iload_n 1, 1), (31, .iload_n 2, 1), (32, .invokevirtual 236, 3), (35, .goto 5, 3), (38, .ldc 59, 2), (40, .ireturn, 1)]
set_option maxRecDepth 100000 in
theorem tk_X7_open_1 : (tb_X7_open_1.all fun q => decide (decode cX7_open q.1 = .ok q.2)) = true := by decide +kernel
theorem dX7_open_0 : decode cX7_open 0 = .ok (.aload_n 0, 1) := tb_d tk_X7_open_1 0 (0, .aload_n 0, 1) rfl
theorem dX7_open_1 : decode cX7_open 1 = .ok (.invokevirtual 133, 3) := tb_d tk_X7_open_1 1 (1, .invokevirtual 133, 3) rfl
theorem dX7_open_4 : decode cX7_open 4 = .ok (.ifCond .eq 6, 3) := tb_d tk_X7_open_1 2 (4, .ifCond .eq 6, 3) rfl
theorem dX7_open_7 : decode cX7_open 7 = .ok (.ldc 136, 2) := tb_d tk_X7_open_1 3 (7, .ldc 136, 2) rfl
theorem dX7_open_9 : decode cX7_open 9 = .ok (.ireturn, 1) := tb_d tk_X7_open_1 4 (9, .ireturn, 1) rfl
theorem dX7_open_10 : decode cX7_open 10 = .ok (.aload_n 0, 1) := tb_d tk_X7_open_1 5 (10, .aload_n 0, 1) rfl
theorem dX7_open_11 : decode cX7_open 11 = .ok (.iload_n 1, 1) := tb_d tk_X7_open_1 6 (11, .iload_n 1, 1) rfl
theorem dX7_open_12 : decode cX7_open 12 = .ok (.invokevirtual 233, 3) := tb_d tk_X7_open_1 7 (12, .invokevirtual 233, 3) rfl
theorem dX7_open_15 : decode cX7_open 15 = .ok (.ifCond .eq 23, 3) := tb_d tk_X7_open_1 8 (15, .ifCond .eq 23, 3) rfl
theorem dX7_open_18 : decode cX7_open 18 = .ok (.aload_n 0, 1) := tb_d tk_X7_open_1 9 (18, .aload_n 0, 1) rfl
theorem dX7_open_19 : decode cX7_open 19 = .ok (.iload_n 2, 1) := tb_d tk_X7_open_1 10 (19, .iload_n 2, 1) rfl
theorem dX7_open_20 : decode cX7_open 20 = .ok (.invokevirtual 227, 3) := tb_d tk_X7_open_1 11 (20, .invokevirtual 227, 3) rfl
theorem dX7_open_23 : decode cX7_open 23 = .ok (.ifCond .eq 15, 3) := tb_d tk_X7_open_1 12 (23, .ifCond .eq 15, 3) rfl
theorem dX7_open_26 : decode cX7_open 26 = .ok (.aload_n 0, 1) := tb_d tk_X7_open_1 13 (26, .aload_n 0, 1) rfl
theorem dX7_open_27 : decode cX7_open 27 = .ok (.getfield 25, 3) := tb_d tk_X7_open_1 14 (27, .getfield 25, 3) rfl
theorem dX7_open_30 : decode cX7_open 30 = .ok (.iload_n 1, 1) := tb_d tk_X7_open_1 15 (30, .iload_n 1, 1) rfl
theorem dX7_open_31 : decode cX7_open 31 = .ok (.iload_n 2, 1) := tb_d tk_X7_open_1 16 (31, .iload_n 2, 1) rfl
theorem dX7_open_32 : decode cX7_open 32 = .ok (.invokevirtual 236, 3) := tb_d tk_X7_open_1 17 (32, .invokevirtual 236, 3) rfl
theorem dX7_open_35 : decode cX7_open 35 = .ok (.goto 5, 3) := tb_d tk_X7_open_1 18 (35, .goto 5, 3) rfl
theorem dX7_open_38 : decode cX7_open 38 = .ok (.ldc 59, 2) := tb_d tk_X7_open_1 19 (38, .ldc 59, 2) rfl
theorem dX7_open_40 : decode cX7_open 40 = .ok (.ireturn, 1) := tb_d tk_X7_open_1 20 (40, .ireturn, 1) rfl
theorem ggX7_next_X7_isWord : GoodIn wsX7_next wsX7_isWord := fun w h => ⟨List.mem_cons_of_mem _ (List.mem_append_right _ (List.mem_append_right _ (List.mem_append_right _ (List.mem_append_right _ (List.mem_append_right _ (List.mem_append_right _ (List.mem_append_left _ h))))))), good_of_word (gdX7_isWord w h)⟩
set_option maxRecDepth 20000 in
theorem gX7_next_X7_isWord : GoodIn wsX7_next (wsV RX7 156 RX7 yX7_isWord wsX7_isWord) := goodIn_app (a := bkV RX7 156 RX7 yX7_isWord) (fun w h => ⟨List.mem_cons_of_mem _ (List.mem_append_right _ (List.mem_append_left _ h)), good_of_word (gd_bV _ _ _ _ w h)⟩) ggX7_next_X7_isWord
theorem ggX7_next_X2_nightsUntil : GoodIn wsX7_next wsX2_nightsUntil := fun w h => ⟨List.mem_cons_of_mem _ (List.mem_append_right _ (List.mem_append_right _ (List.mem_append_right _ (List.mem_append_right _ (List.mem_append_right _ (List.mem_append_right _ (List.mem_append_right _ (List.mem_append_left _ h)))))))), good_of_word (gdX2_nightsUntil w h)⟩
set_option maxRecDepth 20000 in
theorem gX7_next_X2_nightsUntil : GoodIn wsX7_next (wsV RX7 239 RX2 yX2_nightsUntil wsX2_nightsUntil) := goodIn_app (a := bkV RX7 239 RX2 yX2_nightsUntil) (fun w h => ⟨List.mem_cons_of_mem _ (List.mem_append_right _ (List.mem_append_right _ (List.mem_append_left _ h))), good_of_word (gd_bV _ _ _ _ w h)⟩) ggX7_next_X2_nightsUntil
def tb_X7_next_1 : List (Nat × Instr × Nat) := [(0, .aload_n 0, 1), (1, .iload_n 1, 1), (2, .invokevirtual 156, 3), (5, .ifCond .eq 14, 3), (8, .aload_n 0, 1), (9, .getfield 25, 3), (12, .iload_n 1, 1), (13, .invokevirtual 239, 3), (16, .goto 5, 3), (19, .ldc 59, 2), (21, .ireturn, 1)]
set_option maxRecDepth 100000 in
theorem tk_X7_next_1 : (tb_X7_next_1.all fun q => decide (decode cX7_next q.1 = .ok q.2)) = true := by decide +kernel
theorem dX7_next_0 : decode cX7_next 0 = .ok (.aload_n 0, 1) := tb_d tk_X7_next_1 0 (0, .aload_n 0, 1) rfl
theorem dX7_next_1 : decode cX7_next 1 = .ok (.iload_n 1, 1) := tb_d tk_X7_next_1 1 (1, .iload_n 1, 1) rfl
theorem dX7_next_2 : decode cX7_next 2 = .ok (.invokevirtual 156, 3) := tb_d tk_X7_next_1 2 (2, .invokevirtual 156, 3) rfl
theorem dX7_next_5 : decode cX7_next 5 = .ok (.ifCond .eq 14, 3) := tb_d tk_X7_next_1 3 (5, .ifCond .eq 14, 3) rfl
theorem dX7_next_8 : decode cX7_next 8 = .ok (.aload_n 0, 1) := tb_d tk_X7_next_1 4 (8, .aload_n 0, 1) rfl
theorem dX7_next_9 : decode cX7_next 9 = .ok (.getfield 25, 3) := tb_d tk_X7_next_1 5 (9, .getfield 25, 3) rfl
theorem dX7_next_12 : decode cX7_next 12 = .ok (.iload_n 1, 1) := tb_d tk_X7_next_1 6 (12, .iload_n 1, 1) rfl
theorem dX7_next_13 : decode cX7_next 13 = .ok (.invokevirtual 239, 3) := tb_d tk_X7_next_1 7 (13, .invokevirtual 239, 3) rfl
theorem dX7_next_16 : decode cX7_next 16 = .ok (.goto 5, 3) := tb_d tk_X7_next_1 8 (16, .goto 5, 3) rfl
theorem dX7_next_19 : decode cX7_next 19 = .ok (.ldc 59, 2) := tb_d tk_X7_next_1 9 (19, .ldc 59, 2) rfl
theorem dX7_next_21 : decode cX7_next 21 = .ok (.ireturn, 1) := tb_d tk_X7_next_1 10 (21, .ireturn, 1) rfl
theorem ggX7_agree_X7_noGate : GoodIn wsX7_agree wsX7_noGate := fun w h => ⟨List.mem_cons_of_mem _ (List.mem_append_right _ (List.mem_append_right _ (List.mem_append_right _ (List.mem_append_right _ (List.mem_append_right _ (List.mem_append_right _ (List.mem_append_left _ h))))))), good_of_word (gdX7_noGate w h)⟩
set_option maxRecDepth 20000 in
theorem gX7_agree_X7_noGate : GoodIn wsX7_agree (wsV RX7 133 RX7 yX7_noGate wsX7_noGate) := goodIn_app (a := bkV RX7 133 RX7 yX7_noGate) (fun w h => ⟨List.mem_cons_of_mem _ (List.mem_append_right _ (List.mem_append_left _ h)), good_of_word (gd_bV _ _ _ _ w h)⟩) ggX7_agree_X7_noGate
theorem ggX7_agree_X3_agreeing : GoodIn wsX7_agree wsX3_agreeing := fun w h => ⟨List.mem_cons_of_mem _ (List.mem_append_right _ (List.mem_append_right _ (List.mem_append_right _ (List.mem_append_right _ (List.mem_append_right _ (List.mem_append_right _ (List.mem_append_right _ (List.mem_append_left _ h)))))))), good_of_word (gdX3_agreeing w h)⟩
set_option maxRecDepth 20000 in
theorem gX7_agree_X3_agreeing : GoodIn wsX7_agree (va_wsS RX7 242 yX3_agreeing wsX3_agreeing) := goodIn_app (a := bkS RX7 242 yX3_agreeing) (fun w h => ⟨List.mem_cons_of_mem _ (List.mem_append_right _ (List.mem_append_right _ (List.mem_append_left _ h))), good_of_word (gd_bS _ _ _ w h)⟩) ggX7_agree_X3_agreeing
def tb_X7_agree_1 : List (Nat × Instr × Nat) := [(0, .aload_n 0, 1), (1, .invokevirtual 133, 3), (4, .ifCond .eq 8, 3), (7, .ldc 136, 2), (9, .goto 10, 3), (12, .aload_n 0, 1), (13, .getfield 25, 3), (16, .invokestatic 242, 3), (19, .ireturn, 1)]
set_option maxRecDepth 100000 in
theorem tk_X7_agree_1 : (tb_X7_agree_1.all fun q => decide (decode cX7_agree q.1 = .ok q.2)) = true := by decide +kernel
theorem dX7_agree_0 : decode cX7_agree 0 = .ok (.aload_n 0, 1) := tb_d tk_X7_agree_1 0 (0, .aload_n 0, 1) rfl
theorem dX7_agree_1 : decode cX7_agree 1 = .ok (.invokevirtual 133, 3) := tb_d tk_X7_agree_1 1 (1, .invokevirtual 133, 3) rfl
theorem dX7_agree_4 : decode cX7_agree 4 = .ok (.ifCond .eq 8, 3) := tb_d tk_X7_agree_1 2 (4, .ifCond .eq 8, 3) rfl
theorem dX7_agree_7 : decode cX7_agree 7 = .ok (.ldc 136, 2) := tb_d tk_X7_agree_1 3 (7, .ldc 136, 2) rfl
theorem dX7_agree_9 : decode cX7_agree 9 = .ok (.goto 10, 3) := tb_d tk_X7_agree_1 4 (9, .goto 10, 3) rfl
theorem dX7_agree_12 : decode cX7_agree 12 = .ok (.aload_n 0, 1) := tb_d tk_X7_agree_1 5 (12, .aload_n 0, 1) rfl
theorem dX7_agree_13 : decode cX7_agree 13 = .ok (.getfield 25, 3) := tb_d tk_X7_agree_1 6 (13, .getfield 25, 3) rfl
theorem dX7_agree_16 : decode cX7_agree 16 = .ok (.invokestatic 242, 3) := tb_d tk_X7_agree_1 7 (16, .invokestatic 242, 3) rfl
theorem dX7_agree_19 : decode cX7_agree 19 = .ok (.ireturn, 1) := tb_d tk_X7_agree_1 8 (19, .ireturn, 1) rfl
theorem ggX7_man_X7_noGate : GoodIn wsX7_man wsX7_noGate := fun w h => ⟨List.mem_cons_of_mem _ (List.mem_append_right _ (List.mem_append_right _ (List.mem_append_right _ (List.mem_append_right _ (List.mem_append_right _ (List.mem_append_right _ (List.mem_append_right _ (List.mem_append_right _ (List.mem_append_left _ h))))))))), good_of_word (gdX7_noGate w h)⟩
set_option maxRecDepth 20000 in
theorem gX7_man_X7_noGate : GoodIn wsX7_man (wsV RX7 133 RX7 yX7_noGate wsX7_noGate) := goodIn_app (a := bkV RX7 133 RX7 yX7_noGate) (fun w h => ⟨List.mem_cons_of_mem _ (List.mem_append_right _ (List.mem_append_left _ h)), good_of_word (gd_bV _ _ _ _ w h)⟩) ggX7_man_X7_noGate
theorem ggX7_man_X3_agreeing : GoodIn wsX7_man wsX3_agreeing := fun w h => ⟨List.mem_cons_of_mem _ (List.mem_append_right _ (List.mem_append_right _ (List.mem_append_right _ (List.mem_append_right _ (List.mem_append_right _ (List.mem_append_right _ (List.mem_append_right _ (List.mem_append_right _ (List.mem_append_right _ (List.mem_append_left _ h)))))))))), good_of_word (gdX3_agreeing w h)⟩
set_option maxRecDepth 20000 in
theorem gX7_man_X3_agreeing : GoodIn wsX7_man (va_wsS RX7 242 yX3_agreeing wsX3_agreeing) := goodIn_app (a := bkS RX7 242 yX3_agreeing) (fun w h => ⟨List.mem_cons_of_mem _ (List.mem_append_right _ (List.mem_append_right _ (List.mem_append_left _ h))), good_of_word (gd_bS _ _ _ w h)⟩) ggX7_man_X3_agreeing
theorem ggX7_man_X3_bestTry : GoodIn wsX7_man wsX3_bestTry := fun w h => ⟨List.mem_cons_of_mem _ (List.mem_append_right _ (List.mem_append_right _ (List.mem_append_right _ (List.mem_append_right _ (List.mem_append_right _ (List.mem_append_right _ (List.mem_append_right _ (List.mem_append_right _ (List.mem_append_right _ (List.mem_append_right _ (List.mem_append_left _ h))))))))))), good_of_word (gdX3_bestTry w h)⟩
set_option maxRecDepth 20000 in
theorem gX7_man_X3_bestTry : GoodIn wsX7_man (va_wsS RX7 246 yX3_bestTry wsX3_bestTry) := goodIn_app (a := bkS RX7 246 yX3_bestTry) (fun w h => ⟨List.mem_cons_of_mem _ (List.mem_append_right _ (List.mem_append_right _ (List.mem_append_right _ (List.mem_append_left _ h)))), good_of_word (gd_bS _ _ _ w h)⟩) ggX7_man_X3_bestTry
theorem ggX7_man_X3_leftAtWorst : GoodIn wsX7_man wsX3_leftAtWorst := fun w h => ⟨List.mem_cons_of_mem _ (List.mem_append_right _ (List.mem_append_right _ (List.mem_append_right _ (List.mem_append_right _ (List.mem_append_right _ (List.mem_append_right _ (List.mem_append_right _ (List.mem_append_right _ (List.mem_append_right _ (List.mem_append_right _ (List.mem_append_right _ (List.mem_append_left _ h)))))))))))), good_of_word (gdX3_leftAtWorst w h)⟩
set_option maxRecDepth 20000 in
theorem gX7_man_X3_leftAtWorst : GoodIn wsX7_man (va_wsS RX7 250 yX3_leftAtWorst wsX3_leftAtWorst) := goodIn_app (a := bkS RX7 250 yX3_leftAtWorst) (fun w h => ⟨List.mem_cons_of_mem _ (List.mem_append_right _ (List.mem_append_right _ (List.mem_append_right _ (List.mem_append_right _ (List.mem_append_left _ h))))), good_of_word (gd_bS _ _ _ w h)⟩) ggX7_man_X3_leftAtWorst
def tb_X7_man_1 : List (Nat × Instr × Nat) := [(0, .aload_n 0, 1), (1, .invokevirtual 133, 3), (4, .ifCond .eq 6, 3), (7, .ldc 136, 2), (9, .ireturn, 1), (10, .iload_n 1, 1), (11, .ifCond .lt 8, 3), (14, .iload_n 1, 1), (15, .iconst 2, 1), (16, .if_icmp .le 6, 3), (19, .ldc 59, 2), (21, .ireturn, 1), (22, .aload_n 0, 1), (23, .getfield 25, 3), (26, .invokestatic 242, 3), (29, .istore_n 2, 1), (30, .aload_n 0, 1), (31, .getfield 25, 3), (34, .iload_n 2, 1), (35, .invokestatic 246, 3), (38, .istore_n 3, 1), (39, .iload_n 1, 1), (40, .iconst 2, 1), (41, .if_icmp .ne 13, 3), (44, .aload_n 0, 1), (45, .getfield 25, 3), (48, .iload_n 3, 1), (49, .iload_n 2, 1), (50, .invokestatic 250, 3), (53, .ireturn, 1), (54, .iload_n 1, 1), (55, .ifCond .ne 10, 3), (58, .iload_n 3, 1), (59, .bipush 6, 2), (61, .idiv, 1), (62, .goto 7, 3), (65, .iload_n 3, 1), (66, .bipush 6, 2), (68, .irem, 1), (69, .ireturn, 1)]
set_option maxRecDepth 100000 in
theorem tk_X7_man_1 : (tb_X7_man_1.all fun q => decide (decode cX7_man q.1 = .ok q.2)) = true := by decide +kernel
theorem dX7_man_0 : decode cX7_man 0 = .ok (.aload_n 0, 1) := tb_d tk_X7_man_1 0 (0, .aload_n 0, 1) rfl
theorem dX7_man_1 : decode cX7_man 1 = .ok (.invokevirtual 133, 3) := tb_d tk_X7_man_1 1 (1, .invokevirtual 133, 3) rfl
theorem dX7_man_4 : decode cX7_man 4 = .ok (.ifCond .eq 6, 3) := tb_d tk_X7_man_1 2 (4, .ifCond .eq 6, 3) rfl
theorem dX7_man_7 : decode cX7_man 7 = .ok (.ldc 136, 2) := tb_d tk_X7_man_1 3 (7, .ldc 136, 2) rfl
theorem dX7_man_9 : decode cX7_man 9 = .ok (.ireturn, 1) := tb_d tk_X7_man_1 4 (9, .ireturn, 1) rfl
theorem dX7_man_10 : decode cX7_man 10 = .ok (.iload_n 1, 1) := tb_d tk_X7_man_1 5 (10, .iload_n 1, 1) rfl
theorem dX7_man_11 : decode cX7_man 11 = .ok (.ifCond .lt 8, 3) := tb_d tk_X7_man_1 6 (11, .ifCond .lt 8, 3) rfl
theorem dX7_man_14 : decode cX7_man 14 = .ok (.iload_n 1, 1) := tb_d tk_X7_man_1 7 (14, .iload_n 1, 1) rfl
theorem dX7_man_15 : decode cX7_man 15 = .ok (.iconst 2, 1) := tb_d tk_X7_man_1 8 (15, .iconst 2, 1) rfl
theorem dX7_man_16 : decode cX7_man 16 = .ok (.if_icmp .le 6, 3) := tb_d tk_X7_man_1 9 (16, .if_icmp .le 6, 3) rfl
theorem dX7_man_19 : decode cX7_man 19 = .ok (.ldc 59, 2) := tb_d tk_X7_man_1 10 (19, .ldc 59, 2) rfl
theorem dX7_man_21 : decode cX7_man 21 = .ok (.ireturn, 1) := tb_d tk_X7_man_1 11 (21, .ireturn, 1) rfl
theorem dX7_man_22 : decode cX7_man 22 = .ok (.aload_n 0, 1) := tb_d tk_X7_man_1 12 (22, .aload_n 0, 1) rfl
theorem dX7_man_23 : decode cX7_man 23 = .ok (.getfield 25, 3) := tb_d tk_X7_man_1 13 (23, .getfield 25, 3) rfl
theorem dX7_man_26 : decode cX7_man 26 = .ok (.invokestatic 242, 3) := tb_d tk_X7_man_1 14 (26, .invokestatic 242, 3) rfl
theorem dX7_man_29 : decode cX7_man 29 = .ok (.istore_n 2, 1) := tb_d tk_X7_man_1 15 (29, .istore_n 2, 1) rfl
theorem dX7_man_30 : decode cX7_man 30 = .ok (.aload_n 0, 1) := tb_d tk_X7_man_1 16 (30, .aload_n 0, 1) rfl
theorem dX7_man_31 : decode cX7_man 31 = .ok (.getfield 25, 3) := tb_d tk_X7_man_1 17 (31, .getfield 25, 3) rfl
theorem dX7_man_34 : decode cX7_man 34 = .ok (.iload_n 2, 1) := tb_d tk_X7_man_1 18 (34, .iload_n 2, 1) rfl
theorem dX7_man_35 : decode cX7_man 35 = .ok (.invokestatic 246, 3) := tb_d tk_X7_man_1 19 (35, .invokestatic 246, 3) rfl
theorem dX7_man_38 : decode cX7_man 38 = .ok (.istore_n 3, 1) := tb_d tk_X7_man_1 20 (38, .istore_n 3, 1) rfl
theorem dX7_man_39 : decode cX7_man 39 = .ok (.iload_n 1, 1) := tb_d tk_X7_man_1 21 (39, .iload_n 1, 1) rfl
theorem dX7_man_40 : decode cX7_man 40 = .ok (.iconst 2, 1) := tb_d tk_X7_man_1 22 (40, .iconst 2, 1) rfl
theorem dX7_man_41 : decode cX7_man 41 = .ok (.if_icmp .ne 13, 3) := tb_d tk_X7_man_1 23 (41, .if_icmp .ne 13, 3) rfl
theorem dX7_man_44 : decode cX7_man 44 = .ok (.aload_n 0, 1) := tb_d tk_X7_man_1 24 (44, .aload_n 0, 1) rfl
theorem dX7_man_45 : decode cX7_man 45 = .ok (.getfield 25, 3) := tb_d tk_X7_man_1 25 (45, .getfield 25, 3) rfl
theorem dX7_man_48 : decode cX7_man 48 = .ok (.iload_n 3, 1) := tb_d tk_X7_man_1 26 (48, .iload_n 3, 1) rfl
theorem dX7_man_49 : decode cX7_man 49 = .ok (.iload_n 2, 1) := tb_d tk_X7_man_1 27 (49, .iload_n 2, 1) rfl
theorem dX7_man_50 : decode cX7_man 50 = .ok (.invokestatic 250, 3) := tb_d tk_X7_man_1 28 (50, .invokestatic 250, 3) rfl
theorem dX7_man_53 : decode cX7_man 53 = .ok (.ireturn, 1) := tb_d tk_X7_man_1 29 (53, .ireturn, 1) rfl
theorem dX7_man_54 : decode cX7_man 54 = .ok (.iload_n 1, 1) := tb_d tk_X7_man_1 30 (54, .iload_n 1, 1) rfl
theorem dX7_man_55 : decode cX7_man 55 = .ok (.ifCond .ne 10, 3) := tb_d tk_X7_man_1 31 (55, .ifCond .ne 10, 3) rfl
theorem dX7_man_58 : decode cX7_man 58 = .ok (.iload_n 3, 1) := tb_d tk_X7_man_1 32 (58, .iload_n 3, 1) rfl
theorem dX7_man_59 : decode cX7_man 59 = .ok (.bipush 6, 2) := tb_d tk_X7_man_1 33 (59, .bipush 6, 2) rfl
theorem dX7_man_61 : decode cX7_man 61 = .ok (.idiv, 1) := tb_d tk_X7_man_1 34 (61, .idiv, 1) rfl
theorem dX7_man_62 : decode cX7_man 62 = .ok (.goto 7, 3) := tb_d tk_X7_man_1 35 (62, .goto 7, 3) rfl
theorem dX7_man_65 : decode cX7_man 65 = .ok (.iload_n 3, 1) := tb_d tk_X7_man_1 36 (65, .iload_n 3, 1) rfl
theorem dX7_man_66 : decode cX7_man 66 = .ok (.bipush 6, 2) := tb_d tk_X7_man_1 37 (66, .bipush 6, 2) rfl
theorem dX7_man_68 : decode cX7_man 68 = .ok (.irem, 1) := tb_d tk_X7_man_1 38 (68, .irem, 1) rfl
theorem dX7_man_69 : decode cX7_man 69 = .ok (.ireturn, 1) := tb_d tk_X7_man_1 39 (69, .ireturn, 1) rfl
theorem ggX7_fewest_X7_noGate : GoodIn wsX7_fewest wsX7_noGate := fun w h => ⟨List.mem_cons_of_mem _ (List.mem_append_right _ (List.mem_append_right _ (List.mem_append_right _ (List.mem_append_right _ (List.mem_append_right _ (List.mem_append_right _ (List.mem_append_right _ (List.mem_append_right _ (List.mem_append_left _ h))))))))), good_of_word (gdX7_noGate w h)⟩
set_option maxRecDepth 20000 in
theorem gX7_fewest_X7_noGate : GoodIn wsX7_fewest (wsV RX7 133 RX7 yX7_noGate wsX7_noGate) := goodIn_app (a := bkV RX7 133 RX7 yX7_noGate) (fun w h => ⟨List.mem_cons_of_mem _ (List.mem_append_right _ (List.mem_append_left _ h)), good_of_word (gd_bV _ _ _ _ w h)⟩) ggX7_fewest_X7_noGate
theorem ggX7_fewest_X3_agreeing : GoodIn wsX7_fewest wsX3_agreeing := fun w h => ⟨List.mem_cons_of_mem _ (List.mem_append_right _ (List.mem_append_right _ (List.mem_append_right _ (List.mem_append_right _ (List.mem_append_right _ (List.mem_append_right _ (List.mem_append_right _ (List.mem_append_right _ (List.mem_append_right _ (List.mem_append_left _ h)))))))))), good_of_word (gdX3_agreeing w h)⟩
set_option maxRecDepth 20000 in
theorem gX7_fewest_X3_agreeing : GoodIn wsX7_fewest (va_wsS RX7 242 yX3_agreeing wsX3_agreeing) := goodIn_app (a := bkS RX7 242 yX3_agreeing) (fun w h => ⟨List.mem_cons_of_mem _ (List.mem_append_right _ (List.mem_append_right _ (List.mem_append_left _ h))), good_of_word (gd_bS _ _ _ w h)⟩) ggX7_fewest_X3_agreeing
theorem ggX7_fewest_X3_fewestMen : GoodIn wsX7_fewest wsX3_fewestMen := fun w h => ⟨List.mem_cons_of_mem _ (List.mem_append_right _ (List.mem_append_right _ (List.mem_append_right _ (List.mem_append_right _ (List.mem_append_right _ (List.mem_append_right _ (List.mem_append_right _ (List.mem_append_right _ (List.mem_append_right _ (List.mem_append_right _ (List.mem_append_left _ h))))))))))), good_of_word (gdX3_fewestMen w h)⟩
set_option maxRecDepth 20000 in
theorem gX7_fewest_X3_fewestMen : GoodIn wsX7_fewest (wsV RX7 254 RX3 yX3_fewestMen wsX3_fewestMen) := goodIn_app (a := bkV RX7 254 RX3 yX3_fewestMen) (fun w h => ⟨List.mem_cons_of_mem _ (List.mem_append_right _ (List.mem_append_right _ (List.mem_append_right _ (List.mem_append_left _ h)))), good_of_word (gd_bV _ _ _ _ w h)⟩) ggX7_fewest_X3_fewestMen
def tb_X7_fewest_1 : List (Nat × Instr × Nat) := [(0, .aload_n 0, 1), (1, .invokevirtual 133, 3), (4, .ifCond .eq 8, 3), (7, .ldc 136, 2), (9, .goto 21, 3), (12, .aload_n 0, 1), (13, .getfield 43, 3), (16, .aload_n 0, 1), (17, .getfield 25, 3), (20, .aload_n 0, 1), (21, .getfield 25, 3), (24, .invokestatic 242, 3), (27, .invokevirtual 254, 3), (30, .ireturn, 1)]
set_option maxRecDepth 100000 in
theorem tk_X7_fewest_1 : (tb_X7_fewest_1.all fun q => decide (decode cX7_fewest q.1 = .ok q.2)) = true := by decide +kernel
theorem dX7_fewest_0 : decode cX7_fewest 0 = .ok (.aload_n 0, 1) := tb_d tk_X7_fewest_1 0 (0, .aload_n 0, 1) rfl
theorem dX7_fewest_1 : decode cX7_fewest 1 = .ok (.invokevirtual 133, 3) := tb_d tk_X7_fewest_1 1 (1, .invokevirtual 133, 3) rfl
theorem dX7_fewest_4 : decode cX7_fewest 4 = .ok (.ifCond .eq 8, 3) := tb_d tk_X7_fewest_1 2 (4, .ifCond .eq 8, 3) rfl
theorem dX7_fewest_7 : decode cX7_fewest 7 = .ok (.ldc 136, 2) := tb_d tk_X7_fewest_1 3 (7, .ldc 136, 2) rfl
theorem dX7_fewest_9 : decode cX7_fewest 9 = .ok (.goto 21, 3) := tb_d tk_X7_fewest_1 4 (9, .goto 21, 3) rfl
theorem dX7_fewest_12 : decode cX7_fewest 12 = .ok (.aload_n 0, 1) := tb_d tk_X7_fewest_1 5 (12, .aload_n 0, 1) rfl
theorem dX7_fewest_13 : decode cX7_fewest 13 = .ok (.getfield 43, 3) := tb_d tk_X7_fewest_1 6 (13, .getfield 43, 3) rfl
theorem dX7_fewest_16 : decode cX7_fewest 16 = .ok (.aload_n 0, 1) := tb_d tk_X7_fewest_1 7 (16, .aload_n 0, 1) rfl
theorem dX7_fewest_17 : decode cX7_fewest 17 = .ok (.getfield 25, 3) := tb_d tk_X7_fewest_1 8 (17, .getfield 25, 3) rfl
theorem dX7_fewest_20 : decode cX7_fewest 20 = .ok (.aload_n 0, 1) := tb_d tk_X7_fewest_1 9 (20, .aload_n 0, 1) rfl
theorem dX7_fewest_21 : decode cX7_fewest 21 = .ok (.getfield 25, 3) := tb_d tk_X7_fewest_1 10 (21, .getfield 25, 3) rfl
theorem dX7_fewest_24 : decode cX7_fewest 24 = .ok (.invokestatic 242, 3) := tb_d tk_X7_fewest_1 11 (24, .invokestatic 242, 3) rfl
theorem dX7_fewest_27 : decode cX7_fewest 27 = .ok (.invokevirtual 254, 3) := tb_d tk_X7_fewest_1 12 (27, .invokevirtual 254, 3) rfl
theorem dX7_fewest_30 : decode cX7_fewest 30 = .ok (.ireturn, 1) := tb_d tk_X7_fewest_1 13 (30, .ireturn, 1) rfl
theorem ggX7_march_X7_noGate : GoodIn wsX7_march wsX7_noGate := fun w h => ⟨List.mem_cons_of_mem _ (List.mem_append_right _ (List.mem_append_right _ (List.mem_append_right _ (List.mem_append_right _ (List.mem_append_right _ (List.mem_append_right _ (List.mem_append_right _ (List.mem_append_right _ (List.mem_append_right _ (List.mem_append_right _ (List.mem_append_right _ (List.mem_append_left _ h)))))))))))), good_of_word (gdX7_noGate w h)⟩
set_option maxRecDepth 20000 in
theorem gX7_march_X7_noGate : GoodIn wsX7_march (wsV RX7 133 RX7 yX7_noGate wsX7_noGate) := goodIn_app (a := bkV RX7 133 RX7 yX7_noGate) (fun w h => ⟨List.mem_cons_of_mem _ (List.mem_append_right _ (List.mem_append_left _ h)), good_of_word (gd_bV _ _ _ _ w h)⟩) ggX7_march_X7_noGate
theorem ggX7_march_X7_isRow : GoodIn wsX7_march wsX7_isRow := fun w h => ⟨List.mem_cons_of_mem _ (List.mem_append_right _ (List.mem_append_right _ (List.mem_append_right _ (List.mem_append_right _ (List.mem_append_right _ (List.mem_append_right _ (List.mem_append_right _ (List.mem_append_right _ (List.mem_append_right _ (List.mem_append_right _ (List.mem_append_right _ (List.mem_append_right _ (List.mem_append_left _ h))))))))))))), good_of_word (gdX7_isRow w h)⟩
set_option maxRecDepth 20000 in
theorem gX7_march_X7_isRow : GoodIn wsX7_march (wsV RX7 55 RX7 yX7_isRow wsX7_isRow) := goodIn_app (a := bkV RX7 55 RX7 yX7_isRow) (fun w h => ⟨List.mem_cons_of_mem _ (List.mem_append_right _ (List.mem_append_right _ (List.mem_append_left _ h))), good_of_word (gd_bV _ _ _ _ w h)⟩) ggX7_march_X7_isRow
theorem ggX7_march_X5_findingOf : GoodIn wsX7_march wsX5_findingOf := fun w h => ⟨List.mem_cons_of_mem _ (List.mem_append_right _ (List.mem_append_right _ (List.mem_append_right _ (List.mem_append_right _ (List.mem_append_right _ (List.mem_append_right _ (List.mem_append_right _ (List.mem_append_right _ (List.mem_append_right _ (List.mem_append_right _ (List.mem_append_right _ (List.mem_append_right _ (List.mem_append_right _ (List.mem_append_left _ h)))))))))))))), good_of_word (gdX5_findingOf w h)⟩
set_option maxRecDepth 20000 in
theorem gX7_march_X5_findingOf : GoodIn wsX7_march (wsV RX7 71 RX5 yX5_findingOf wsX5_findingOf) := goodIn_app (a := bkV RX7 71 RX5 yX5_findingOf) (fun w h => ⟨List.mem_cons_of_mem _ (List.mem_append_right _ (List.mem_append_right _ (List.mem_append_right _ (List.mem_append_left _ h)))), good_of_word (gd_bV _ _ _ _ w h)⟩) ggX7_march_X5_findingOf
theorem ggX7_march_X7_found : GoodIn wsX7_march wsX7_found := fun w h => ⟨List.mem_cons_of_mem _ (List.mem_append_right _ (List.mem_append_right _ (List.mem_append_right _ (List.mem_append_right _ (List.mem_append_right _ (List.mem_append_right _ (List.mem_append_right _ (List.mem_append_right _ (List.mem_append_right _ (List.mem_append_right _ (List.mem_append_right _ (List.mem_append_right _ (List.mem_append_right _ (List.mem_append_right _ (List.mem_append_left _ h))))))))))))))), good_of_word (gdX7_found w h)⟩
set_option maxRecDepth 20000 in
theorem gX7_march_X7_found : GoodIn wsX7_march (wsV RX7 60 RX7 yX7_found wsX7_found) := goodIn_app (a := bkV RX7 60 RX7 yX7_found) (fun w h => ⟨List.mem_cons_of_mem _ (List.mem_append_right _ (List.mem_append_right _ (List.mem_append_right _ (List.mem_append_right _ (List.mem_append_left _ h))))), good_of_word (gd_bV _ _ _ _ w h)⟩) ggX7_march_X7_found
theorem ggX7_march_X7_hourOfLast : GoodIn wsX7_march wsX7_hourOfLast := fun w h => ⟨List.mem_cons_of_mem _ (List.mem_append_right _ (List.mem_append_right _ (List.mem_append_right _ (List.mem_append_right _ (List.mem_append_right _ (List.mem_append_right _ (List.mem_append_right _ (List.mem_append_right _ (List.mem_append_right _ (List.mem_append_right _ (List.mem_append_right _ (List.mem_append_right _ (List.mem_append_right _ (List.mem_append_right _ (List.mem_append_right _ (List.mem_append_left _ h)))))))))))))))), good_of_word (gdX7_hourOfLast w h)⟩
set_option maxRecDepth 20000 in
theorem gX7_march_X7_hourOfLast : GoodIn wsX7_march (wsV RX7 257 RX7 yX7_hourOfLast wsX7_hourOfLast) := goodIn_app (a := bkV RX7 257 RX7 yX7_hourOfLast) (fun w h => ⟨List.mem_cons_of_mem _ (List.mem_append_right _ (List.mem_append_right _ (List.mem_append_right _ (List.mem_append_right _ (List.mem_append_right _ (List.mem_append_left _ h)))))), good_of_word (gd_bV _ _ _ _ w h)⟩) ggX7_march_X7_hourOfLast
theorem ggX7_march_X7_unfound : GoodIn wsX7_march wsX7_unfound := fun w h => ⟨List.mem_cons_of_mem _ (List.mem_append_right _ (List.mem_append_right _ (List.mem_append_right _ (List.mem_append_right _ (List.mem_append_right _ (List.mem_append_right _ (List.mem_append_right _ (List.mem_append_right _ (List.mem_append_right _ (List.mem_append_right _ (List.mem_append_right _ (List.mem_append_right _ (List.mem_append_right _ (List.mem_append_right _ (List.mem_append_right _ (List.mem_append_right _ (List.mem_append_left _ h))))))))))))))))), good_of_word (gdX7_unfound w h)⟩
set_option maxRecDepth 20000 in
theorem gX7_march_X7_unfound : GoodIn wsX7_march (wsV RX7 68 RX7 yX7_unfound wsX7_unfound) := goodIn_app (a := bkV RX7 68 RX7 yX7_unfound) (fun w h => ⟨List.mem_cons_of_mem _ (List.mem_append_right _ (List.mem_append_right _ (List.mem_append_right _ (List.mem_append_right _ (List.mem_append_right _ (List.mem_append_right _ (List.mem_append_left _ h))))))), good_of_word (gd_bV _ _ _ _ w h)⟩) ggX7_march_X7_unfound
def tb_X7_march_1 : List (Nat × Instr × Nat) := [(0, .aload_n 0, 1), (1, .invokevirtual 133, 3), (4, .ifCond .eq 6, 3), (7, .ldc 136, 2), (9, .ireturn, 1), (10, .aload_n 0, 1), (11, .iload_n 1, 1), (12, .invokevirtual 55, 3), (15, .ifCond .eq 26, 3), (18, .iload_n 3, 1), (19, .iconst 1, 1), (20, .if_icmp .lt 21, 3), (23, .iload_n 3, 1), (24, .bipush 6, 2), (26, .if_icmp .gt 15, 3), (29, .iload 4, 2), (31, .iconst (-1), 1), (32, .if_icmp .lt 9, 3), (35, .iload 4, 2), (37, .iload_n 3, 1), (38, .if_icmp .lt 6, 3), (41, .ldc 59, 2), (43, .ireturn, 1), (44, .aload_n 0, 1), (45, .getfield 11, 3), (48, .iload_n 1, 1), (49, .aaload, 1), (50, .iload_n 2, 1), (51, .iload_n 3, 1), (52, .invokevirtual 71, 3), (55, .istore 5, 2), (57, .iload 5, 2), (59, .ifCond .eq 10, 3), (62, .aload_n 0, 1), (63, .iload 5, 2), (65, .invokevirtual 60, 3), (68, .ireturn, 1), (69, .aload_n 0, 1), (70, .aload_n 0, 1), (71, .aload_n 0, 1)]
set_option maxRecDepth 100000 in
theorem tk_X7_march_1 : (tb_X7_march_1.all fun q => decide (decode cX7_march q.1 = .ok q.2)) = true := by decide +kernel
theorem dX7_march_0 : decode cX7_march 0 = .ok (.aload_n 0, 1) := tb_d tk_X7_march_1 0 (0, .aload_n 0, 1) rfl
theorem dX7_march_1 : decode cX7_march 1 = .ok (.invokevirtual 133, 3) := tb_d tk_X7_march_1 1 (1, .invokevirtual 133, 3) rfl
theorem dX7_march_4 : decode cX7_march 4 = .ok (.ifCond .eq 6, 3) := tb_d tk_X7_march_1 2 (4, .ifCond .eq 6, 3) rfl
theorem dX7_march_7 : decode cX7_march 7 = .ok (.ldc 136, 2) := tb_d tk_X7_march_1 3 (7, .ldc 136, 2) rfl
theorem dX7_march_9 : decode cX7_march 9 = .ok (.ireturn, 1) := tb_d tk_X7_march_1 4 (9, .ireturn, 1) rfl
theorem dX7_march_10 : decode cX7_march 10 = .ok (.aload_n 0, 1) := tb_d tk_X7_march_1 5 (10, .aload_n 0, 1) rfl
theorem dX7_march_11 : decode cX7_march 11 = .ok (.iload_n 1, 1) := tb_d tk_X7_march_1 6 (11, .iload_n 1, 1) rfl
theorem dX7_march_12 : decode cX7_march 12 = .ok (.invokevirtual 55, 3) := tb_d tk_X7_march_1 7 (12, .invokevirtual 55, 3) rfl
theorem dX7_march_15 : decode cX7_march 15 = .ok (.ifCond .eq 26, 3) := tb_d tk_X7_march_1 8 (15, .ifCond .eq 26, 3) rfl
theorem dX7_march_18 : decode cX7_march 18 = .ok (.iload_n 3, 1) := tb_d tk_X7_march_1 9 (18, .iload_n 3, 1) rfl
theorem dX7_march_19 : decode cX7_march 19 = .ok (.iconst 1, 1) := tb_d tk_X7_march_1 10 (19, .iconst 1, 1) rfl
theorem dX7_march_20 : decode cX7_march 20 = .ok (.if_icmp .lt 21, 3) := tb_d tk_X7_march_1 11 (20, .if_icmp .lt 21, 3) rfl
theorem dX7_march_23 : decode cX7_march 23 = .ok (.iload_n 3, 1) := tb_d tk_X7_march_1 12 (23, .iload_n 3, 1) rfl
theorem dX7_march_24 : decode cX7_march 24 = .ok (.bipush 6, 2) := tb_d tk_X7_march_1 13 (24, .bipush 6, 2) rfl
theorem dX7_march_26 : decode cX7_march 26 = .ok (.if_icmp .gt 15, 3) := tb_d tk_X7_march_1 14 (26, .if_icmp .gt 15, 3) rfl
theorem dX7_march_29 : decode cX7_march 29 = .ok (.iload 4, 2) := tb_d tk_X7_march_1 15 (29, .iload 4, 2) rfl
theorem dX7_march_31 : decode cX7_march 31 = .ok (.iconst (-1), 1) := tb_d tk_X7_march_1 16 (31, .iconst (-1), 1) rfl
theorem dX7_march_32 : decode cX7_march 32 = .ok (.if_icmp .lt 9, 3) := tb_d tk_X7_march_1 17 (32, .if_icmp .lt 9, 3) rfl
theorem dX7_march_35 : decode cX7_march 35 = .ok (.iload 4, 2) := tb_d tk_X7_march_1 18 (35, .iload 4, 2) rfl
theorem dX7_march_37 : decode cX7_march 37 = .ok (.iload_n 3, 1) := tb_d tk_X7_march_1 19 (37, .iload_n 3, 1) rfl
theorem dX7_march_38 : decode cX7_march 38 = .ok (.if_icmp .lt 6, 3) := tb_d tk_X7_march_1 20 (38, .if_icmp .lt 6, 3) rfl
theorem dX7_march_41 : decode cX7_march 41 = .ok (.ldc 59, 2) := tb_d tk_X7_march_1 21 (41, .ldc 59, 2) rfl
theorem dX7_march_43 : decode cX7_march 43 = .ok (.ireturn, 1) := tb_d tk_X7_march_1 22 (43, .ireturn, 1) rfl
theorem dX7_march_44 : decode cX7_march 44 = .ok (.aload_n 0, 1) := tb_d tk_X7_march_1 23 (44, .aload_n 0, 1) rfl
theorem dX7_march_45 : decode cX7_march 45 = .ok (.getfield 11, 3) := tb_d tk_X7_march_1 24 (45, .getfield 11, 3) rfl
theorem dX7_march_48 : decode cX7_march 48 = .ok (.iload_n 1, 1) := tb_d tk_X7_march_1 25 (48, .iload_n 1, 1) rfl
theorem dX7_march_49 : decode cX7_march 49 = .ok (.aaload, 1) := tb_d tk_X7_march_1 26 (49, .aaload, 1) rfl
theorem dX7_march_50 : decode cX7_march 50 = .ok (.iload_n 2, 1) := tb_d tk_X7_march_1 27 (50, .iload_n 2, 1) rfl
theorem dX7_march_51 : decode cX7_march 51 = .ok (.iload_n 3, 1) := tb_d tk_X7_march_1 28 (51, .iload_n 3, 1) rfl
theorem dX7_march_52 : decode cX7_march 52 = .ok (.invokevirtual 71, 3) := tb_d tk_X7_march_1 29 (52, .invokevirtual 71, 3) rfl
theorem dX7_march_55 : decode cX7_march 55 = .ok (.istore 5, 2) := tb_d tk_X7_march_1 30 (55, .istore 5, 2) rfl
theorem dX7_march_57 : decode cX7_march 57 = .ok (.iload 5, 2) := tb_d tk_X7_march_1 31 (57, .iload 5, 2) rfl
theorem dX7_march_59 : decode cX7_march 59 = .ok (.ifCond .eq 10, 3) := tb_d tk_X7_march_1 32 (59, .ifCond .eq 10, 3) rfl
theorem dX7_march_62 : decode cX7_march 62 = .ok (.aload_n 0, 1) := tb_d tk_X7_march_1 33 (62, .aload_n 0, 1) rfl
theorem dX7_march_63 : decode cX7_march 63 = .ok (.iload 5, 2) := tb_d tk_X7_march_1 34 (63, .iload 5, 2) rfl
theorem dX7_march_65 : decode cX7_march 65 = .ok (.invokevirtual 60, 3) := tb_d tk_X7_march_1 35 (65, .invokevirtual 60, 3) rfl
theorem dX7_march_68 : decode cX7_march 68 = .ok (.ireturn, 1) := tb_d tk_X7_march_1 36 (68, .ireturn, 1) rfl
theorem dX7_march_69 : decode cX7_march 69 = .ok (.aload_n 0, 1) := tb_d tk_X7_march_1 37 (69, .aload_n 0, 1) rfl
theorem dX7_march_70 : decode cX7_march 70 = .ok (.aload_n 0, 1) := tb_d tk_X7_march_1 38 (70, .aload_n 0, 1) rfl
theorem dX7_march_71 : decode cX7_march 71 = .ok (.aload_n 0, 1) := tb_d tk_X7_march_1 39 (71, .aload_n 0, 1) rfl
def tb_X7_march_2 : List (Nat × Instr × Nat) := [(72, .getfield 11, 3), (75, .iload_n 1, 1), (76, .aaload, 1), (77, .iload_n 2, 1), (78, .iload 4, 2), (80, .iconst (-1), 1), (81, .if_icmp .ne 7, 3), (84, .iload_n 3, 1), (85, .goto 7, 3), (88, .iload 4, 2), (90, .iconst 1, 1), (91, .iadd, 1), (92, .invokevirtual 257, 3), (95, .invokevirtual 68, 3), (98, .ireturn, 1)]
set_option maxRecDepth 100000 in
theorem tk_X7_march_2 : (tb_X7_march_2.all fun q => decide (decode cX7_march q.1 = .ok q.2)) = true := by decide +kernel
theorem dX7_march_72 : decode cX7_march 72 = .ok (.getfield 11, 3) := tb_d tk_X7_march_2 0 (72, .getfield 11, 3) rfl
theorem dX7_march_75 : decode cX7_march 75 = .ok (.iload_n 1, 1) := tb_d tk_X7_march_2 1 (75, .iload_n 1, 1) rfl
theorem dX7_march_76 : decode cX7_march 76 = .ok (.aaload, 1) := tb_d tk_X7_march_2 2 (76, .aaload, 1) rfl
theorem dX7_march_77 : decode cX7_march 77 = .ok (.iload_n 2, 1) := tb_d tk_X7_march_2 3 (77, .iload_n 2, 1) rfl
theorem dX7_march_78 : decode cX7_march 78 = .ok (.iload 4, 2) := tb_d tk_X7_march_2 4 (78, .iload 4, 2) rfl
theorem dX7_march_80 : decode cX7_march 80 = .ok (.iconst (-1), 1) := tb_d tk_X7_march_2 5 (80, .iconst (-1), 1) rfl
theorem dX7_march_81 : decode cX7_march 81 = .ok (.if_icmp .ne 7, 3) := tb_d tk_X7_march_2 6 (81, .if_icmp .ne 7, 3) rfl
theorem dX7_march_84 : decode cX7_march 84 = .ok (.iload_n 3, 1) := tb_d tk_X7_march_2 7 (84, .iload_n 3, 1) rfl
theorem dX7_march_85 : decode cX7_march 85 = .ok (.goto 7, 3) := tb_d tk_X7_march_2 8 (85, .goto 7, 3) rfl
theorem dX7_march_88 : decode cX7_march 88 = .ok (.iload 4, 2) := tb_d tk_X7_march_2 9 (88, .iload 4, 2) rfl
theorem dX7_march_90 : decode cX7_march 90 = .ok (.iconst 1, 1) := tb_d tk_X7_march_2 10 (90, .iconst 1, 1) rfl
theorem dX7_march_91 : decode cX7_march 91 = .ok (.iadd, 1) := tb_d tk_X7_march_2 11 (91, .iadd, 1) rfl
theorem dX7_march_92 : decode cX7_march 92 = .ok (.invokevirtual 257, 3) := tb_d tk_X7_march_2 12 (92, .invokevirtual 257, 3) rfl
theorem dX7_march_95 : decode cX7_march 95 = .ok (.invokevirtual 68, 3) := tb_d tk_X7_march_2 13 (95, .invokevirtual 68, 3) rfl
theorem dX7_march_98 : decode cX7_march 98 = .ok (.ireturn, 1) := tb_d tk_X7_march_2 14 (98, .ireturn, 1) rfl
theorem ggX7_cheap_X7_noGate : GoodIn wsX7_cheap wsX7_noGate := fun w h => ⟨List.mem_cons_of_mem _ (List.mem_append_right _ (List.mem_append_right _ (List.mem_append_right _ (List.mem_append_right _ (List.mem_append_right _ (List.mem_append_right _ (List.mem_append_right _ (List.mem_append_right _ (List.mem_append_right _ (List.mem_append_left _ h)))))))))), good_of_word (gdX7_noGate w h)⟩
set_option maxRecDepth 20000 in
theorem gX7_cheap_X7_noGate : GoodIn wsX7_cheap (wsV RX7 133 RX7 yX7_noGate wsX7_noGate) := goodIn_app (a := bkV RX7 133 RX7 yX7_noGate) (fun w h => ⟨List.mem_cons_of_mem _ (List.mem_append_right _ (List.mem_append_left _ h)), good_of_word (gd_bV _ _ _ _ w h)⟩) ggX7_cheap_X7_noGate
theorem ggX7_cheap_X7_areWords : GoodIn wsX7_cheap wsX7_areWords := fun w h => ⟨List.mem_cons_of_mem _ (List.mem_append_right _ (List.mem_append_right _ (List.mem_append_right _ (List.mem_append_right _ (List.mem_append_right _ (List.mem_append_right _ (List.mem_append_right _ (List.mem_append_right _ (List.mem_append_right _ (List.mem_append_right _ (List.mem_append_left _ h))))))))))), good_of_word (gdX7_areWords w h)⟩
set_option maxRecDepth 20000 in
theorem gX7_cheap_X7_areWords : GoodIn wsX7_cheap (wsV RX7 233 RX7 yX7_areWords wsX7_areWords) := goodIn_app (a := bkV RX7 233 RX7 yX7_areWords) (fun w h => ⟨List.mem_cons_of_mem _ (List.mem_append_right _ (List.mem_append_right _ (List.mem_append_left _ h))), good_of_word (gd_bV _ _ _ _ w h)⟩) ggX7_cheap_X7_areWords
theorem ggX7_cheap_X7_isAhead : GoodIn wsX7_cheap wsX7_isAhead := fun w h => ⟨List.mem_cons_of_mem _ (List.mem_append_right _ (List.mem_append_right _ (List.mem_append_right _ (List.mem_append_right _ (List.mem_append_right _ (List.mem_append_right _ (List.mem_append_right _ (List.mem_append_right _ (List.mem_append_right _ (List.mem_append_right _ (List.mem_append_right _ (List.mem_append_left _ h)))))))))))), good_of_word (gdX7_isAhead w h)⟩
set_option maxRecDepth 20000 in
theorem gX7_cheap_X7_isAhead : GoodIn wsX7_cheap (wsV RX7 227 RX7 yX7_isAhead wsX7_isAhead) := goodIn_app (a := bkV RX7 227 RX7 yX7_isAhead) (fun w h => ⟨List.mem_cons_of_mem _ (List.mem_append_right _ (List.mem_append_right _ (List.mem_append_right _ (List.mem_append_left _ h)))), good_of_word (gd_bV _ _ _ _ w h)⟩) ggX7_cheap_X7_isAhead
theorem ggX7_cheap_X2_guardsAgainst : GoodIn wsX7_cheap wsX2_guardsAgainst := fun w h => ⟨List.mem_cons_of_mem _ (List.mem_append_right _ (List.mem_append_right _ (List.mem_append_right _ (List.mem_append_right _ (List.mem_append_right _ (List.mem_append_right _ (List.mem_append_right _ (List.mem_append_right _ (List.mem_append_right _ (List.mem_append_right _ (List.mem_append_right _ (List.mem_append_right _ (List.mem_append_left _ h))))))))))))), good_of_word (gdX2_guardsAgainst w h)⟩
set_option maxRecDepth 20000 in
theorem gX7_cheap_X2_guardsAgainst : GoodIn wsX7_cheap (wsV RX7 261 RX2 yX2_guardsAgainst wsX2_guardsAgainst) := goodIn_app (a := bkV RX7 261 RX2 yX2_guardsAgainst) (fun w h => ⟨List.mem_cons_of_mem _ (List.mem_append_right _ (List.mem_append_right _ (List.mem_append_right _ (List.mem_append_right _ (List.mem_append_left _ h))))), good_of_word (gd_bV _ _ _ _ w h)⟩) ggX7_cheap_X2_guardsAgainst
theorem ggX7_cheap_X2_feeOf : GoodIn wsX7_cheap wsX2_feeOf := fun w h => ⟨List.mem_cons_of_mem _ (List.mem_append_right _ (List.mem_append_right _ (List.mem_append_right _ (List.mem_append_right _ (List.mem_append_right _ (List.mem_append_right _ (List.mem_append_right _ (List.mem_append_right _ (List.mem_append_right _ (List.mem_append_right _ (List.mem_append_right _ (List.mem_append_right _ (List.mem_append_right _ (List.mem_append_left _ h)))))))))))))), good_of_word (gdX2_feeOf w h)⟩
set_option maxRecDepth 20000 in
theorem gX7_cheap_X2_feeOf : GoodIn wsX7_cheap (wsV RX7 264 RX2 yX2_feeOf wsX2_feeOf) := goodIn_app (a := bkV RX7 264 RX2 yX2_feeOf) (fun w h => ⟨List.mem_cons_of_mem _ (List.mem_append_right _ (List.mem_append_right _ (List.mem_append_right _ (List.mem_append_right _ (List.mem_append_right _ (List.mem_append_left _ h)))))), good_of_word (gd_bV _ _ _ _ w h)⟩) ggX7_cheap_X2_feeOf
def tb_X7_cheap_1 : List (Nat × Instr × Nat) := [(0, .aload_n 0, 1), (1, .invokevirtual 133, 3), (4, .ifCond .eq 6, 3), (7, .ldc 136, 2), (9, .ireturn, 1), (10, .aload_n 0, 1), (11, .iload_n 1, 1), (12, .invokevirtual 233, 3), (15, .ifCond .eq 20, 3), (18, .aload_n 0, 1), (19, .iload_n 2, 1), (20, .invokevirtual 227, 3), (23, .ifCond .eq 12, 3), (26, .iload_n 3, 1), (27, .ifCond .lt 8, 3), (30, .iload_n 3, 1), (31, .iconst 1, 1), (32, .if_icmp .le 6, 3), (35, .ldc 59, 2), (37, .ireturn, 1), (38, .aload_n 0, 1), (39, .getfield 25, 3), (42, .iload_n 1, 1), (43, .iload_n 2, 1), (44, .invokevirtual 261, 3), (47, .istore 4, 2), (49, .iload_n 3, 1), (50, .ifCond .ne 15, 3), (53, .aload_n 0, 1), (54, .getfield 25, 3), (57, .iload 4, 2), (59, .invokevirtual 264, 3), (62, .goto 5, 3), (65, .iload 4, 2), (67, .ireturn, 1)]
set_option maxRecDepth 100000 in
theorem tk_X7_cheap_1 : (tb_X7_cheap_1.all fun q => decide (decode cX7_cheap q.1 = .ok q.2)) = true := by decide +kernel
theorem dX7_cheap_0 : decode cX7_cheap 0 = .ok (.aload_n 0, 1) := tb_d tk_X7_cheap_1 0 (0, .aload_n 0, 1) rfl
theorem dX7_cheap_1 : decode cX7_cheap 1 = .ok (.invokevirtual 133, 3) := tb_d tk_X7_cheap_1 1 (1, .invokevirtual 133, 3) rfl
theorem dX7_cheap_4 : decode cX7_cheap 4 = .ok (.ifCond .eq 6, 3) := tb_d tk_X7_cheap_1 2 (4, .ifCond .eq 6, 3) rfl
theorem dX7_cheap_7 : decode cX7_cheap 7 = .ok (.ldc 136, 2) := tb_d tk_X7_cheap_1 3 (7, .ldc 136, 2) rfl
theorem dX7_cheap_9 : decode cX7_cheap 9 = .ok (.ireturn, 1) := tb_d tk_X7_cheap_1 4 (9, .ireturn, 1) rfl
theorem dX7_cheap_10 : decode cX7_cheap 10 = .ok (.aload_n 0, 1) := tb_d tk_X7_cheap_1 5 (10, .aload_n 0, 1) rfl
theorem dX7_cheap_11 : decode cX7_cheap 11 = .ok (.iload_n 1, 1) := tb_d tk_X7_cheap_1 6 (11, .iload_n 1, 1) rfl
theorem dX7_cheap_12 : decode cX7_cheap 12 = .ok (.invokevirtual 233, 3) := tb_d tk_X7_cheap_1 7 (12, .invokevirtual 233, 3) rfl
theorem dX7_cheap_15 : decode cX7_cheap 15 = .ok (.ifCond .eq 20, 3) := tb_d tk_X7_cheap_1 8 (15, .ifCond .eq 20, 3) rfl
theorem dX7_cheap_18 : decode cX7_cheap 18 = .ok (.aload_n 0, 1) := tb_d tk_X7_cheap_1 9 (18, .aload_n 0, 1) rfl
theorem dX7_cheap_19 : decode cX7_cheap 19 = .ok (.iload_n 2, 1) := tb_d tk_X7_cheap_1 10 (19, .iload_n 2, 1) rfl
theorem dX7_cheap_20 : decode cX7_cheap 20 = .ok (.invokevirtual 227, 3) := tb_d tk_X7_cheap_1 11 (20, .invokevirtual 227, 3) rfl
theorem dX7_cheap_23 : decode cX7_cheap 23 = .ok (.ifCond .eq 12, 3) := tb_d tk_X7_cheap_1 12 (23, .ifCond .eq 12, 3) rfl
theorem dX7_cheap_26 : decode cX7_cheap 26 = .ok (.iload_n 3, 1) := tb_d tk_X7_cheap_1 13 (26, .iload_n 3, 1) rfl
theorem dX7_cheap_27 : decode cX7_cheap 27 = .ok (.ifCond .lt 8, 3) := tb_d tk_X7_cheap_1 14 (27, .ifCond .lt 8, 3) rfl
theorem dX7_cheap_30 : decode cX7_cheap 30 = .ok (.iload_n 3, 1) := tb_d tk_X7_cheap_1 15 (30, .iload_n 3, 1) rfl
theorem dX7_cheap_31 : decode cX7_cheap 31 = .ok (.iconst 1, 1) := tb_d tk_X7_cheap_1 16 (31, .iconst 1, 1) rfl
theorem dX7_cheap_32 : decode cX7_cheap 32 = .ok (.if_icmp .le 6, 3) := tb_d tk_X7_cheap_1 17 (32, .if_icmp .le 6, 3) rfl
theorem dX7_cheap_35 : decode cX7_cheap 35 = .ok (.ldc 59, 2) := tb_d tk_X7_cheap_1 18 (35, .ldc 59, 2) rfl
theorem dX7_cheap_37 : decode cX7_cheap 37 = .ok (.ireturn, 1) := tb_d tk_X7_cheap_1 19 (37, .ireturn, 1) rfl
theorem dX7_cheap_38 : decode cX7_cheap 38 = .ok (.aload_n 0, 1) := tb_d tk_X7_cheap_1 20 (38, .aload_n 0, 1) rfl
theorem dX7_cheap_39 : decode cX7_cheap 39 = .ok (.getfield 25, 3) := tb_d tk_X7_cheap_1 21 (39, .getfield 25, 3) rfl
theorem dX7_cheap_42 : decode cX7_cheap 42 = .ok (.iload_n 1, 1) := tb_d tk_X7_cheap_1 22 (42, .iload_n 1, 1) rfl
theorem dX7_cheap_43 : decode cX7_cheap 43 = .ok (.iload_n 2, 1) := tb_d tk_X7_cheap_1 23 (43, .iload_n 2, 1) rfl
theorem dX7_cheap_44 : decode cX7_cheap 44 = .ok (.invokevirtual 261, 3) := tb_d tk_X7_cheap_1 24 (44, .invokevirtual 261, 3) rfl
theorem dX7_cheap_47 : decode cX7_cheap 47 = .ok (.istore 4, 2) := tb_d tk_X7_cheap_1 25 (47, .istore 4, 2) rfl
theorem dX7_cheap_49 : decode cX7_cheap 49 = .ok (.iload_n 3, 1) := tb_d tk_X7_cheap_1 26 (49, .iload_n 3, 1) rfl
theorem dX7_cheap_50 : decode cX7_cheap 50 = .ok (.ifCond .ne 15, 3) := tb_d tk_X7_cheap_1 27 (50, .ifCond .ne 15, 3) rfl
theorem dX7_cheap_53 : decode cX7_cheap 53 = .ok (.aload_n 0, 1) := tb_d tk_X7_cheap_1 28 (53, .aload_n 0, 1) rfl
theorem dX7_cheap_54 : decode cX7_cheap 54 = .ok (.getfield 25, 3) := tb_d tk_X7_cheap_1 29 (54, .getfield 25, 3) rfl
theorem dX7_cheap_57 : decode cX7_cheap 57 = .ok (.iload 4, 2) := tb_d tk_X7_cheap_1 30 (57, .iload 4, 2) rfl
theorem dX7_cheap_59 : decode cX7_cheap 59 = .ok (.invokevirtual 264, 3) := tb_d tk_X7_cheap_1 31 (59, .invokevirtual 264, 3) rfl
theorem dX7_cheap_62 : decode cX7_cheap 62 = .ok (.goto 5, 3) := tb_d tk_X7_cheap_1 32 (62, .goto 5, 3) rfl
theorem dX7_cheap_65 : decode cX7_cheap 65 = .ok (.iload 4, 2) := tb_d tk_X7_cheap_1 33 (65, .iload 4, 2) rfl
theorem dX7_cheap_67 : decode cX7_cheap 67 = .ok (.ireturn, 1) := tb_d tk_X7_cheap_1 34 (67, .ireturn, 1) rfl
theorem ggX7_near_X7_isWord : GoodIn wsX7_near wsX7_isWord := fun w h => ⟨List.mem_cons_of_mem _ (List.mem_append_right _ (List.mem_append_right _ (List.mem_append_right _ (List.mem_append_right _ (List.mem_append_right _ (List.mem_append_right _ (List.mem_append_left _ h))))))), good_of_word (gdX7_isWord w h)⟩
set_option maxRecDepth 20000 in
theorem gX7_near_X7_isWord : GoodIn wsX7_near (wsV RX7 156 RX7 yX7_isWord wsX7_isWord) := goodIn_app (a := bkV RX7 156 RX7 yX7_isWord) (fun w h => ⟨List.mem_cons_of_mem _ (List.mem_append_right _ (List.mem_append_left _ h)), good_of_word (gd_bV _ _ _ _ w h)⟩) ggX7_near_X7_isWord
theorem ggX7_near_X2_nearestTo : GoodIn wsX7_near wsX2_nearestTo := fun w h => ⟨List.mem_cons_of_mem _ (List.mem_append_right _ (List.mem_append_right _ (List.mem_append_right _ (List.mem_append_right _ (List.mem_append_right _ (List.mem_append_right _ (List.mem_append_right _ (List.mem_append_left _ h)))))))), good_of_word (gdX2_nearestTo w h)⟩
set_option maxRecDepth 20000 in
theorem gX7_near_X2_nearestTo : GoodIn wsX7_near (wsV RX7 267 RX2 yX2_nearestTo wsX2_nearestTo) := goodIn_app (a := bkV RX7 267 RX2 yX2_nearestTo) (fun w h => ⟨List.mem_cons_of_mem _ (List.mem_append_right _ (List.mem_append_right _ (List.mem_append_left _ h))), good_of_word (gd_bV _ _ _ _ w h)⟩) ggX7_near_X2_nearestTo
theorem ggX7_near_X2_distance : GoodIn wsX7_near wsX2_distance := fun w h => ⟨List.mem_cons_of_mem _ (List.mem_append_right _ (List.mem_append_right _ (List.mem_append_right _ (List.mem_append_right _ (List.mem_append_right _ (List.mem_append_right _ (List.mem_append_right _ (List.mem_append_right _ (List.mem_append_left _ h))))))))), good_of_word (gdX2_distance w h)⟩
set_option maxRecDepth 20000 in
theorem gX7_near_X2_distance : GoodIn wsX7_near (wsV RX7 203 RX2 yX2_distance wsX2_distance) := goodIn_app (a := bkV RX7 203 RX2 yX2_distance) (fun w h => ⟨List.mem_cons_of_mem _ (List.mem_append_right _ (List.mem_append_right _ (List.mem_append_right _ (List.mem_append_left _ h)))), good_of_word (gd_bV _ _ _ _ w h)⟩) ggX7_near_X2_distance
def tb_X7_near_1 : List (Nat × Instr × Nat) := [(0, .aload_n 0, 1), (1, .iload_n 1, 1), (2, .invokevirtual 156, 3), (5, .ifCond .eq 12, 3), (8, .iload_n 2, 1), (9, .ifCond .lt 8, 3), (12, .iload_n 2, 1), (13, .iconst 1, 1), (14, .if_icmp .le 6, 3), (17, .ldc 59, 2), (19, .ireturn, 1), (20, .aload_n 0, 1), (21, .getfield 25, 3), (24, .iload_n 1, 1), (25, .invokevirtual 267, 3), (28, .istore_n 3, 1), (29, .iload_n 2, 1), (30, .ifCond .eq 9, 3), (33, .iload_n 3, 1), (34, .ldc 175, 2), (36, .if_icmp .ne 7, 3), (39, .iload_n 3, 1), (40, .goto 12, 3), (43, .aload_n 0, 1), (44, .getfield 25, 3), (47, .iload_n 1, 1), (48, .iload_n 3, 1), (49, .invokevirtual 203, 3), (52, .ireturn, 1)]
set_option maxRecDepth 100000 in
theorem tk_X7_near_1 : (tb_X7_near_1.all fun q => decide (decode cX7_near q.1 = .ok q.2)) = true := by decide +kernel
theorem dX7_near_0 : decode cX7_near 0 = .ok (.aload_n 0, 1) := tb_d tk_X7_near_1 0 (0, .aload_n 0, 1) rfl
theorem dX7_near_1 : decode cX7_near 1 = .ok (.iload_n 1, 1) := tb_d tk_X7_near_1 1 (1, .iload_n 1, 1) rfl
theorem dX7_near_2 : decode cX7_near 2 = .ok (.invokevirtual 156, 3) := tb_d tk_X7_near_1 2 (2, .invokevirtual 156, 3) rfl
theorem dX7_near_5 : decode cX7_near 5 = .ok (.ifCond .eq 12, 3) := tb_d tk_X7_near_1 3 (5, .ifCond .eq 12, 3) rfl
theorem dX7_near_8 : decode cX7_near 8 = .ok (.iload_n 2, 1) := tb_d tk_X7_near_1 4 (8, .iload_n 2, 1) rfl
theorem dX7_near_9 : decode cX7_near 9 = .ok (.ifCond .lt 8, 3) := tb_d tk_X7_near_1 5 (9, .ifCond .lt 8, 3) rfl
theorem dX7_near_12 : decode cX7_near 12 = .ok (.iload_n 2, 1) := tb_d tk_X7_near_1 6 (12, .iload_n 2, 1) rfl
theorem dX7_near_13 : decode cX7_near 13 = .ok (.iconst 1, 1) := tb_d tk_X7_near_1 7 (13, .iconst 1, 1) rfl
theorem dX7_near_14 : decode cX7_near 14 = .ok (.if_icmp .le 6, 3) := tb_d tk_X7_near_1 8 (14, .if_icmp .le 6, 3) rfl
theorem dX7_near_17 : decode cX7_near 17 = .ok (.ldc 59, 2) := tb_d tk_X7_near_1 9 (17, .ldc 59, 2) rfl
theorem dX7_near_19 : decode cX7_near 19 = .ok (.ireturn, 1) := tb_d tk_X7_near_1 10 (19, .ireturn, 1) rfl
theorem dX7_near_20 : decode cX7_near 20 = .ok (.aload_n 0, 1) := tb_d tk_X7_near_1 11 (20, .aload_n 0, 1) rfl
theorem dX7_near_21 : decode cX7_near 21 = .ok (.getfield 25, 3) := tb_d tk_X7_near_1 12 (21, .getfield 25, 3) rfl
theorem dX7_near_24 : decode cX7_near 24 = .ok (.iload_n 1, 1) := tb_d tk_X7_near_1 13 (24, .iload_n 1, 1) rfl
theorem dX7_near_25 : decode cX7_near 25 = .ok (.invokevirtual 267, 3) := tb_d tk_X7_near_1 14 (25, .invokevirtual 267, 3) rfl
theorem dX7_near_28 : decode cX7_near 28 = .ok (.istore_n 3, 1) := tb_d tk_X7_near_1 15 (28, .istore_n 3, 1) rfl
theorem dX7_near_29 : decode cX7_near 29 = .ok (.iload_n 2, 1) := tb_d tk_X7_near_1 16 (29, .iload_n 2, 1) rfl
theorem dX7_near_30 : decode cX7_near 30 = .ok (.ifCond .eq 9, 3) := tb_d tk_X7_near_1 17 (30, .ifCond .eq 9, 3) rfl
theorem dX7_near_33 : decode cX7_near 33 = .ok (.iload_n 3, 1) := tb_d tk_X7_near_1 18 (33, .iload_n 3, 1) rfl
theorem dX7_near_34 : decode cX7_near 34 = .ok (.ldc 175, 2) := tb_d tk_X7_near_1 19 (34, .ldc 175, 2) rfl
theorem dX7_near_36 : decode cX7_near 36 = .ok (.if_icmp .ne 7, 3) := tb_d tk_X7_near_1 20 (36, .if_icmp .ne 7, 3) rfl
theorem dX7_near_39 : decode cX7_near 39 = .ok (.iload_n 3, 1) := tb_d tk_X7_near_1 21 (39, .iload_n 3, 1) rfl
theorem dX7_near_40 : decode cX7_near 40 = .ok (.goto 12, 3) := tb_d tk_X7_near_1 22 (40, .goto 12, 3) rfl
theorem dX7_near_43 : decode cX7_near 43 = .ok (.aload_n 0, 1) := tb_d tk_X7_near_1 23 (43, .aload_n 0, 1) rfl
theorem dX7_near_44 : decode cX7_near 44 = .ok (.getfield 25, 3) := tb_d tk_X7_near_1 24 (44, .getfield 25, 3) rfl
theorem dX7_near_47 : decode cX7_near 47 = .ok (.iload_n 1, 1) := tb_d tk_X7_near_1 25 (47, .iload_n 1, 1) rfl
theorem dX7_near_48 : decode cX7_near 48 = .ok (.iload_n 3, 1) := tb_d tk_X7_near_1 26 (48, .iload_n 3, 1) rfl
theorem dX7_near_49 : decode cX7_near 49 = .ok (.invokevirtual 203, 3) := tb_d tk_X7_near_1 27 (49, .invokevirtual 203, 3) rfl
theorem dX7_near_52 : decode cX7_near 52 = .ok (.ireturn, 1) := tb_d tk_X7_near_1 28 (52, .ireturn, 1) rfl
theorem ggX7_rules_X7_noGate : GoodIn wsX7_rules wsX7_noGate := fun w h => ⟨List.mem_cons_of_mem _ (List.mem_append_right _ (List.mem_append_right _ (List.mem_append_right _ (List.mem_append_right _ (List.mem_append_right _ (List.mem_append_right _ (List.mem_append_right _ (List.mem_append_right _ (List.mem_append_right _ (List.mem_append_right _ (List.mem_append_right _ (List.mem_append_left _ h)))))))))))), good_of_word (gdX7_noGate w h)⟩
set_option maxRecDepth 20000 in
theorem gX7_rules_X7_noGate : GoodIn wsX7_rules (wsV RX7 133 RX7 yX7_noGate wsX7_noGate) := goodIn_app (a := bkV RX7 133 RX7 yX7_noGate) (fun w h => ⟨List.mem_cons_of_mem _ (List.mem_append_right _ (List.mem_append_left _ h)), good_of_word (gd_bV _ _ _ _ w h)⟩) ggX7_rules_X7_noGate
theorem ggX7_rules_X7_isRow : GoodIn wsX7_rules wsX7_isRow := fun w h => ⟨List.mem_cons_of_mem _ (List.mem_append_right _ (List.mem_append_right _ (List.mem_append_right _ (List.mem_append_right _ (List.mem_append_right _ (List.mem_append_right _ (List.mem_append_right _ (List.mem_append_right _ (List.mem_append_right _ (List.mem_append_right _ (List.mem_append_right _ (List.mem_append_right _ (List.mem_append_left _ h))))))))))))), good_of_word (gdX7_isRow w h)⟩
set_option maxRecDepth 20000 in
theorem gX7_rules_X7_isRow : GoodIn wsX7_rules (wsV RX7 55 RX7 yX7_isRow wsX7_isRow) := goodIn_app (a := bkV RX7 55 RX7 yX7_isRow) (fun w h => ⟨List.mem_cons_of_mem _ (List.mem_append_right _ (List.mem_append_right _ (List.mem_append_left _ h))), good_of_word (gd_bV _ _ _ _ w h)⟩) ggX7_rules_X7_isRow
theorem ggX7_rules_X5_findingOf : GoodIn wsX7_rules wsX5_findingOf := fun w h => ⟨List.mem_cons_of_mem _ (List.mem_append_right _ (List.mem_append_right _ (List.mem_append_right _ (List.mem_append_right _ (List.mem_append_right _ (List.mem_append_right _ (List.mem_append_right _ (List.mem_append_right _ (List.mem_append_right _ (List.mem_append_right _ (List.mem_append_right _ (List.mem_append_right _ (List.mem_append_right _ (List.mem_append_left _ h)))))))))))))), good_of_word (gdX5_findingOf w h)⟩
set_option maxRecDepth 20000 in
theorem gX7_rules_X5_findingOf : GoodIn wsX7_rules (wsV RX7 71 RX5 yX5_findingOf wsX5_findingOf) := goodIn_app (a := bkV RX7 71 RX5 yX5_findingOf) (fun w h => ⟨List.mem_cons_of_mem _ (List.mem_append_right _ (List.mem_append_right _ (List.mem_append_right _ (List.mem_append_left _ h)))), good_of_word (gd_bV _ _ _ _ w h)⟩) ggX7_rules_X5_findingOf
theorem ggX7_rules_X7_found : GoodIn wsX7_rules wsX7_found := fun w h => ⟨List.mem_cons_of_mem _ (List.mem_append_right _ (List.mem_append_right _ (List.mem_append_right _ (List.mem_append_right _ (List.mem_append_right _ (List.mem_append_right _ (List.mem_append_right _ (List.mem_append_right _ (List.mem_append_right _ (List.mem_append_right _ (List.mem_append_right _ (List.mem_append_right _ (List.mem_append_right _ (List.mem_append_right _ (List.mem_append_left _ h))))))))))))))), good_of_word (gdX7_found w h)⟩
set_option maxRecDepth 20000 in
theorem gX7_rules_X7_found : GoodIn wsX7_rules (wsV RX7 60 RX7 yX7_found wsX7_found) := goodIn_app (a := bkV RX7 60 RX7 yX7_found) (fun w h => ⟨List.mem_cons_of_mem _ (List.mem_append_right _ (List.mem_append_right _ (List.mem_append_right _ (List.mem_append_right _ (List.mem_append_left _ h))))), good_of_word (gd_bV _ _ _ _ w h)⟩) ggX7_rules_X7_found
theorem ggX7_rules_X7_rulesThatTell : GoodIn wsX7_rules wsX7_rulesThatTell := fun w h => ⟨List.mem_cons_of_mem _ (List.mem_append_right _ (List.mem_append_right _ (List.mem_append_right _ (List.mem_append_right _ (List.mem_append_right _ (List.mem_append_right _ (List.mem_append_right _ (List.mem_append_right _ (List.mem_append_right _ (List.mem_append_right _ (List.mem_append_right _ (List.mem_append_right _ (List.mem_append_right _ (List.mem_append_right _ (List.mem_append_right _ (List.mem_append_left _ h)))))))))))))))), good_of_word (gdX7_rulesThatTell w h)⟩
set_option maxRecDepth 20000 in
theorem gX7_rules_X7_rulesThatTell : GoodIn wsX7_rules (wsV RX7 270 RX7 yX7_rulesThatTell wsX7_rulesThatTell) := goodIn_app (a := bkV RX7 270 RX7 yX7_rulesThatTell) (fun w h => ⟨List.mem_cons_of_mem _ (List.mem_append_right _ (List.mem_append_right _ (List.mem_append_right _ (List.mem_append_right _ (List.mem_append_right _ (List.mem_append_left _ h)))))), good_of_word (gd_bV _ _ _ _ w h)⟩) ggX7_rules_X7_rulesThatTell
theorem ggX7_rules_X7_unfound : GoodIn wsX7_rules wsX7_unfound := fun w h => ⟨List.mem_cons_of_mem _ (List.mem_append_right _ (List.mem_append_right _ (List.mem_append_right _ (List.mem_append_right _ (List.mem_append_right _ (List.mem_append_right _ (List.mem_append_right _ (List.mem_append_right _ (List.mem_append_right _ (List.mem_append_right _ (List.mem_append_right _ (List.mem_append_right _ (List.mem_append_right _ (List.mem_append_right _ (List.mem_append_right _ (List.mem_append_right _ (List.mem_append_left _ h))))))))))))))))), good_of_word (gdX7_unfound w h)⟩
set_option maxRecDepth 20000 in
theorem gX7_rules_X7_unfound : GoodIn wsX7_rules (wsV RX7 68 RX7 yX7_unfound wsX7_unfound) := goodIn_app (a := bkV RX7 68 RX7 yX7_unfound) (fun w h => ⟨List.mem_cons_of_mem _ (List.mem_append_right _ (List.mem_append_right _ (List.mem_append_right _ (List.mem_append_right _ (List.mem_append_right _ (List.mem_append_right _ (List.mem_append_left _ h))))))), good_of_word (gd_bV _ _ _ _ w h)⟩) ggX7_rules_X7_unfound
def tb_X7_rules_1 : List (Nat × Instr × Nat) := [(0, .aload_n 0, 1), (1, .invokevirtual 133, 3), (4, .ifCond .eq 6, 3), (7, .ldc 136, 2), (9, .ireturn, 1), (10, .aload_n 0, 1), (11, .iload_n 1, 1), (12, .invokevirtual 55, 3), (15, .ifCond .eq 25, 3), (18, .iload_n 3, 1), (19, .iconst 1, 1), (20, .if_icmp .lt 20, 3), (23, .iload_n 3, 1), (24, .bipush 16, 2), (26, .if_icmp .gt 14, 3), (29, .iload 4, 2), (31, .ifCond .lt 9, 3), (34, .iload 4, 2), (36, .iconst 2, 1), (37, .if_icmp .le 6, 3), (40, .ldc 59, 2), (42, .ireturn, 1), (43, .aload_n 0, 1), (44, .getfield 11, 3), (47, .iload_n 1, 1), (48, .aaload, 1), (49, .iload_n 2, 1), (50, .iload_n 3, 1), (51, .invokevirtual 71, 3), (54, .istore 5, 2), (56, .iload 5, 2), (58, .ifCond .eq 12, 3), (61, .aload_n 0, 1), (62, .iload 5, 2), (64, .invokevirtual 60, 3), (67, .goto 21, 3), (70, .aload_n 0, 1), (71, .aload_n 0, 1), (72, .aload_n 0, 1), (73, .getfield 11, 3)]
set_option maxRecDepth 100000 in
theorem tk_X7_rules_1 : (tb_X7_rules_1.all fun q => decide (decode cX7_rules q.1 = .ok q.2)) = true := by decide +kernel
theorem dX7_rules_0 : decode cX7_rules 0 = .ok (.aload_n 0, 1) := tb_d tk_X7_rules_1 0 (0, .aload_n 0, 1) rfl
theorem dX7_rules_1 : decode cX7_rules 1 = .ok (.invokevirtual 133, 3) := tb_d tk_X7_rules_1 1 (1, .invokevirtual 133, 3) rfl
theorem dX7_rules_4 : decode cX7_rules 4 = .ok (.ifCond .eq 6, 3) := tb_d tk_X7_rules_1 2 (4, .ifCond .eq 6, 3) rfl
theorem dX7_rules_7 : decode cX7_rules 7 = .ok (.ldc 136, 2) := tb_d tk_X7_rules_1 3 (7, .ldc 136, 2) rfl
theorem dX7_rules_9 : decode cX7_rules 9 = .ok (.ireturn, 1) := tb_d tk_X7_rules_1 4 (9, .ireturn, 1) rfl
theorem dX7_rules_10 : decode cX7_rules 10 = .ok (.aload_n 0, 1) := tb_d tk_X7_rules_1 5 (10, .aload_n 0, 1) rfl
theorem dX7_rules_11 : decode cX7_rules 11 = .ok (.iload_n 1, 1) := tb_d tk_X7_rules_1 6 (11, .iload_n 1, 1) rfl
theorem dX7_rules_12 : decode cX7_rules 12 = .ok (.invokevirtual 55, 3) := tb_d tk_X7_rules_1 7 (12, .invokevirtual 55, 3) rfl
theorem dX7_rules_15 : decode cX7_rules 15 = .ok (.ifCond .eq 25, 3) := tb_d tk_X7_rules_1 8 (15, .ifCond .eq 25, 3) rfl
theorem dX7_rules_18 : decode cX7_rules 18 = .ok (.iload_n 3, 1) := tb_d tk_X7_rules_1 9 (18, .iload_n 3, 1) rfl
theorem dX7_rules_19 : decode cX7_rules 19 = .ok (.iconst 1, 1) := tb_d tk_X7_rules_1 10 (19, .iconst 1, 1) rfl
theorem dX7_rules_20 : decode cX7_rules 20 = .ok (.if_icmp .lt 20, 3) := tb_d tk_X7_rules_1 11 (20, .if_icmp .lt 20, 3) rfl
theorem dX7_rules_23 : decode cX7_rules 23 = .ok (.iload_n 3, 1) := tb_d tk_X7_rules_1 12 (23, .iload_n 3, 1) rfl
theorem dX7_rules_24 : decode cX7_rules 24 = .ok (.bipush 16, 2) := tb_d tk_X7_rules_1 13 (24, .bipush 16, 2) rfl
theorem dX7_rules_26 : decode cX7_rules 26 = .ok (.if_icmp .gt 14, 3) := tb_d tk_X7_rules_1 14 (26, .if_icmp .gt 14, 3) rfl
theorem dX7_rules_29 : decode cX7_rules 29 = .ok (.iload 4, 2) := tb_d tk_X7_rules_1 15 (29, .iload 4, 2) rfl
theorem dX7_rules_31 : decode cX7_rules 31 = .ok (.ifCond .lt 9, 3) := tb_d tk_X7_rules_1 16 (31, .ifCond .lt 9, 3) rfl
theorem dX7_rules_34 : decode cX7_rules 34 = .ok (.iload 4, 2) := tb_d tk_X7_rules_1 17 (34, .iload 4, 2) rfl
theorem dX7_rules_36 : decode cX7_rules 36 = .ok (.iconst 2, 1) := tb_d tk_X7_rules_1 18 (36, .iconst 2, 1) rfl
theorem dX7_rules_37 : decode cX7_rules 37 = .ok (.if_icmp .le 6, 3) := tb_d tk_X7_rules_1 19 (37, .if_icmp .le 6, 3) rfl
theorem dX7_rules_40 : decode cX7_rules 40 = .ok (.ldc 59, 2) := tb_d tk_X7_rules_1 20 (40, .ldc 59, 2) rfl
theorem dX7_rules_42 : decode cX7_rules 42 = .ok (.ireturn, 1) := tb_d tk_X7_rules_1 21 (42, .ireturn, 1) rfl
theorem dX7_rules_43 : decode cX7_rules 43 = .ok (.aload_n 0, 1) := tb_d tk_X7_rules_1 22 (43, .aload_n 0, 1) rfl
theorem dX7_rules_44 : decode cX7_rules 44 = .ok (.getfield 11, 3) := tb_d tk_X7_rules_1 23 (44, .getfield 11, 3) rfl
theorem dX7_rules_47 : decode cX7_rules 47 = .ok (.iload_n 1, 1) := tb_d tk_X7_rules_1 24 (47, .iload_n 1, 1) rfl
theorem dX7_rules_48 : decode cX7_rules 48 = .ok (.aaload, 1) := tb_d tk_X7_rules_1 25 (48, .aaload, 1) rfl
theorem dX7_rules_49 : decode cX7_rules 49 = .ok (.iload_n 2, 1) := tb_d tk_X7_rules_1 26 (49, .iload_n 2, 1) rfl
theorem dX7_rules_50 : decode cX7_rules 50 = .ok (.iload_n 3, 1) := tb_d tk_X7_rules_1 27 (50, .iload_n 3, 1) rfl
theorem dX7_rules_51 : decode cX7_rules 51 = .ok (.invokevirtual 71, 3) := tb_d tk_X7_rules_1 28 (51, .invokevirtual 71, 3) rfl
theorem dX7_rules_54 : decode cX7_rules 54 = .ok (.istore 5, 2) := tb_d tk_X7_rules_1 29 (54, .istore 5, 2) rfl
theorem dX7_rules_56 : decode cX7_rules 56 = .ok (.iload 5, 2) := tb_d tk_X7_rules_1 30 (56, .iload 5, 2) rfl
theorem dX7_rules_58 : decode cX7_rules 58 = .ok (.ifCond .eq 12, 3) := tb_d tk_X7_rules_1 31 (58, .ifCond .eq 12, 3) rfl
theorem dX7_rules_61 : decode cX7_rules 61 = .ok (.aload_n 0, 1) := tb_d tk_X7_rules_1 32 (61, .aload_n 0, 1) rfl
theorem dX7_rules_62 : decode cX7_rules 62 = .ok (.iload 5, 2) := tb_d tk_X7_rules_1 33 (62, .iload 5, 2) rfl
theorem dX7_rules_64 : decode cX7_rules 64 = .ok (.invokevirtual 60, 3) := tb_d tk_X7_rules_1 34 (64, .invokevirtual 60, 3) rfl
theorem dX7_rules_67 : decode cX7_rules 67 = .ok (.goto 21, 3) := tb_d tk_X7_rules_1 35 (67, .goto 21, 3) rfl
theorem dX7_rules_70 : decode cX7_rules 70 = .ok (.aload_n 0, 1) := tb_d tk_X7_rules_1 36 (70, .aload_n 0, 1) rfl
theorem dX7_rules_71 : decode cX7_rules 71 = .ok (.aload_n 0, 1) := tb_d tk_X7_rules_1 37 (71, .aload_n 0, 1) rfl
theorem dX7_rules_72 : decode cX7_rules 72 = .ok (.aload_n 0, 1) := tb_d tk_X7_rules_1 38 (72, .aload_n 0, 1) rfl
theorem dX7_rules_73 : decode cX7_rules 73 = .ok (.getfield 11, 3) := tb_d tk_X7_rules_1 39 (73, .getfield 11, 3) rfl
def tb_X7_rules_2 : List (Nat × Instr × Nat) := [(76, .iload_n 1, 1), (77, .aaload, 1), (78, .iload_n 2, 1), (79, .iload_n 3, 1), (80, .iload 4, 2), (82, .invokevirtual 270, 3), (85, .invokevirtual 68, 3), (88, .ireturn, 1)]
set_option maxRecDepth 100000 in
theorem tk_X7_rules_2 : (tb_X7_rules_2.all fun q => decide (decode cX7_rules q.1 = .ok q.2)) = true := by decide +kernel
theorem dX7_rules_76 : decode cX7_rules 76 = .ok (.iload_n 1, 1) := tb_d tk_X7_rules_2 0 (76, .iload_n 1, 1) rfl
theorem dX7_rules_77 : decode cX7_rules 77 = .ok (.aaload, 1) := tb_d tk_X7_rules_2 1 (77, .aaload, 1) rfl
theorem dX7_rules_78 : decode cX7_rules 78 = .ok (.iload_n 2, 1) := tb_d tk_X7_rules_2 2 (78, .iload_n 2, 1) rfl
theorem dX7_rules_79 : decode cX7_rules 79 = .ok (.iload_n 3, 1) := tb_d tk_X7_rules_2 3 (79, .iload_n 3, 1) rfl
theorem dX7_rules_80 : decode cX7_rules 80 = .ok (.iload 4, 2) := tb_d tk_X7_rules_2 4 (80, .iload 4, 2) rfl
theorem dX7_rules_82 : decode cX7_rules 82 = .ok (.invokevirtual 270, 3) := tb_d tk_X7_rules_2 5 (82, .invokevirtual 270, 3) rfl
theorem dX7_rules_85 : decode cX7_rules 85 = .ok (.invokevirtual 68, 3) := tb_d tk_X7_rules_2 6 (85, .invokevirtual 68, 3) rfl
theorem dX7_rules_88 : decode cX7_rules 88 = .ok (.ireturn, 1) := tb_d tk_X7_rules_2 7 (88, .ireturn, 1) rfl
theorem ggX7_fits_X7_isGuard : GoodIn wsX7_fits wsX7_isGuard := fun w h => ⟨List.mem_cons_of_mem _ (List.mem_append_right _ (List.mem_append_right _ (List.mem_append_right _ (List.mem_append_right _ (List.mem_append_right _ (List.mem_append_right _ (List.mem_append_right _ (List.mem_append_right _ (List.mem_append_right _ (List.mem_append_right _ (List.mem_append_right _ (List.mem_append_right _ (List.mem_append_left _ h))))))))))))), good_of_word (gdX7_isGuard w h)⟩
set_option maxRecDepth 20000 in
theorem gX7_fits_X7_isGuard : GoodIn wsX7_fits (wsV RX7 187 RX7 yX7_isGuard wsX7_isGuard) := goodIn_app (a := bkV RX7 187 RX7 yX7_isGuard) (fun w h => ⟨List.mem_cons_of_mem _ (List.mem_append_right _ (List.mem_append_left _ h)), good_of_word (gd_bV _ _ _ _ w h)⟩) ggX7_fits_X7_isGuard
theorem ggX7_fits_X7_isRow : GoodIn wsX7_fits wsX7_isRow := fun w h => ⟨List.mem_cons_of_mem _ (List.mem_append_right _ (List.mem_append_right _ (List.mem_append_right _ (List.mem_append_right _ (List.mem_append_right _ (List.mem_append_right _ (List.mem_append_right _ (List.mem_append_right _ (List.mem_append_right _ (List.mem_append_right _ (List.mem_append_right _ (List.mem_append_right _ (List.mem_append_right _ (List.mem_append_left _ h)))))))))))))), good_of_word (gdX7_isRow w h)⟩
set_option maxRecDepth 20000 in
theorem gX7_fits_X7_isRow : GoodIn wsX7_fits (wsV RX7 55 RX7 yX7_isRow wsX7_isRow) := goodIn_app (a := bkV RX7 55 RX7 yX7_isRow) (fun w h => ⟨List.mem_cons_of_mem _ (List.mem_append_right _ (List.mem_append_right _ (List.mem_append_left _ h))), good_of_word (gd_bV _ _ _ _ w h)⟩) ggX7_fits_X7_isRow
theorem ggX7_fits_X5_findingOf : GoodIn wsX7_fits wsX5_findingOf := fun w h => ⟨List.mem_cons_of_mem _ (List.mem_append_right _ (List.mem_append_right _ (List.mem_append_right _ (List.mem_append_right _ (List.mem_append_right _ (List.mem_append_right _ (List.mem_append_right _ (List.mem_append_right _ (List.mem_append_right _ (List.mem_append_right _ (List.mem_append_right _ (List.mem_append_right _ (List.mem_append_right _ (List.mem_append_right _ (List.mem_append_left _ h))))))))))))))), good_of_word (gdX5_findingOf w h)⟩
set_option maxRecDepth 20000 in
theorem gX7_fits_X5_findingOf : GoodIn wsX7_fits (wsV RX7 71 RX5 yX5_findingOf wsX5_findingOf) := goodIn_app (a := bkV RX7 71 RX5 yX5_findingOf) (fun w h => ⟨List.mem_cons_of_mem _ (List.mem_append_right _ (List.mem_append_right _ (List.mem_append_right _ (List.mem_append_left _ h)))), good_of_word (gd_bV _ _ _ _ w h)⟩) ggX7_fits_X5_findingOf
theorem ggX7_fits_X7_found : GoodIn wsX7_fits wsX7_found := fun w h => ⟨List.mem_cons_of_mem _ (List.mem_append_right _ (List.mem_append_right _ (List.mem_append_right _ (List.mem_append_right _ (List.mem_append_right _ (List.mem_append_right _ (List.mem_append_right _ (List.mem_append_right _ (List.mem_append_right _ (List.mem_append_right _ (List.mem_append_right _ (List.mem_append_right _ (List.mem_append_right _ (List.mem_append_right _ (List.mem_append_right _ (List.mem_append_left _ h)))))))))))))))), good_of_word (gdX7_found w h)⟩
set_option maxRecDepth 20000 in
theorem gX7_fits_X7_found : GoodIn wsX7_fits (wsV RX7 60 RX7 yX7_found wsX7_found) := goodIn_app (a := bkV RX7 60 RX7 yX7_found) (fun w h => ⟨List.mem_cons_of_mem _ (List.mem_append_right _ (List.mem_append_right _ (List.mem_append_right _ (List.mem_append_right _ (List.mem_append_left _ h))))), good_of_word (gd_bV _ _ _ _ w h)⟩) ggX7_fits_X7_found
theorem ggX7_fits_X7_kindsThatFit : GoodIn wsX7_fits wsX7_kindsThatFit := fun w h => ⟨List.mem_cons_of_mem _ (List.mem_append_right _ (List.mem_append_right _ (List.mem_append_right _ (List.mem_append_right _ (List.mem_append_right _ (List.mem_append_right _ (List.mem_append_right _ (List.mem_append_right _ (List.mem_append_right _ (List.mem_append_right _ (List.mem_append_right _ (List.mem_append_right _ (List.mem_append_right _ (List.mem_append_right _ (List.mem_append_right _ (List.mem_append_right _ (List.mem_append_left _ h))))))))))))))))), good_of_word (gdX7_kindsThatFit w h)⟩
set_option maxRecDepth 20000 in
theorem gX7_fits_X7_kindsThatFit : GoodIn wsX7_fits (wsV RX7 274 RX7 yX7_kindsThatFit wsX7_kindsThatFit) := goodIn_app (a := bkV RX7 274 RX7 yX7_kindsThatFit) (fun w h => ⟨List.mem_cons_of_mem _ (List.mem_append_right _ (List.mem_append_right _ (List.mem_append_right _ (List.mem_append_right _ (List.mem_append_right _ (List.mem_append_left _ h)))))), good_of_word (gd_bV _ _ _ _ w h)⟩) ggX7_fits_X7_kindsThatFit
theorem ggX7_fits_X7_secretsThatFit : GoodIn wsX7_fits wsX7_secretsThatFit := fun w h => ⟨List.mem_cons_of_mem _ (List.mem_append_right _ (List.mem_append_right _ (List.mem_append_right _ (List.mem_append_right _ (List.mem_append_right _ (List.mem_append_right _ (List.mem_append_right _ (List.mem_append_right _ (List.mem_append_right _ (List.mem_append_right _ (List.mem_append_right _ (List.mem_append_right _ (List.mem_append_right _ (List.mem_append_right _ (List.mem_append_right _ (List.mem_append_right _ (List.mem_append_right _ (List.mem_append_left _ h)))))))))))))))))), good_of_word (gdX7_secretsThatFit w h)⟩
set_option maxRecDepth 20000 in
theorem gX7_fits_X7_secretsThatFit : GoodIn wsX7_fits (wsV RX7 281 RX7 yX7_secretsThatFit wsX7_secretsThatFit) := goodIn_app (a := bkV RX7 281 RX7 yX7_secretsThatFit) (fun w h => ⟨List.mem_cons_of_mem _ (List.mem_append_right _ (List.mem_append_right _ (List.mem_append_right _ (List.mem_append_right _ (List.mem_append_right _ (List.mem_append_right _ (List.mem_append_left _ h))))))), good_of_word (gd_bV _ _ _ _ w h)⟩) ggX7_fits_X7_secretsThatFit
theorem ggX7_fits_X7_unfound : GoodIn wsX7_fits wsX7_unfound := fun w h => ⟨List.mem_cons_of_mem _ (List.mem_append_right _ (List.mem_append_right _ (List.mem_append_right _ (List.mem_append_right _ (List.mem_append_right _ (List.mem_append_right _ (List.mem_append_right _ (List.mem_append_right _ (List.mem_append_right _ (List.mem_append_right _ (List.mem_append_right _ (List.mem_append_right _ (List.mem_append_right _ (List.mem_append_right _ (List.mem_append_right _ (List.mem_append_right _ (List.mem_append_right _ (List.mem_append_right _ (List.mem_append_left _ h))))))))))))))))))), good_of_word (gdX7_unfound w h)⟩
set_option maxRecDepth 20000 in
theorem gX7_fits_X7_unfound : GoodIn wsX7_fits (wsV RX7 68 RX7 yX7_unfound wsX7_unfound) := goodIn_app (a := bkV RX7 68 RX7 yX7_unfound) (fun w h => ⟨List.mem_cons_of_mem _ (List.mem_append_right _ (List.mem_append_right _ (List.mem_append_right _ (List.mem_append_right _ (List.mem_append_right _ (List.mem_append_right _ (List.mem_append_right _ (List.mem_append_left _ h)))))))), good_of_word (gd_bV _ _ _ _ w h)⟩) ggX7_fits_X7_unfound
def tb_X7_fits_1 : List (Nat × Instr × Nat) := [(0, .aload_n 0, 1), (1, .iload_n 1, 1), (2, .invokevirtual 187, 3), (5, .ifCond .eq 22, 3), (8, .aload_n 0, 1), (9, .iload_n 2, 1), (10, .invokevirtual 55, 3), (13, .ifCond .eq 14, 3), (16, .iload 4, 2), (18, .ifCond .lt 9, 3), (21, .iload 4, 2), (23, .iconst 1, 1), (24, .if_icmp .le 6, 3), (27, .ldc 59, 2), (29, .ireturn, 1), (30, .aload_n 0, 1), (31, .getfield 11, 3), (34, .iload_n 2, 1), (35, .aaload, 1), (36, .iload_n 3, 1), (37, .aload_n 0, 1), (38, .getfield 25, 3), (41, .getfield 130, 3), (44, .invokevirtual 71, 3), (47, .istore 5, 2), (49, .iload 5, 2), (51, .ifCond .eq 10, 3), (54, .aload_n 0, 1), (55, .iload 5, 2), (57, .invokevirtual 60, 3), (60, .ireturn, 1), (61, .aload_n 0, 1), (62, .iload 4, 2), (64, .ifCond .ne 17, 3), (67, .aload_n 0, 1), (68, .aload_n 0, 1), (69, .getfield 11, 3), (72, .iload_n 2, 1), (73, .aaload, 1), (74, .iload_n 3, 1)]
set_option maxRecDepth 100000 in
theorem tk_X7_fits_1 : (tb_X7_fits_1.all fun q => decide (decode cX7_fits q.1 = .ok q.2)) = true := by decide +kernel
theorem dX7_fits_0 : decode cX7_fits 0 = .ok (.aload_n 0, 1) := tb_d tk_X7_fits_1 0 (0, .aload_n 0, 1) rfl
theorem dX7_fits_1 : decode cX7_fits 1 = .ok (.iload_n 1, 1) := tb_d tk_X7_fits_1 1 (1, .iload_n 1, 1) rfl
theorem dX7_fits_2 : decode cX7_fits 2 = .ok (.invokevirtual 187, 3) := tb_d tk_X7_fits_1 2 (2, .invokevirtual 187, 3) rfl
theorem dX7_fits_5 : decode cX7_fits 5 = .ok (.ifCond .eq 22, 3) := tb_d tk_X7_fits_1 3 (5, .ifCond .eq 22, 3) rfl
theorem dX7_fits_8 : decode cX7_fits 8 = .ok (.aload_n 0, 1) := tb_d tk_X7_fits_1 4 (8, .aload_n 0, 1) rfl
theorem dX7_fits_9 : decode cX7_fits 9 = .ok (.iload_n 2, 1) := tb_d tk_X7_fits_1 5 (9, .iload_n 2, 1) rfl
theorem dX7_fits_10 : decode cX7_fits 10 = .ok (.invokevirtual 55, 3) := tb_d tk_X7_fits_1 6 (10, .invokevirtual 55, 3) rfl
theorem dX7_fits_13 : decode cX7_fits 13 = .ok (.ifCond .eq 14, 3) := tb_d tk_X7_fits_1 7 (13, .ifCond .eq 14, 3) rfl
theorem dX7_fits_16 : decode cX7_fits 16 = .ok (.iload 4, 2) := tb_d tk_X7_fits_1 8 (16, .iload 4, 2) rfl
theorem dX7_fits_18 : decode cX7_fits 18 = .ok (.ifCond .lt 9, 3) := tb_d tk_X7_fits_1 9 (18, .ifCond .lt 9, 3) rfl
theorem dX7_fits_21 : decode cX7_fits 21 = .ok (.iload 4, 2) := tb_d tk_X7_fits_1 10 (21, .iload 4, 2) rfl
theorem dX7_fits_23 : decode cX7_fits 23 = .ok (.iconst 1, 1) := tb_d tk_X7_fits_1 11 (23, .iconst 1, 1) rfl
theorem dX7_fits_24 : decode cX7_fits 24 = .ok (.if_icmp .le 6, 3) := tb_d tk_X7_fits_1 12 (24, .if_icmp .le 6, 3) rfl
theorem dX7_fits_27 : decode cX7_fits 27 = .ok (.ldc 59, 2) := tb_d tk_X7_fits_1 13 (27, .ldc 59, 2) rfl
theorem dX7_fits_29 : decode cX7_fits 29 = .ok (.ireturn, 1) := tb_d tk_X7_fits_1 14 (29, .ireturn, 1) rfl
theorem dX7_fits_30 : decode cX7_fits 30 = .ok (.aload_n 0, 1) := tb_d tk_X7_fits_1 15 (30, .aload_n 0, 1) rfl
theorem dX7_fits_31 : decode cX7_fits 31 = .ok (.getfield 11, 3) := tb_d tk_X7_fits_1 16 (31, .getfield 11, 3) rfl
theorem dX7_fits_34 : decode cX7_fits 34 = .ok (.iload_n 2, 1) := tb_d tk_X7_fits_1 17 (34, .iload_n 2, 1) rfl
theorem dX7_fits_35 : decode cX7_fits 35 = .ok (.aaload, 1) := tb_d tk_X7_fits_1 18 (35, .aaload, 1) rfl
theorem dX7_fits_36 : decode cX7_fits 36 = .ok (.iload_n 3, 1) := tb_d tk_X7_fits_1 19 (36, .iload_n 3, 1) rfl
theorem dX7_fits_37 : decode cX7_fits 37 = .ok (.aload_n 0, 1) := tb_d tk_X7_fits_1 20 (37, .aload_n 0, 1) rfl
theorem dX7_fits_38 : decode cX7_fits 38 = .ok (.getfield 25, 3) := tb_d tk_X7_fits_1 21 (38, .getfield 25, 3) rfl
theorem dX7_fits_41 : decode cX7_fits 41 = .ok (.getfield 130, 3) := tb_d tk_X7_fits_1 22 (41, .getfield 130, 3) rfl
theorem dX7_fits_44 : decode cX7_fits 44 = .ok (.invokevirtual 71, 3) := tb_d tk_X7_fits_1 23 (44, .invokevirtual 71, 3) rfl
theorem dX7_fits_47 : decode cX7_fits 47 = .ok (.istore 5, 2) := tb_d tk_X7_fits_1 24 (47, .istore 5, 2) rfl
theorem dX7_fits_49 : decode cX7_fits 49 = .ok (.iload 5, 2) := tb_d tk_X7_fits_1 25 (49, .iload 5, 2) rfl
theorem dX7_fits_51 : decode cX7_fits 51 = .ok (.ifCond .eq 10, 3) := tb_d tk_X7_fits_1 26 (51, .ifCond .eq 10, 3) rfl
theorem dX7_fits_54 : decode cX7_fits 54 = .ok (.aload_n 0, 1) := tb_d tk_X7_fits_1 27 (54, .aload_n 0, 1) rfl
theorem dX7_fits_55 : decode cX7_fits 55 = .ok (.iload 5, 2) := tb_d tk_X7_fits_1 28 (55, .iload 5, 2) rfl
theorem dX7_fits_57 : decode cX7_fits 57 = .ok (.invokevirtual 60, 3) := tb_d tk_X7_fits_1 29 (57, .invokevirtual 60, 3) rfl
theorem dX7_fits_60 : decode cX7_fits 60 = .ok (.ireturn, 1) := tb_d tk_X7_fits_1 30 (60, .ireturn, 1) rfl
theorem dX7_fits_61 : decode cX7_fits 61 = .ok (.aload_n 0, 1) := tb_d tk_X7_fits_1 31 (61, .aload_n 0, 1) rfl
theorem dX7_fits_62 : decode cX7_fits 62 = .ok (.iload 4, 2) := tb_d tk_X7_fits_1 32 (62, .iload 4, 2) rfl
theorem dX7_fits_64 : decode cX7_fits 64 = .ok (.ifCond .ne 17, 3) := tb_d tk_X7_fits_1 33 (64, .ifCond .ne 17, 3) rfl
theorem dX7_fits_67 : decode cX7_fits 67 = .ok (.aload_n 0, 1) := tb_d tk_X7_fits_1 34 (67, .aload_n 0, 1) rfl
theorem dX7_fits_68 : decode cX7_fits 68 = .ok (.aload_n 0, 1) := tb_d tk_X7_fits_1 35 (68, .aload_n 0, 1) rfl
theorem dX7_fits_69 : decode cX7_fits 69 = .ok (.getfield 11, 3) := tb_d tk_X7_fits_1 36 (69, .getfield 11, 3) rfl
theorem dX7_fits_72 : decode cX7_fits 72 = .ok (.iload_n 2, 1) := tb_d tk_X7_fits_1 37 (72, .iload_n 2, 1) rfl
theorem dX7_fits_73 : decode cX7_fits 73 = .ok (.aaload, 1) := tb_d tk_X7_fits_1 38 (73, .aaload, 1) rfl
theorem dX7_fits_74 : decode cX7_fits 74 = .ok (.iload_n 3, 1) := tb_d tk_X7_fits_1 39 (74, .iload_n 3, 1) rfl
def tb_X7_fits_2 : List (Nat × Instr × Nat) := [(75, .invokevirtual 274, 3), (78, .goto 23, 3), (81, .aload_n 0, 1), (82, .aload_n 0, 1), (83, .getfield 25, 3), (86, .getfield 278, 3), (89, .iload_n 1, 1), (90, .iaload, 1), (91, .aload_n 0, 1), (92, .getfield 11, 3), (95, .iload_n 2, 1), (96, .aaload, 1), (97, .iload_n 3, 1), (98, .invokevirtual 281, 3), (101, .invokevirtual 68, 3), (104, .ireturn, 1)]
set_option maxRecDepth 100000 in
theorem tk_X7_fits_2 : (tb_X7_fits_2.all fun q => decide (decode cX7_fits q.1 = .ok q.2)) = true := by decide +kernel
theorem dX7_fits_75 : decode cX7_fits 75 = .ok (.invokevirtual 274, 3) := tb_d tk_X7_fits_2 0 (75, .invokevirtual 274, 3) rfl
theorem dX7_fits_78 : decode cX7_fits 78 = .ok (.goto 23, 3) := tb_d tk_X7_fits_2 1 (78, .goto 23, 3) rfl
theorem dX7_fits_81 : decode cX7_fits 81 = .ok (.aload_n 0, 1) := tb_d tk_X7_fits_2 2 (81, .aload_n 0, 1) rfl
theorem dX7_fits_82 : decode cX7_fits 82 = .ok (.aload_n 0, 1) := tb_d tk_X7_fits_2 3 (82, .aload_n 0, 1) rfl
theorem dX7_fits_83 : decode cX7_fits 83 = .ok (.getfield 25, 3) := tb_d tk_X7_fits_2 4 (83, .getfield 25, 3) rfl
theorem dX7_fits_86 : decode cX7_fits 86 = .ok (.getfield 278, 3) := tb_d tk_X7_fits_2 5 (86, .getfield 278, 3) rfl
theorem dX7_fits_89 : decode cX7_fits 89 = .ok (.iload_n 1, 1) := tb_d tk_X7_fits_2 6 (89, .iload_n 1, 1) rfl
theorem dX7_fits_90 : decode cX7_fits 90 = .ok (.iaload, 1) := tb_d tk_X7_fits_2 7 (90, .iaload, 1) rfl
theorem dX7_fits_91 : decode cX7_fits 91 = .ok (.aload_n 0, 1) := tb_d tk_X7_fits_2 8 (91, .aload_n 0, 1) rfl
theorem dX7_fits_92 : decode cX7_fits 92 = .ok (.getfield 11, 3) := tb_d tk_X7_fits_2 9 (92, .getfield 11, 3) rfl
theorem dX7_fits_95 : decode cX7_fits 95 = .ok (.iload_n 2, 1) := tb_d tk_X7_fits_2 10 (95, .iload_n 2, 1) rfl
theorem dX7_fits_96 : decode cX7_fits 96 = .ok (.aaload, 1) := tb_d tk_X7_fits_2 11 (96, .aaload, 1) rfl
theorem dX7_fits_97 : decode cX7_fits 97 = .ok (.iload_n 3, 1) := tb_d tk_X7_fits_2 12 (97, .iload_n 3, 1) rfl
theorem dX7_fits_98 : decode cX7_fits 98 = .ok (.invokevirtual 281, 3) := tb_d tk_X7_fits_2 13 (98, .invokevirtual 281, 3) rfl
theorem dX7_fits_101 : decode cX7_fits 101 = .ok (.invokevirtual 68, 3) := tb_d tk_X7_fits_2 14 (101, .invokevirtual 68, 3) rfl
theorem dX7_fits_104 : decode cX7_fits 104 = .ok (.ireturn, 1) := tb_d tk_X7_fits_2 15 (104, .ireturn, 1) rfl
theorem ggX7_sure_X7_isWord : GoodIn wsX7_sure wsX7_isWord := fun w h => ⟨List.mem_cons_of_mem _ (List.mem_append_right _ (List.mem_append_right _ (List.mem_append_right _ (List.mem_append_right _ (List.mem_append_right _ (List.mem_append_right _ (List.mem_append_right _ (List.mem_append_right _ (List.mem_append_right _ (List.mem_append_right _ (List.mem_append_right _ (List.mem_append_left _ h)))))))))))), good_of_word (gdX7_isWord w h)⟩
set_option maxRecDepth 20000 in
theorem gX7_sure_X7_isWord : GoodIn wsX7_sure (wsV RX7 156 RX7 yX7_isWord wsX7_isWord) := goodIn_app (a := bkV RX7 156 RX7 yX7_isWord) (fun w h => ⟨List.mem_cons_of_mem _ (List.mem_append_right _ (List.mem_append_left _ h)), good_of_word (gd_bV _ _ _ _ w h)⟩) ggX7_sure_X7_isWord
theorem ggX7_sure_X7_isHour : GoodIn wsX7_sure wsX7_isHour := fun w h => ⟨List.mem_cons_of_mem _ (List.mem_append_right _ (List.mem_append_right _ (List.mem_append_right _ (List.mem_append_right _ (List.mem_append_right _ (List.mem_append_right _ (List.mem_append_right _ (List.mem_append_right _ (List.mem_append_right _ (List.mem_append_right _ (List.mem_append_right _ (List.mem_append_right _ (List.mem_append_left _ h))))))))))))), good_of_word (gdX7_isHour w h)⟩
set_option maxRecDepth 20000 in
theorem gX7_sure_X7_isHour : GoodIn wsX7_sure (wsV RX7 159 RX7 yX7_isHour wsX7_isHour) := goodIn_app (a := bkV RX7 159 RX7 yX7_isHour) (fun w h => ⟨List.mem_cons_of_mem _ (List.mem_append_right _ (List.mem_append_right _ (List.mem_append_left _ h))), good_of_word (gd_bV _ _ _ _ w h)⟩) ggX7_sure_X7_isHour
theorem ggX7_sure_X3_agreeing : GoodIn wsX7_sure wsX3_agreeing := fun w h => ⟨List.mem_cons_of_mem _ (List.mem_append_right _ (List.mem_append_right _ (List.mem_append_right _ (List.mem_append_right _ (List.mem_append_right _ (List.mem_append_right _ (List.mem_append_right _ (List.mem_append_right _ (List.mem_append_right _ (List.mem_append_right _ (List.mem_append_right _ (List.mem_append_right _ (List.mem_append_right _ (List.mem_append_left _ h)))))))))))))), good_of_word (gdX3_agreeing w h)⟩
set_option maxRecDepth 20000 in
theorem gX7_sure_X3_agreeing : GoodIn wsX7_sure (va_wsS RX7 242 yX3_agreeing wsX3_agreeing) := goodIn_app (a := bkS RX7 242 yX3_agreeing) (fun w h => ⟨List.mem_cons_of_mem _ (List.mem_append_right _ (List.mem_append_right _ (List.mem_append_right _ (List.mem_append_left _ h)))), good_of_word (gd_bS _ _ _ w h)⟩) ggX7_sure_X3_agreeing
theorem ggX7_sure_J6_bitCount_0f7a4 : GoodIn wsX7_sure wsJ6_bitCount_0f7a4 := fun w h => ⟨List.mem_cons_of_mem _ (List.mem_append_right _ (List.mem_append_right _ (List.mem_append_right _ (List.mem_append_right _ (List.mem_append_right _ (List.mem_append_right _ (List.mem_append_right _ (List.mem_append_right _ (List.mem_append_right _ (List.mem_append_right _ (List.mem_append_right _ (List.mem_append_right _ (List.mem_append_right _ (List.mem_append_right _ (List.mem_append_left _ h))))))))))))))), good_of_word (gdJ6_bitCount_0f7a4 w h)⟩
set_option maxRecDepth 20000 in
theorem gX7_sure_J6_bitCount_0f7a4 : GoodIn wsX7_sure (va_wsS RX7 285 yJ6_bitCount_0f7a4 wsJ6_bitCount_0f7a4) := goodIn_app (a := bkS RX7 285 yJ6_bitCount_0f7a4) (fun w h => ⟨List.mem_cons_of_mem _ (List.mem_append_right _ (List.mem_append_right _ (List.mem_append_right _ (List.mem_append_right _ (List.mem_append_left _ h))))), good_of_word (gd_bS _ _ _ w h)⟩) ggX7_sure_J6_bitCount_0f7a4
theorem ggX7_sure_X3_secretsCatching : GoodIn wsX7_sure wsX3_secretsCatching := fun w h => ⟨List.mem_cons_of_mem _ (List.mem_append_right _ (List.mem_append_right _ (List.mem_append_right _ (List.mem_append_right _ (List.mem_append_right _ (List.mem_append_right _ (List.mem_append_right _ (List.mem_append_right _ (List.mem_append_right _ (List.mem_append_right _ (List.mem_append_right _ (List.mem_append_right _ (List.mem_append_right _ (List.mem_append_right _ (List.mem_append_right _ (List.mem_append_left _ h)))))))))))))))), good_of_word (gdX3_secretsCatching w h)⟩
set_option maxRecDepth 20000 in
theorem gX7_sure_X3_secretsCatching : GoodIn wsX7_sure (va_wsS RX7 290 yX3_secretsCatching wsX3_secretsCatching) := goodIn_app (a := bkS RX7 290 yX3_secretsCatching) (fun w h => ⟨List.mem_cons_of_mem _ (List.mem_append_right _ (List.mem_append_right _ (List.mem_append_right _ (List.mem_append_right _ (List.mem_append_right _ (List.mem_append_left _ h)))))), good_of_word (gd_bS _ _ _ w h)⟩) ggX7_sure_X3_secretsCatching
theorem ggX7_sure_X7_commonDivisor : GoodIn wsX7_sure wsX7_commonDivisor := fun w h => ⟨List.mem_cons_of_mem _ (List.mem_append_right _ (List.mem_append_right _ (List.mem_append_right _ (List.mem_append_right _ (List.mem_append_right _ (List.mem_append_right _ (List.mem_append_right _ (List.mem_append_right _ (List.mem_append_right _ (List.mem_append_right _ (List.mem_append_right _ (List.mem_append_right _ (List.mem_append_right _ (List.mem_append_right _ (List.mem_append_right _ (List.mem_append_right _ (List.mem_append_left _ h))))))))))))))))), good_of_word (gdX7_commonDivisor w h)⟩
set_option maxRecDepth 20000 in
theorem gX7_sure_X7_commonDivisor : GoodIn wsX7_sure (va_wsS RX7 293 yX7_commonDivisor wsX7_commonDivisor) := goodIn_app (a := bkS RX7 293 yX7_commonDivisor) (fun w h => ⟨List.mem_cons_of_mem _ (List.mem_append_right _ (List.mem_append_right _ (List.mem_append_right _ (List.mem_append_right _ (List.mem_append_right _ (List.mem_append_right _ (List.mem_append_left _ h))))))), good_of_word (gd_bS _ _ _ w h)⟩) ggX7_sure_X7_commonDivisor
theorem ggX7_sure_X7_lowest : GoodIn wsX7_sure wsX7_lowest := fun w h => ⟨List.mem_cons_of_mem _ (List.mem_append_right _ (List.mem_append_right _ (List.mem_append_right _ (List.mem_append_right _ (List.mem_append_right _ (List.mem_append_right _ (List.mem_append_right _ (List.mem_append_right _ (List.mem_append_right _ (List.mem_append_right _ (List.mem_append_right _ (List.mem_append_right _ (List.mem_append_right _ (List.mem_append_right _ (List.mem_append_right _ (List.mem_append_right _ (List.mem_append_right _ (List.mem_append_left _ h)))))))))))))))))), good_of_word (gdX7_lowest w h)⟩
set_option maxRecDepth 20000 in
theorem gX7_sure_X7_lowest : GoodIn wsX7_sure (va_wsS RX7 296 yX7_lowest wsX7_lowest) := goodIn_app (a := bkS RX7 296 yX7_lowest) (fun w h => ⟨List.mem_cons_of_mem _ (List.mem_append_right _ (List.mem_append_right _ (List.mem_append_right _ (List.mem_append_right _ (List.mem_append_right _ (List.mem_append_right _ (List.mem_append_right _ (List.mem_append_left _ h)))))))), good_of_word (gd_bS _ _ _ w h)⟩) ggX7_sure_X7_lowest
def tb_X7_sure_1 : List (Nat × Instr × Nat) := [(0, .aload_n 0, 1), (1, .iload_n 1, 1), (2, .invokevirtual 156, 3), (5, .ifCond .eq 32, 3), (8, .aload_n 0, 1), (9, .iload_n 2, 1), (10, .invokevirtual 159, 3), (13, .ifCond .eq 24, 3), (16, .iload_n 3, 1), (17, .ifCond .lt 20, 3), (20, .iload_n 3, 1), (21, .bipush 10, 2), (23, .if_icmp .gt 14, 3), (26, .iload 4, 2), (28, .ifCond .lt 9, 3), (31, .iload 4, 2), (33, .iconst 1, 1), (34, .if_icmp .le 6, 3), (37, .ldc 59, 2), (39, .ireturn, 1), (40, .aload_n 0, 1), (41, .getfield 25, 3), (44, .invokestatic 242, 3), (47, .istore 5, 2), (49, .iload 5, 2), (51, .invokestatic 285, 3), (54, .istore 6, 2), (56, .iload 5, 2), (58, .aload_n 0, 1), (59, .getfield 25, 3), (62, .iload_n 1, 1), (63, .iload_n 2, 1), (64, .invokestatic 290, 3), (67, .iand, 1), (68, .invokestatic 285, 3), (71, .istore 7, 2), (73, .iload 6, 2), (75, .iload 7, 2), (77, .isub, 1), (78, .bipush 10, 2)]
set_option maxRecDepth 100000 in
theorem tk_X7_sure_1 : (tb_X7_sure_1.all fun q => decide (decode cX7_sure q.1 = .ok q.2)) = true := by decide +kernel
theorem dX7_sure_0 : decode cX7_sure 0 = .ok (.aload_n 0, 1) := tb_d tk_X7_sure_1 0 (0, .aload_n 0, 1) rfl
theorem dX7_sure_1 : decode cX7_sure 1 = .ok (.iload_n 1, 1) := tb_d tk_X7_sure_1 1 (1, .iload_n 1, 1) rfl
theorem dX7_sure_2 : decode cX7_sure 2 = .ok (.invokevirtual 156, 3) := tb_d tk_X7_sure_1 2 (2, .invokevirtual 156, 3) rfl
theorem dX7_sure_5 : decode cX7_sure 5 = .ok (.ifCond .eq 32, 3) := tb_d tk_X7_sure_1 3 (5, .ifCond .eq 32, 3) rfl
theorem dX7_sure_8 : decode cX7_sure 8 = .ok (.aload_n 0, 1) := tb_d tk_X7_sure_1 4 (8, .aload_n 0, 1) rfl
theorem dX7_sure_9 : decode cX7_sure 9 = .ok (.iload_n 2, 1) := tb_d tk_X7_sure_1 5 (9, .iload_n 2, 1) rfl
theorem dX7_sure_10 : decode cX7_sure 10 = .ok (.invokevirtual 159, 3) := tb_d tk_X7_sure_1 6 (10, .invokevirtual 159, 3) rfl
theorem dX7_sure_13 : decode cX7_sure 13 = .ok (.ifCond .eq 24, 3) := tb_d tk_X7_sure_1 7 (13, .ifCond .eq 24, 3) rfl
theorem dX7_sure_16 : decode cX7_sure 16 = .ok (.iload_n 3, 1) := tb_d tk_X7_sure_1 8 (16, .iload_n 3, 1) rfl
theorem dX7_sure_17 : decode cX7_sure 17 = .ok (.ifCond .lt 20, 3) := tb_d tk_X7_sure_1 9 (17, .ifCond .lt 20, 3) rfl
theorem dX7_sure_20 : decode cX7_sure 20 = .ok (.iload_n 3, 1) := tb_d tk_X7_sure_1 10 (20, .iload_n 3, 1) rfl
theorem dX7_sure_21 : decode cX7_sure 21 = .ok (.bipush 10, 2) := tb_d tk_X7_sure_1 11 (21, .bipush 10, 2) rfl
theorem dX7_sure_23 : decode cX7_sure 23 = .ok (.if_icmp .gt 14, 3) := tb_d tk_X7_sure_1 12 (23, .if_icmp .gt 14, 3) rfl
theorem dX7_sure_26 : decode cX7_sure 26 = .ok (.iload 4, 2) := tb_d tk_X7_sure_1 13 (26, .iload 4, 2) rfl
theorem dX7_sure_28 : decode cX7_sure 28 = .ok (.ifCond .lt 9, 3) := tb_d tk_X7_sure_1 14 (28, .ifCond .lt 9, 3) rfl
theorem dX7_sure_31 : decode cX7_sure 31 = .ok (.iload 4, 2) := tb_d tk_X7_sure_1 15 (31, .iload 4, 2) rfl
theorem dX7_sure_33 : decode cX7_sure 33 = .ok (.iconst 1, 1) := tb_d tk_X7_sure_1 16 (33, .iconst 1, 1) rfl
theorem dX7_sure_34 : decode cX7_sure 34 = .ok (.if_icmp .le 6, 3) := tb_d tk_X7_sure_1 17 (34, .if_icmp .le 6, 3) rfl
theorem dX7_sure_37 : decode cX7_sure 37 = .ok (.ldc 59, 2) := tb_d tk_X7_sure_1 18 (37, .ldc 59, 2) rfl
theorem dX7_sure_39 : decode cX7_sure 39 = .ok (.ireturn, 1) := tb_d tk_X7_sure_1 19 (39, .ireturn, 1) rfl
theorem dX7_sure_40 : decode cX7_sure 40 = .ok (.aload_n 0, 1) := tb_d tk_X7_sure_1 20 (40, .aload_n 0, 1) rfl
theorem dX7_sure_41 : decode cX7_sure 41 = .ok (.getfield 25, 3) := tb_d tk_X7_sure_1 21 (41, .getfield 25, 3) rfl
theorem dX7_sure_44 : decode cX7_sure 44 = .ok (.invokestatic 242, 3) := tb_d tk_X7_sure_1 22 (44, .invokestatic 242, 3) rfl
theorem dX7_sure_47 : decode cX7_sure 47 = .ok (.istore 5, 2) := tb_d tk_X7_sure_1 23 (47, .istore 5, 2) rfl
theorem dX7_sure_49 : decode cX7_sure 49 = .ok (.iload 5, 2) := tb_d tk_X7_sure_1 24 (49, .iload 5, 2) rfl
theorem dX7_sure_51 : decode cX7_sure 51 = .ok (.invokestatic 285, 3) := tb_d tk_X7_sure_1 25 (51, .invokestatic 285, 3) rfl
theorem dX7_sure_54 : decode cX7_sure 54 = .ok (.istore 6, 2) := tb_d tk_X7_sure_1 26 (54, .istore 6, 2) rfl
theorem dX7_sure_56 : decode cX7_sure 56 = .ok (.iload 5, 2) := tb_d tk_X7_sure_1 27 (56, .iload 5, 2) rfl
theorem dX7_sure_58 : decode cX7_sure 58 = .ok (.aload_n 0, 1) := tb_d tk_X7_sure_1 28 (58, .aload_n 0, 1) rfl
theorem dX7_sure_59 : decode cX7_sure 59 = .ok (.getfield 25, 3) := tb_d tk_X7_sure_1 29 (59, .getfield 25, 3) rfl
theorem dX7_sure_62 : decode cX7_sure 62 = .ok (.iload_n 1, 1) := tb_d tk_X7_sure_1 30 (62, .iload_n 1, 1) rfl
theorem dX7_sure_63 : decode cX7_sure 63 = .ok (.iload_n 2, 1) := tb_d tk_X7_sure_1 31 (63, .iload_n 2, 1) rfl
theorem dX7_sure_64 : decode cX7_sure 64 = .ok (.invokestatic 290, 3) := tb_d tk_X7_sure_1 32 (64, .invokestatic 290, 3) rfl
theorem dX7_sure_67 : decode cX7_sure 67 = .ok (.iand, 1) := tb_d tk_X7_sure_1 33 (67, .iand, 1) rfl
theorem dX7_sure_68 : decode cX7_sure 68 = .ok (.invokestatic 285, 3) := tb_d tk_X7_sure_1 34 (68, .invokestatic 285, 3) rfl
theorem dX7_sure_71 : decode cX7_sure 71 = .ok (.istore 7, 2) := tb_d tk_X7_sure_1 35 (71, .istore 7, 2) rfl
theorem dX7_sure_73 : decode cX7_sure 73 = .ok (.iload 6, 2) := tb_d tk_X7_sure_1 36 (73, .iload 6, 2) rfl
theorem dX7_sure_75 : decode cX7_sure 75 = .ok (.iload 7, 2) := tb_d tk_X7_sure_1 37 (75, .iload 7, 2) rfl
theorem dX7_sure_77 : decode cX7_sure 77 = .ok (.isub, 1) := tb_d tk_X7_sure_1 38 (77, .isub, 1) rfl
theorem dX7_sure_78 : decode cX7_sure 78 = .ok (.bipush 10, 2) := tb_d tk_X7_sure_1 39 (78, .bipush 10, 2) rfl
def tb_X7_sure_2 : List (Nat × Instr × Nat) := [(80, .imul, 1), (81, .iload 7, 2), (83, .iload_n 3, 1), (84, .imul, 1), (85, .iadd, 1), (86, .istore 8, 2), (88, .iload 6, 2), (90, .ifCond .ne 7, 3), (93, .iconst 1, 1), (94, .goto 8, 3), (97, .iload 6, 2), (99, .bipush 10, 2), (101, .imul, 1), (102, .istore 9, 2), (104, .iload 4, 2), (106, .ifCond .ne 8, 3), (109, .iload 8, 2), (111, .goto 5, 3), (114, .iload 9, 2), (116, .iload 8, 2), (118, .iload 9, 2), (120, .invokestatic 293, 3), (123, .invokestatic 296, 3), (126, .ireturn, 1)]
set_option maxRecDepth 100000 in
theorem tk_X7_sure_2 : (tb_X7_sure_2.all fun q => decide (decode cX7_sure q.1 = .ok q.2)) = true := by decide +kernel
theorem dX7_sure_80 : decode cX7_sure 80 = .ok (.imul, 1) := tb_d tk_X7_sure_2 0 (80, .imul, 1) rfl
theorem dX7_sure_81 : decode cX7_sure 81 = .ok (.iload 7, 2) := tb_d tk_X7_sure_2 1 (81, .iload 7, 2) rfl
theorem dX7_sure_83 : decode cX7_sure 83 = .ok (.iload_n 3, 1) := tb_d tk_X7_sure_2 2 (83, .iload_n 3, 1) rfl
theorem dX7_sure_84 : decode cX7_sure 84 = .ok (.imul, 1) := tb_d tk_X7_sure_2 3 (84, .imul, 1) rfl
theorem dX7_sure_85 : decode cX7_sure 85 = .ok (.iadd, 1) := tb_d tk_X7_sure_2 4 (85, .iadd, 1) rfl
theorem dX7_sure_86 : decode cX7_sure 86 = .ok (.istore 8, 2) := tb_d tk_X7_sure_2 5 (86, .istore 8, 2) rfl
theorem dX7_sure_88 : decode cX7_sure 88 = .ok (.iload 6, 2) := tb_d tk_X7_sure_2 6 (88, .iload 6, 2) rfl
theorem dX7_sure_90 : decode cX7_sure 90 = .ok (.ifCond .ne 7, 3) := tb_d tk_X7_sure_2 7 (90, .ifCond .ne 7, 3) rfl
theorem dX7_sure_93 : decode cX7_sure 93 = .ok (.iconst 1, 1) := tb_d tk_X7_sure_2 8 (93, .iconst 1, 1) rfl
theorem dX7_sure_94 : decode cX7_sure 94 = .ok (.goto 8, 3) := tb_d tk_X7_sure_2 9 (94, .goto 8, 3) rfl
theorem dX7_sure_97 : decode cX7_sure 97 = .ok (.iload 6, 2) := tb_d tk_X7_sure_2 10 (97, .iload 6, 2) rfl
theorem dX7_sure_99 : decode cX7_sure 99 = .ok (.bipush 10, 2) := tb_d tk_X7_sure_2 11 (99, .bipush 10, 2) rfl
theorem dX7_sure_101 : decode cX7_sure 101 = .ok (.imul, 1) := tb_d tk_X7_sure_2 12 (101, .imul, 1) rfl
theorem dX7_sure_102 : decode cX7_sure 102 = .ok (.istore 9, 2) := tb_d tk_X7_sure_2 13 (102, .istore 9, 2) rfl
theorem dX7_sure_104 : decode cX7_sure 104 = .ok (.iload 4, 2) := tb_d tk_X7_sure_2 14 (104, .iload 4, 2) rfl
theorem dX7_sure_106 : decode cX7_sure 106 = .ok (.ifCond .ne 8, 3) := tb_d tk_X7_sure_2 15 (106, .ifCond .ne 8, 3) rfl
theorem dX7_sure_109 : decode cX7_sure 109 = .ok (.iload 8, 2) := tb_d tk_X7_sure_2 16 (109, .iload 8, 2) rfl
theorem dX7_sure_111 : decode cX7_sure 111 = .ok (.goto 5, 3) := tb_d tk_X7_sure_2 17 (111, .goto 5, 3) rfl
theorem dX7_sure_114 : decode cX7_sure 114 = .ok (.iload 9, 2) := tb_d tk_X7_sure_2 18 (114, .iload 9, 2) rfl
theorem dX7_sure_116 : decode cX7_sure 116 = .ok (.iload 8, 2) := tb_d tk_X7_sure_2 19 (116, .iload 8, 2) rfl
theorem dX7_sure_118 : decode cX7_sure 118 = .ok (.iload 9, 2) := tb_d tk_X7_sure_2 20 (118, .iload 9, 2) rfl
theorem dX7_sure_120 : decode cX7_sure 120 = .ok (.invokestatic 293, 3) := tb_d tk_X7_sure_2 21 (120, .invokestatic 293, 3) rfl
theorem dX7_sure_123 : decode cX7_sure 123 = .ok (.invokestatic 296, 3) := tb_d tk_X7_sure_2 22 (123, .invokestatic 296, 3) rfl
theorem dX7_sure_126 : decode cX7_sure 126 = .ok (.ireturn, 1) := tb_d tk_X7_sure_2 23 (126, .ireturn, 1) rfl
theorem ggX7_drawn_X7_noGate : GoodIn wsX7_drawn wsX7_noGate := fun w h => ⟨List.mem_cons_of_mem _ (List.mem_append_right _ (List.mem_append_right _ (List.mem_append_right _ (List.mem_append_right _ (List.mem_append_right _ (List.mem_append_right _ (List.mem_append_right _ (List.mem_append_left _ h)))))))), good_of_word (gdX7_noGate w h)⟩
set_option maxRecDepth 20000 in
theorem gX7_drawn_X7_noGate : GoodIn wsX7_drawn (wsV RX7 133 RX7 yX7_noGate wsX7_noGate) := goodIn_app (a := bkV RX7 133 RX7 yX7_noGate) (fun w h => ⟨List.mem_cons_of_mem _ (List.mem_append_right _ (List.mem_append_left _ h)), good_of_word (gd_bV _ _ _ _ w h)⟩) ggX7_drawn_X7_noGate
theorem ggX7_drawn_X7_rest : GoodIn wsX7_drawn wsX7_rest := fun w h => ⟨List.mem_cons_of_mem _ (List.mem_append_right _ (List.mem_append_right _ (List.mem_append_right _ (List.mem_append_right _ (List.mem_append_right _ (List.mem_append_right _ (List.mem_append_right _ (List.mem_append_right _ (List.mem_append_left _ h))))))))), good_of_word (gdX7_rest w h)⟩
set_option maxRecDepth 20000 in
theorem gX7_drawn_X7_rest : GoodIn wsX7_drawn (va_wsS RX7 304 yX7_rest wsX7_rest) := goodIn_app (a := bkS RX7 304 yX7_rest) (fun w h => ⟨List.mem_cons_of_mem _ (List.mem_append_right _ (List.mem_append_right _ (List.mem_append_left _ h))), good_of_word (gd_bS _ _ _ w h)⟩) ggX7_drawn_X7_rest
theorem ggX7_drawn_X2_catches : GoodIn wsX7_drawn wsX2_catches := fun w h => ⟨List.mem_cons_of_mem _ (List.mem_append_right _ (List.mem_append_right _ (List.mem_append_right _ (List.mem_append_right _ (List.mem_append_right _ (List.mem_append_right _ (List.mem_append_right _ (List.mem_append_right _ (List.mem_append_right _ (List.mem_append_left _ h)))))))))), good_of_word (gdX2_catches w h)⟩
set_option maxRecDepth 20000 in
theorem gX7_drawn_X2_catches : GoodIn wsX7_drawn (wsV RX7 168 RX2 yX2_catches wsX2_catches) := goodIn_app (a := bkV RX7 168 RX2 yX2_catches) (fun w h => ⟨List.mem_cons_of_mem _ (List.mem_append_right _ (List.mem_append_right _ (List.mem_append_right _ (List.mem_append_left _ h)))), good_of_word (gd_bV _ _ _ _ w h)⟩) ggX7_drawn_X2_catches
def tb_X7_drawn_1 : List (Nat × Instr × Nat) := [(0, .aload_n 0, 1), (1, .invokevirtual 133, 3), (4, .ifCond .eq 6, 3), (7, .ldc 136, 2), (9, .ireturn, 1), (10, .iload_n 1, 1), (11, .ifCond .lt 30, 3), (14, .iload_n 1, 1), (15, .bipush 60, 2), (17, .if_icmp .gt 24, 3), (20, .iload_n 2, 1), (21, .iconst 1, 1), (22, .if_icmp .lt 19, 3), (25, .iload_n 2, 1), (26, .ldc_w 299, 3), (29, .if_icmp .gt 12, 3), (32, .iload_n 3, 1), (33, .ifCond .lt 8, 3), (36, .iload_n 3, 1), (37, .iconst 1, 1), (38, .if_icmp .le 6, 3), (41, .ldc 59, 2), (43, .ireturn, 1), (44, .iload_n 2, 1), (45, .i2l, 1), (46, .lstore 4, 2), (48, .iconst 0, 1), (49, .istore 6, 2), (51, .iconst 0, 1), (52, .istore 7, 2), (54, .iconst 0, 1), (55, .istore 8, 2), (57, .iload 8, 2), (59, .iload_n 1, 1), (60, .if_icmp .ge 71, 3), (63, .lload 4, 2), (65, .ldc2_w 300, 3), (68, .lmul, 1), (69, .ldc2_w 302, 3), (72, .lrem, 1)]
set_option maxRecDepth 100000 in
theorem tk_X7_drawn_1 : (tb_X7_drawn_1.all fun q => decide (decode cX7_drawn q.1 = .ok q.2)) = true := by decide +kernel
theorem dX7_drawn_0 : decode cX7_drawn 0 = .ok (.aload_n 0, 1) := tb_d tk_X7_drawn_1 0 (0, .aload_n 0, 1) rfl
theorem dX7_drawn_1 : decode cX7_drawn 1 = .ok (.invokevirtual 133, 3) := tb_d tk_X7_drawn_1 1 (1, .invokevirtual 133, 3) rfl
theorem dX7_drawn_4 : decode cX7_drawn 4 = .ok (.ifCond .eq 6, 3) := tb_d tk_X7_drawn_1 2 (4, .ifCond .eq 6, 3) rfl
theorem dX7_drawn_7 : decode cX7_drawn 7 = .ok (.ldc 136, 2) := tb_d tk_X7_drawn_1 3 (7, .ldc 136, 2) rfl
theorem dX7_drawn_9 : decode cX7_drawn 9 = .ok (.ireturn, 1) := tb_d tk_X7_drawn_1 4 (9, .ireturn, 1) rfl
theorem dX7_drawn_10 : decode cX7_drawn 10 = .ok (.iload_n 1, 1) := tb_d tk_X7_drawn_1 5 (10, .iload_n 1, 1) rfl
theorem dX7_drawn_11 : decode cX7_drawn 11 = .ok (.ifCond .lt 30, 3) := tb_d tk_X7_drawn_1 6 (11, .ifCond .lt 30, 3) rfl
theorem dX7_drawn_14 : decode cX7_drawn 14 = .ok (.iload_n 1, 1) := tb_d tk_X7_drawn_1 7 (14, .iload_n 1, 1) rfl
theorem dX7_drawn_15 : decode cX7_drawn 15 = .ok (.bipush 60, 2) := tb_d tk_X7_drawn_1 8 (15, .bipush 60, 2) rfl
theorem dX7_drawn_17 : decode cX7_drawn 17 = .ok (.if_icmp .gt 24, 3) := tb_d tk_X7_drawn_1 9 (17, .if_icmp .gt 24, 3) rfl
theorem dX7_drawn_20 : decode cX7_drawn 20 = .ok (.iload_n 2, 1) := tb_d tk_X7_drawn_1 10 (20, .iload_n 2, 1) rfl
theorem dX7_drawn_21 : decode cX7_drawn 21 = .ok (.iconst 1, 1) := tb_d tk_X7_drawn_1 11 (21, .iconst 1, 1) rfl
theorem dX7_drawn_22 : decode cX7_drawn 22 = .ok (.if_icmp .lt 19, 3) := tb_d tk_X7_drawn_1 12 (22, .if_icmp .lt 19, 3) rfl
theorem dX7_drawn_25 : decode cX7_drawn 25 = .ok (.iload_n 2, 1) := tb_d tk_X7_drawn_1 13 (25, .iload_n 2, 1) rfl
theorem dX7_drawn_26 : decode cX7_drawn 26 = .ok (.ldc_w 299, 3) := tb_d tk_X7_drawn_1 14 (26, .ldc_w 299, 3) rfl
theorem dX7_drawn_29 : decode cX7_drawn 29 = .ok (.if_icmp .gt 12, 3) := tb_d tk_X7_drawn_1 15 (29, .if_icmp .gt 12, 3) rfl
theorem dX7_drawn_32 : decode cX7_drawn 32 = .ok (.iload_n 3, 1) := tb_d tk_X7_drawn_1 16 (32, .iload_n 3, 1) rfl
theorem dX7_drawn_33 : decode cX7_drawn 33 = .ok (.ifCond .lt 8, 3) := tb_d tk_X7_drawn_1 17 (33, .ifCond .lt 8, 3) rfl
theorem dX7_drawn_36 : decode cX7_drawn 36 = .ok (.iload_n 3, 1) := tb_d tk_X7_drawn_1 18 (36, .iload_n 3, 1) rfl
theorem dX7_drawn_37 : decode cX7_drawn 37 = .ok (.iconst 1, 1) := tb_d tk_X7_drawn_1 19 (37, .iconst 1, 1) rfl
theorem dX7_drawn_38 : decode cX7_drawn 38 = .ok (.if_icmp .le 6, 3) := tb_d tk_X7_drawn_1 20 (38, .if_icmp .le 6, 3) rfl
theorem dX7_drawn_41 : decode cX7_drawn 41 = .ok (.ldc 59, 2) := tb_d tk_X7_drawn_1 21 (41, .ldc 59, 2) rfl
theorem dX7_drawn_43 : decode cX7_drawn 43 = .ok (.ireturn, 1) := tb_d tk_X7_drawn_1 22 (43, .ireturn, 1) rfl
theorem dX7_drawn_44 : decode cX7_drawn 44 = .ok (.iload_n 2, 1) := tb_d tk_X7_drawn_1 23 (44, .iload_n 2, 1) rfl
theorem dX7_drawn_45 : decode cX7_drawn 45 = .ok (.i2l, 1) := tb_d tk_X7_drawn_1 24 (45, .i2l, 1) rfl
theorem dX7_drawn_46 : decode cX7_drawn 46 = .ok (.lstore 4, 2) := tb_d tk_X7_drawn_1 25 (46, .lstore 4, 2) rfl
theorem dX7_drawn_48 : decode cX7_drawn 48 = .ok (.iconst 0, 1) := tb_d tk_X7_drawn_1 26 (48, .iconst 0, 1) rfl
theorem dX7_drawn_49 : decode cX7_drawn 49 = .ok (.istore 6, 2) := tb_d tk_X7_drawn_1 27 (49, .istore 6, 2) rfl
theorem dX7_drawn_51 : decode cX7_drawn 51 = .ok (.iconst 0, 1) := tb_d tk_X7_drawn_1 28 (51, .iconst 0, 1) rfl
theorem dX7_drawn_52 : decode cX7_drawn 52 = .ok (.istore 7, 2) := tb_d tk_X7_drawn_1 29 (52, .istore 7, 2) rfl
theorem dX7_drawn_54 : decode cX7_drawn 54 = .ok (.iconst 0, 1) := tb_d tk_X7_drawn_1 30 (54, .iconst 0, 1) rfl
theorem dX7_drawn_55 : decode cX7_drawn 55 = .ok (.istore 8, 2) := tb_d tk_X7_drawn_1 31 (55, .istore 8, 2) rfl
theorem dX7_drawn_57 : decode cX7_drawn 57 = .ok (.iload 8, 2) := tb_d tk_X7_drawn_1 32 (57, .iload 8, 2) rfl
theorem dX7_drawn_59 : decode cX7_drawn 59 = .ok (.iload_n 1, 1) := tb_d tk_X7_drawn_1 33 (59, .iload_n 1, 1) rfl
theorem dX7_drawn_60 : decode cX7_drawn 60 = .ok (.if_icmp .ge 71, 3) := tb_d tk_X7_drawn_1 34 (60, .if_icmp .ge 71, 3) rfl
theorem dX7_drawn_63 : decode cX7_drawn 63 = .ok (.lload 4, 2) := tb_d tk_X7_drawn_1 35 (63, .lload 4, 2) rfl
theorem dX7_drawn_65 : decode cX7_drawn 65 = .ok (.ldc2_w 300, 3) := tb_d tk_X7_drawn_1 36 (65, .ldc2_w 300, 3) rfl
theorem dX7_drawn_68 : decode cX7_drawn 68 = .ok (.lmul, 1) := tb_d tk_X7_drawn_1 37 (68, .lmul, 1) rfl
theorem dX7_drawn_69 : decode cX7_drawn 69 = .ok (.ldc2_w 302, 3) := tb_d tk_X7_drawn_1 38 (69, .ldc2_w 302, 3) rfl
theorem dX7_drawn_72 : decode cX7_drawn 72 = .ok (.lrem, 1) := tb_d tk_X7_drawn_1 39 (72, .lrem, 1) rfl
def tb_X7_drawn_2 : List (Nat × Instr × Nat) := [(73, .lstore 4, 2), (75, .lload 4, 2), (77, .l2i, 1), (78, .aload_n 0, 1), (79, .getfield 25, 3), (82, .getfield 130, 3), (85, .invokestatic 304, 3), (88, .istore 9, 2), (90, .aload_n 0, 1), (91, .getfield 25, 3), (94, .iload 9, 2), (96, .lload 4, 2), (98, .l2i, 1), (99, .bipush 6, 2), (101, .irem, 1), (102, .iload 8, 2), (104, .invokevirtual 168, 3), (107, .ifCond .eq 9, 3), (110, .iinc 6 1, 3), (113, .goto 12, 3), (116, .iload 7, 2), (118, .iconst 1, 1), (119, .iload 9, 2), (121, .ishl, 1), (122, .ior, 1), (123, .istore 7, 2), (125, .iinc 8 1, 3), (128, .goto (-71), 3), (131, .iload_n 3, 1), (132, .ifCond .ne 8, 3), (135, .iload 6, 2), (137, .goto 5, 3), (140, .iload 7, 2), (142, .ireturn, 1)]
set_option maxRecDepth 100000 in
theorem tk_X7_drawn_2 : (tb_X7_drawn_2.all fun q => decide (decode cX7_drawn q.1 = .ok q.2)) = true := by decide +kernel
theorem dX7_drawn_73 : decode cX7_drawn 73 = .ok (.lstore 4, 2) := tb_d tk_X7_drawn_2 0 (73, .lstore 4, 2) rfl
theorem dX7_drawn_75 : decode cX7_drawn 75 = .ok (.lload 4, 2) := tb_d tk_X7_drawn_2 1 (75, .lload 4, 2) rfl
theorem dX7_drawn_77 : decode cX7_drawn 77 = .ok (.l2i, 1) := tb_d tk_X7_drawn_2 2 (77, .l2i, 1) rfl
theorem dX7_drawn_78 : decode cX7_drawn 78 = .ok (.aload_n 0, 1) := tb_d tk_X7_drawn_2 3 (78, .aload_n 0, 1) rfl
theorem dX7_drawn_79 : decode cX7_drawn 79 = .ok (.getfield 25, 3) := tb_d tk_X7_drawn_2 4 (79, .getfield 25, 3) rfl
theorem dX7_drawn_82 : decode cX7_drawn 82 = .ok (.getfield 130, 3) := tb_d tk_X7_drawn_2 5 (82, .getfield 130, 3) rfl
theorem dX7_drawn_85 : decode cX7_drawn 85 = .ok (.invokestatic 304, 3) := tb_d tk_X7_drawn_2 6 (85, .invokestatic 304, 3) rfl
theorem dX7_drawn_88 : decode cX7_drawn 88 = .ok (.istore 9, 2) := tb_d tk_X7_drawn_2 7 (88, .istore 9, 2) rfl
theorem dX7_drawn_90 : decode cX7_drawn 90 = .ok (.aload_n 0, 1) := tb_d tk_X7_drawn_2 8 (90, .aload_n 0, 1) rfl
theorem dX7_drawn_91 : decode cX7_drawn 91 = .ok (.getfield 25, 3) := tb_d tk_X7_drawn_2 9 (91, .getfield 25, 3) rfl
theorem dX7_drawn_94 : decode cX7_drawn 94 = .ok (.iload 9, 2) := tb_d tk_X7_drawn_2 10 (94, .iload 9, 2) rfl
theorem dX7_drawn_96 : decode cX7_drawn 96 = .ok (.lload 4, 2) := tb_d tk_X7_drawn_2 11 (96, .lload 4, 2) rfl
theorem dX7_drawn_98 : decode cX7_drawn 98 = .ok (.l2i, 1) := tb_d tk_X7_drawn_2 12 (98, .l2i, 1) rfl
theorem dX7_drawn_99 : decode cX7_drawn 99 = .ok (.bipush 6, 2) := tb_d tk_X7_drawn_2 13 (99, .bipush 6, 2) rfl
theorem dX7_drawn_101 : decode cX7_drawn 101 = .ok (.irem, 1) := tb_d tk_X7_drawn_2 14 (101, .irem, 1) rfl
theorem dX7_drawn_102 : decode cX7_drawn 102 = .ok (.iload 8, 2) := tb_d tk_X7_drawn_2 15 (102, .iload 8, 2) rfl
theorem dX7_drawn_104 : decode cX7_drawn 104 = .ok (.invokevirtual 168, 3) := tb_d tk_X7_drawn_2 16 (104, .invokevirtual 168, 3) rfl
theorem dX7_drawn_107 : decode cX7_drawn 107 = .ok (.ifCond .eq 9, 3) := tb_d tk_X7_drawn_2 17 (107, .ifCond .eq 9, 3) rfl
theorem dX7_drawn_110 : decode cX7_drawn 110 = .ok (.iinc 6 1, 3) := tb_d tk_X7_drawn_2 18 (110, .iinc 6 1, 3) rfl
theorem dX7_drawn_113 : decode cX7_drawn 113 = .ok (.goto 12, 3) := tb_d tk_X7_drawn_2 19 (113, .goto 12, 3) rfl
theorem dX7_drawn_116 : decode cX7_drawn 116 = .ok (.iload 7, 2) := tb_d tk_X7_drawn_2 20 (116, .iload 7, 2) rfl
theorem dX7_drawn_118 : decode cX7_drawn 118 = .ok (.iconst 1, 1) := tb_d tk_X7_drawn_2 21 (118, .iconst 1, 1) rfl
theorem dX7_drawn_119 : decode cX7_drawn 119 = .ok (.iload 9, 2) := tb_d tk_X7_drawn_2 22 (119, .iload 9, 2) rfl
theorem dX7_drawn_121 : decode cX7_drawn 121 = .ok (.ishl, 1) := tb_d tk_X7_drawn_2 23 (121, .ishl, 1) rfl
theorem dX7_drawn_122 : decode cX7_drawn 122 = .ok (.ior, 1) := tb_d tk_X7_drawn_2 24 (122, .ior, 1) rfl
theorem dX7_drawn_123 : decode cX7_drawn 123 = .ok (.istore 7, 2) := tb_d tk_X7_drawn_2 25 (123, .istore 7, 2) rfl
theorem dX7_drawn_125 : decode cX7_drawn 125 = .ok (.iinc 8 1, 3) := tb_d tk_X7_drawn_2 26 (125, .iinc 8 1, 3) rfl
theorem dX7_drawn_128 : decode cX7_drawn 128 = .ok (.goto (-71), 3) := tb_d tk_X7_drawn_2 27 (128, .goto (-71), 3) rfl
theorem dX7_drawn_131 : decode cX7_drawn 131 = .ok (.iload_n 3, 1) := tb_d tk_X7_drawn_2 28 (131, .iload_n 3, 1) rfl
theorem dX7_drawn_132 : decode cX7_drawn 132 = .ok (.ifCond .ne 8, 3) := tb_d tk_X7_drawn_2 29 (132, .ifCond .ne 8, 3) rfl
theorem dX7_drawn_135 : decode cX7_drawn 135 = .ok (.iload 6, 2) := tb_d tk_X7_drawn_2 30 (135, .iload 6, 2) rfl
theorem dX7_drawn_137 : decode cX7_drawn 137 = .ok (.goto 5, 3) := tb_d tk_X7_drawn_2 31 (137, .goto 5, 3) rfl
theorem dX7_drawn_140 : decode cX7_drawn 140 = .ok (.iload 7, 2) := tb_d tk_X7_drawn_2 32 (140, .iload 7, 2) rfl
theorem dX7_drawn_142 : decode cX7_drawn 142 = .ok (.ireturn, 1) := tb_d tk_X7_drawn_2 33 (142, .ireturn, 1) rfl
theorem ggX7_image_X7_noGate : GoodIn wsX7_image wsX7_noGate := fun w h => ⟨List.mem_cons_of_mem _ (List.mem_append_right _ (List.mem_append_right _ (List.mem_append_right _ (List.mem_append_right _ (List.mem_append_right _ (List.mem_append_right _ (List.mem_append_left _ h))))))), good_of_word (gdX7_noGate w h)⟩
set_option maxRecDepth 20000 in
theorem gX7_image_X7_noGate : GoodIn wsX7_image (wsV RX7 133 RX7 yX7_noGate wsX7_noGate) := goodIn_app (a := bkV RX7 133 RX7 yX7_noGate) (fun w h => ⟨List.mem_cons_of_mem _ (List.mem_append_right _ (List.mem_append_left _ h)), good_of_word (gd_bV _ _ _ _ w h)⟩) ggX7_image_X7_noGate
theorem ggX7_image_X2_become : GoodIn wsX7_image wsX2_become := fun w h => ⟨List.mem_cons_of_mem _ (List.mem_append_right _ (List.mem_append_right _ (List.mem_append_right _ (List.mem_append_right _ (List.mem_append_right _ (List.mem_append_right _ (List.mem_append_right _ (List.mem_append_left _ h)))))))), good_of_word (gdX2_become w h)⟩
set_option maxRecDepth 20000 in
theorem gX7_image_X2_become : GoodIn wsX7_image (wsV RX7 123 RX2 yX2_become wsX2_become) := goodIn_app (a := bkV RX7 123 RX2 yX2_become) (fun w h => ⟨List.mem_cons_of_mem _ (List.mem_append_right _ (List.mem_append_right _ (List.mem_append_left _ h))), good_of_word (gd_bV _ _ _ _ w h)⟩) ggX7_image_X2_become
def tb_X7_image_1 : List (Nat × Instr × Nat) := [(0, .iload_n 1, 1), (1, .ifCond .lt 8, 3), (4, .iload_n 1, 1), (5, .iconst 2, 1), (6, .if_icmp .lt 6, 3), (9, .ldc 59, 2), (11, .ireturn, 1), (12, .aload_n 0, 1), (13, .invokevirtual 133, 3), (16, .ifCond .eq 6, 3), (19, .ldc 136, 2), (21, .ireturn, 1), (22, .aload_n 0, 1), (23, .getfield 36, 3), (26, .iload_n 1, 1), (27, .aaload, 1), (28, .aload_n 0, 1), (29, .getfield 25, 3), (32, .invokevirtual 123, 3), (35, .iconst 1, 1), (36, .ireturn, 1)]
set_option maxRecDepth 100000 in
theorem tk_X7_image_1 : (tb_X7_image_1.all fun q => decide (decode cX7_image q.1 = .ok q.2)) = true := by decide +kernel
theorem dX7_image_0 : decode cX7_image 0 = .ok (.iload_n 1, 1) := tb_d tk_X7_image_1 0 (0, .iload_n 1, 1) rfl
theorem dX7_image_1 : decode cX7_image 1 = .ok (.ifCond .lt 8, 3) := tb_d tk_X7_image_1 1 (1, .ifCond .lt 8, 3) rfl
theorem dX7_image_4 : decode cX7_image 4 = .ok (.iload_n 1, 1) := tb_d tk_X7_image_1 2 (4, .iload_n 1, 1) rfl
theorem dX7_image_5 : decode cX7_image 5 = .ok (.iconst 2, 1) := tb_d tk_X7_image_1 3 (5, .iconst 2, 1) rfl
theorem dX7_image_6 : decode cX7_image 6 = .ok (.if_icmp .lt 6, 3) := tb_d tk_X7_image_1 4 (6, .if_icmp .lt 6, 3) rfl
theorem dX7_image_9 : decode cX7_image 9 = .ok (.ldc 59, 2) := tb_d tk_X7_image_1 5 (9, .ldc 59, 2) rfl
theorem dX7_image_11 : decode cX7_image 11 = .ok (.ireturn, 1) := tb_d tk_X7_image_1 6 (11, .ireturn, 1) rfl
theorem dX7_image_12 : decode cX7_image 12 = .ok (.aload_n 0, 1) := tb_d tk_X7_image_1 7 (12, .aload_n 0, 1) rfl
theorem dX7_image_13 : decode cX7_image 13 = .ok (.invokevirtual 133, 3) := tb_d tk_X7_image_1 8 (13, .invokevirtual 133, 3) rfl
theorem dX7_image_16 : decode cX7_image 16 = .ok (.ifCond .eq 6, 3) := tb_d tk_X7_image_1 9 (16, .ifCond .eq 6, 3) rfl
theorem dX7_image_19 : decode cX7_image 19 = .ok (.ldc 136, 2) := tb_d tk_X7_image_1 10 (19, .ldc 136, 2) rfl
theorem dX7_image_21 : decode cX7_image 21 = .ok (.ireturn, 1) := tb_d tk_X7_image_1 11 (21, .ireturn, 1) rfl
theorem dX7_image_22 : decode cX7_image 22 = .ok (.aload_n 0, 1) := tb_d tk_X7_image_1 12 (22, .aload_n 0, 1) rfl
theorem dX7_image_23 : decode cX7_image 23 = .ok (.getfield 36, 3) := tb_d tk_X7_image_1 13 (23, .getfield 36, 3) rfl
theorem dX7_image_26 : decode cX7_image 26 = .ok (.iload_n 1, 1) := tb_d tk_X7_image_1 14 (26, .iload_n 1, 1) rfl
theorem dX7_image_27 : decode cX7_image 27 = .ok (.aaload, 1) := tb_d tk_X7_image_1 15 (27, .aaload, 1) rfl
theorem dX7_image_28 : decode cX7_image 28 = .ok (.aload_n 0, 1) := tb_d tk_X7_image_1 16 (28, .aload_n 0, 1) rfl
theorem dX7_image_29 : decode cX7_image 29 = .ok (.getfield 25, 3) := tb_d tk_X7_image_1 17 (29, .getfield 25, 3) rfl
theorem dX7_image_32 : decode cX7_image 32 = .ok (.invokevirtual 123, 3) := tb_d tk_X7_image_1 18 (32, .invokevirtual 123, 3) rfl
theorem dX7_image_35 : decode cX7_image 35 = .ok (.iconst 1, 1) := tb_d tk_X7_image_1 19 (35, .iconst 1, 1) rfl
theorem dX7_image_36 : decode cX7_image 36 = .ok (.ireturn, 1) := tb_d tk_X7_image_1 20 (36, .ireturn, 1) rfl
theorem ggX7_restore_X2_become : GoodIn wsX7_restore wsX2_become := fun w h => ⟨List.mem_cons_of_mem _ (List.mem_append_right _ (List.mem_append_right _ (List.mem_append_right _ (List.mem_append_right _ (List.mem_append_right _ (List.mem_append_right _ (List.mem_append_right _ (List.mem_append_left _ h)))))))), good_of_word (gdX2_become w h)⟩
set_option maxRecDepth 20000 in
theorem gX7_restore_X2_become : GoodIn wsX7_restore (wsV RX7 123 RX2 yX2_become wsX2_become) := goodIn_app (a := bkV RX7 123 RX2 yX2_become) (fun w h => ⟨List.mem_cons_of_mem _ (List.mem_append_right _ (List.mem_append_left _ h)), good_of_word (gd_bV _ _ _ _ w h)⟩) ggX7_restore_X2_become
theorem ggX7_restore_X0_forget : GoodIn wsX7_restore wsX0_forget := fun w h => ⟨List.mem_cons_of_mem _ (List.mem_append_right _ (List.mem_append_right _ (List.mem_append_right _ (List.mem_append_right _ (List.mem_append_right _ (List.mem_append_right _ (List.mem_append_right _ (List.mem_append_right _ (List.mem_append_left _ h))))))))), good_of_word (gdX0_forget w h)⟩
set_option maxRecDepth 20000 in
theorem gX7_restore_X0_forget : GoodIn wsX7_restore (wsV RX7 127 RX0 yX0_forget wsX0_forget) := goodIn_app (a := bkV RX7 127 RX0 yX0_forget) (fun w h => ⟨List.mem_cons_of_mem _ (List.mem_append_right _ (List.mem_append_right _ (List.mem_append_left _ h))), good_of_word (gd_bV _ _ _ _ w h)⟩) ggX7_restore_X0_forget
def tb_X7_restore_1 : List (Nat × Instr × Nat) := [(0, .iload_n 1, 1), (1, .ifCond .lt 8, 3), (4, .iload_n 1, 1), (5, .iconst 2, 1), (6, .if_icmp .lt 6, 3), (9, .ldc 59, 2), (11, .ireturn, 1), (12, .aload_n 0, 1), (13, .getfield 36, 3), (16, .iload_n 1, 1), (17, .aaload, 1), (18, .getfield 130, 3), (21, .ifCond .ne 6, 3), (24, .ldc 136, 2), (26, .ireturn, 1), (27, .aload_n 0, 1), (28, .getfield 25, 3), (31, .aload_n 0, 1), (32, .getfield 36, 3), (35, .iload_n 1, 1), (36, .aaload, 1), (37, .invokevirtual 123, 3), (40, .aload_n 0, 1), (41, .getfield 32, 3), (44, .invokevirtual 127, 3), (47, .iconst 1, 1), (48, .ireturn, 1)]
set_option maxRecDepth 100000 in
theorem tk_X7_restore_1 : (tb_X7_restore_1.all fun q => decide (decode cX7_restore q.1 = .ok q.2)) = true := by decide +kernel
theorem dX7_restore_0 : decode cX7_restore 0 = .ok (.iload_n 1, 1) := tb_d tk_X7_restore_1 0 (0, .iload_n 1, 1) rfl
theorem dX7_restore_1 : decode cX7_restore 1 = .ok (.ifCond .lt 8, 3) := tb_d tk_X7_restore_1 1 (1, .ifCond .lt 8, 3) rfl
theorem dX7_restore_4 : decode cX7_restore 4 = .ok (.iload_n 1, 1) := tb_d tk_X7_restore_1 2 (4, .iload_n 1, 1) rfl
theorem dX7_restore_5 : decode cX7_restore 5 = .ok (.iconst 2, 1) := tb_d tk_X7_restore_1 3 (5, .iconst 2, 1) rfl
theorem dX7_restore_6 : decode cX7_restore 6 = .ok (.if_icmp .lt 6, 3) := tb_d tk_X7_restore_1 4 (6, .if_icmp .lt 6, 3) rfl
theorem dX7_restore_9 : decode cX7_restore 9 = .ok (.ldc 59, 2) := tb_d tk_X7_restore_1 5 (9, .ldc 59, 2) rfl
theorem dX7_restore_11 : decode cX7_restore 11 = .ok (.ireturn, 1) := tb_d tk_X7_restore_1 6 (11, .ireturn, 1) rfl
theorem dX7_restore_12 : decode cX7_restore 12 = .ok (.aload_n 0, 1) := tb_d tk_X7_restore_1 7 (12, .aload_n 0, 1) rfl
theorem dX7_restore_13 : decode cX7_restore 13 = .ok (.getfield 36, 3) := tb_d tk_X7_restore_1 8 (13, .getfield 36, 3) rfl
theorem dX7_restore_16 : decode cX7_restore 16 = .ok (.iload_n 1, 1) := tb_d tk_X7_restore_1 9 (16, .iload_n 1, 1) rfl
theorem dX7_restore_17 : decode cX7_restore 17 = .ok (.aaload, 1) := tb_d tk_X7_restore_1 10 (17, .aaload, 1) rfl
theorem dX7_restore_18 : decode cX7_restore 18 = .ok (.getfield 130, 3) := tb_d tk_X7_restore_1 11 (18, .getfield 130, 3) rfl
theorem dX7_restore_21 : decode cX7_restore 21 = .ok (.ifCond .ne 6, 3) := tb_d tk_X7_restore_1 12 (21, .ifCond .ne 6, 3) rfl
theorem dX7_restore_24 : decode cX7_restore 24 = .ok (.ldc 136, 2) := tb_d tk_X7_restore_1 13 (24, .ldc 136, 2) rfl
theorem dX7_restore_26 : decode cX7_restore 26 = .ok (.ireturn, 1) := tb_d tk_X7_restore_1 14 (26, .ireturn, 1) rfl
theorem dX7_restore_27 : decode cX7_restore 27 = .ok (.aload_n 0, 1) := tb_d tk_X7_restore_1 15 (27, .aload_n 0, 1) rfl
theorem dX7_restore_28 : decode cX7_restore 28 = .ok (.getfield 25, 3) := tb_d tk_X7_restore_1 16 (28, .getfield 25, 3) rfl
theorem dX7_restore_31 : decode cX7_restore 31 = .ok (.aload_n 0, 1) := tb_d tk_X7_restore_1 17 (31, .aload_n 0, 1) rfl
theorem dX7_restore_32 : decode cX7_restore 32 = .ok (.getfield 36, 3) := tb_d tk_X7_restore_1 18 (32, .getfield 36, 3) rfl
theorem dX7_restore_35 : decode cX7_restore 35 = .ok (.iload_n 1, 1) := tb_d tk_X7_restore_1 19 (35, .iload_n 1, 1) rfl
theorem dX7_restore_36 : decode cX7_restore 36 = .ok (.aaload, 1) := tb_d tk_X7_restore_1 20 (36, .aaload, 1) rfl
theorem dX7_restore_37 : decode cX7_restore 37 = .ok (.invokevirtual 123, 3) := tb_d tk_X7_restore_1 21 (37, .invokevirtual 123, 3) rfl
theorem dX7_restore_40 : decode cX7_restore 40 = .ok (.aload_n 0, 1) := tb_d tk_X7_restore_1 22 (40, .aload_n 0, 1) rfl
theorem dX7_restore_41 : decode cX7_restore 41 = .ok (.getfield 32, 3) := tb_d tk_X7_restore_1 23 (41, .getfield 32, 3) rfl
theorem dX7_restore_44 : decode cX7_restore 44 = .ok (.invokevirtual 127, 3) := tb_d tk_X7_restore_1 24 (44, .invokevirtual 127, 3) rfl
theorem dX7_restore_47 : decode cX7_restore 47 = .ok (.iconst 1, 1) := tb_d tk_X7_restore_1 25 (47, .iconst 1, 1) rfl
theorem dX7_restore_48 : decode cX7_restore 48 = .ok (.ireturn, 1) := tb_d tk_X7_restore_1 26 (48, .ireturn, 1) rfl
theorem ggX7_kind_X7_isGuard : GoodIn wsX7_kind wsX7_isGuard := fun w h => ⟨List.mem_cons_of_mem _ (List.mem_append_right _ (List.mem_append_right _ (List.mem_append_right _ (List.mem_append_right _ (List.mem_append_left _ h))))), good_of_word (gdX7_isGuard w h)⟩
set_option maxRecDepth 20000 in
theorem gX7_kind_X7_isGuard : GoodIn wsX7_kind (wsV RX7 187 RX7 yX7_isGuard wsX7_isGuard) := goodIn_app (a := bkV RX7 187 RX7 yX7_isGuard) (fun w h => ⟨List.mem_cons_of_mem _ (List.mem_append_right _ (List.mem_append_left _ h)), good_of_word (gd_bV _ _ _ _ w h)⟩) ggX7_kind_X7_isGuard
def tb_X7_kind_1 : List (Nat × Instr × Nat) := [(0, .aload_n 0, 1), (1, .iload_n 1, 1), (2, .invokevirtual 187, 3), (5, .ifCond .eq 15, 3), (8, .aload_n 0, 1), (9, .getfield 25, 3), (12, .getfield 278, 3), (15, .iload_n 1, 1), (16, .iaload, 1), (17, .goto 5, 3), (20, .ldc 59, 2), (22, .ireturn, 1)]
set_option maxRecDepth 100000 in
theorem tk_X7_kind_1 : (tb_X7_kind_1.all fun q => decide (decode cX7_kind q.1 = .ok q.2)) = true := by decide +kernel
theorem dX7_kind_0 : decode cX7_kind 0 = .ok (.aload_n 0, 1) := tb_d tk_X7_kind_1 0 (0, .aload_n 0, 1) rfl
theorem dX7_kind_1 : decode cX7_kind 1 = .ok (.iload_n 1, 1) := tb_d tk_X7_kind_1 1 (1, .iload_n 1, 1) rfl
theorem dX7_kind_2 : decode cX7_kind 2 = .ok (.invokevirtual 187, 3) := tb_d tk_X7_kind_1 2 (2, .invokevirtual 187, 3) rfl
theorem dX7_kind_5 : decode cX7_kind 5 = .ok (.ifCond .eq 15, 3) := tb_d tk_X7_kind_1 3 (5, .ifCond .eq 15, 3) rfl
theorem dX7_kind_8 : decode cX7_kind 8 = .ok (.aload_n 0, 1) := tb_d tk_X7_kind_1 4 (8, .aload_n 0, 1) rfl
theorem dX7_kind_9 : decode cX7_kind 9 = .ok (.getfield 25, 3) := tb_d tk_X7_kind_1 5 (9, .getfield 25, 3) rfl
theorem dX7_kind_12 : decode cX7_kind 12 = .ok (.getfield 278, 3) := tb_d tk_X7_kind_1 6 (12, .getfield 278, 3) rfl
theorem dX7_kind_15 : decode cX7_kind 15 = .ok (.iload_n 1, 1) := tb_d tk_X7_kind_1 7 (15, .iload_n 1, 1) rfl
theorem dX7_kind_16 : decode cX7_kind 16 = .ok (.iaload, 1) := tb_d tk_X7_kind_1 8 (16, .iaload, 1) rfl
theorem dX7_kind_17 : decode cX7_kind 17 = .ok (.goto 5, 3) := tb_d tk_X7_kind_1 9 (17, .goto 5, 3) rfl
theorem dX7_kind_20 : decode cX7_kind 20 = .ok (.ldc 59, 2) := tb_d tk_X7_kind_1 10 (20, .ldc 59, 2) rfl
theorem dX7_kind_22 : decode cX7_kind 22 = .ok (.ireturn, 1) := tb_d tk_X7_kind_1 11 (22, .ireturn, 1) rfl
theorem ggX7_as_X7_isGuard : GoodIn wsX7_as wsX7_isGuard := fun w h => ⟨List.mem_cons_of_mem _ (List.mem_append_right _ (List.mem_append_right _ (List.mem_append_right _ (List.mem_append_right _ (List.mem_append_right _ (List.mem_append_right _ (List.mem_append_right _ (List.mem_append_left _ h)))))))), good_of_word (gdX7_isGuard w h)⟩
set_option maxRecDepth 20000 in
theorem gX7_as_X7_isGuard : GoodIn wsX7_as (wsV RX7 187 RX7 yX7_isGuard wsX7_isGuard) := goodIn_app (a := bkV RX7 187 RX7 yX7_isGuard) (fun w h => ⟨List.mem_cons_of_mem _ (List.mem_append_right _ (List.mem_append_left _ h)), good_of_word (gd_bV _ _ _ _ w h)⟩) ggX7_as_X7_isGuard
theorem ggX7_as_X1_isA : GoodIn wsX7_as wsX1_isA := fun w h => ⟨List.mem_cons_of_mem _ (List.mem_append_right _ (List.mem_append_right _ (List.mem_append_right _ (List.mem_append_right _ (List.mem_append_right _ (List.mem_append_right _ (List.mem_append_right _ (List.mem_append_right _ (List.mem_append_left _ h))))))))), good_of_word (gdX1_isA w h)⟩
set_option maxRecDepth 20000 in
theorem gX7_as_X1_isA : GoodIn wsX7_as (va_wsS RX7 307 yX1_isA wsX1_isA) := goodIn_app (a := bkS RX7 307 yX1_isA) (fun w h => ⟨List.mem_cons_of_mem _ (List.mem_append_right _ (List.mem_append_right _ (List.mem_append_left _ h))), good_of_word (gd_bS _ _ _ w h)⟩) ggX7_as_X1_isA
theorem ggX7_as_X7_unfound : GoodIn wsX7_as wsX7_unfound := fun w h => ⟨List.mem_cons_of_mem _ (List.mem_append_right _ (List.mem_append_right _ (List.mem_append_right _ (List.mem_append_right _ (List.mem_append_right _ (List.mem_append_right _ (List.mem_append_right _ (List.mem_append_right _ (List.mem_append_right _ (List.mem_append_left _ h)))))))))), good_of_word (gdX7_unfound w h)⟩
set_option maxRecDepth 20000 in
theorem gX7_as_X7_unfound : GoodIn wsX7_as (wsV RX7 68 RX7 yX7_unfound wsX7_unfound) := goodIn_app (a := bkV RX7 68 RX7 yX7_unfound) (fun w h => ⟨List.mem_cons_of_mem _ (List.mem_append_right _ (List.mem_append_right _ (List.mem_append_right _ (List.mem_append_left _ h)))), good_of_word (gd_bV _ _ _ _ w h)⟩) ggX7_as_X7_unfound
theorem ggX7_as_X7_found : GoodIn wsX7_as wsX7_found := fun w h => ⟨List.mem_cons_of_mem _ (List.mem_append_right _ (List.mem_append_right _ (List.mem_append_right _ (List.mem_append_right _ (List.mem_append_right _ (List.mem_append_right _ (List.mem_append_right _ (List.mem_append_right _ (List.mem_append_right _ (List.mem_append_right _ (List.mem_append_left _ h))))))))))), good_of_word (gdX7_found w h)⟩
set_option maxRecDepth 20000 in
theorem gX7_as_X7_found : GoodIn wsX7_as (wsV RX7 60 RX7 yX7_found wsX7_found) := goodIn_app (a := bkV RX7 60 RX7 yX7_found) (fun w h => ⟨List.mem_cons_of_mem _ (List.mem_append_right _ (List.mem_append_right _ (List.mem_append_right _ (List.mem_append_right _ (List.mem_append_left _ h))))), good_of_word (gd_bV _ _ _ _ w h)⟩) ggX7_as_X7_found
def tb_X7_as_1 : List (Nat × Instr × Nat) := [(0, .aload_n 0, 1), (1, .iload_n 1, 1), (2, .invokevirtual 187, 3), (5, .ifCond .eq 12, 3), (8, .iload_n 2, 1), (9, .ifCond .lt 8, 3), (12, .iload_n 2, 1), (13, .iconst 5, 1), (14, .if_icmp .le 6, 3), (17, .ldc 59, 2), (19, .ireturn, 1), (20, .aload_n 0, 1), (21, .getfield 25, 3), (24, .getfield 278, 3), (27, .iload_n 1, 1), (28, .iaload, 1), (29, .iload_n 2, 1), (30, .invokestatic 307, 3), (33, .ifCond .eq 11, 3), (36, .aload_n 0, 1), (37, .iload_n 1, 1), (38, .invokevirtual 68, 3), (41, .goto 8, 3), (44, .aload_n 0, 1), (45, .iconst 3, 1), (46, .invokevirtual 60, 3), (49, .ireturn, 1)]
set_option maxRecDepth 100000 in
theorem tk_X7_as_1 : (tb_X7_as_1.all fun q => decide (decode cX7_as q.1 = .ok q.2)) = true := by decide +kernel
theorem dX7_as_0 : decode cX7_as 0 = .ok (.aload_n 0, 1) := tb_d tk_X7_as_1 0 (0, .aload_n 0, 1) rfl
theorem dX7_as_1 : decode cX7_as 1 = .ok (.iload_n 1, 1) := tb_d tk_X7_as_1 1 (1, .iload_n 1, 1) rfl
theorem dX7_as_2 : decode cX7_as 2 = .ok (.invokevirtual 187, 3) := tb_d tk_X7_as_1 2 (2, .invokevirtual 187, 3) rfl
theorem dX7_as_5 : decode cX7_as 5 = .ok (.ifCond .eq 12, 3) := tb_d tk_X7_as_1 3 (5, .ifCond .eq 12, 3) rfl
theorem dX7_as_8 : decode cX7_as 8 = .ok (.iload_n 2, 1) := tb_d tk_X7_as_1 4 (8, .iload_n 2, 1) rfl
theorem dX7_as_9 : decode cX7_as 9 = .ok (.ifCond .lt 8, 3) := tb_d tk_X7_as_1 5 (9, .ifCond .lt 8, 3) rfl
theorem dX7_as_12 : decode cX7_as 12 = .ok (.iload_n 2, 1) := tb_d tk_X7_as_1 6 (12, .iload_n 2, 1) rfl
theorem dX7_as_13 : decode cX7_as 13 = .ok (.iconst 5, 1) := tb_d tk_X7_as_1 7 (13, .iconst 5, 1) rfl
theorem dX7_as_14 : decode cX7_as 14 = .ok (.if_icmp .le 6, 3) := tb_d tk_X7_as_1 8 (14, .if_icmp .le 6, 3) rfl
theorem dX7_as_17 : decode cX7_as 17 = .ok (.ldc 59, 2) := tb_d tk_X7_as_1 9 (17, .ldc 59, 2) rfl
theorem dX7_as_19 : decode cX7_as 19 = .ok (.ireturn, 1) := tb_d tk_X7_as_1 10 (19, .ireturn, 1) rfl
theorem dX7_as_20 : decode cX7_as 20 = .ok (.aload_n 0, 1) := tb_d tk_X7_as_1 11 (20, .aload_n 0, 1) rfl
theorem dX7_as_21 : decode cX7_as 21 = .ok (.getfield 25, 3) := tb_d tk_X7_as_1 12 (21, .getfield 25, 3) rfl
theorem dX7_as_24 : decode cX7_as 24 = .ok (.getfield 278, 3) := tb_d tk_X7_as_1 13 (24, .getfield 278, 3) rfl
theorem dX7_as_27 : decode cX7_as 27 = .ok (.iload_n 1, 1) := tb_d tk_X7_as_1 14 (27, .iload_n 1, 1) rfl
theorem dX7_as_28 : decode cX7_as 28 = .ok (.iaload, 1) := tb_d tk_X7_as_1 15 (28, .iaload, 1) rfl
theorem dX7_as_29 : decode cX7_as 29 = .ok (.iload_n 2, 1) := tb_d tk_X7_as_1 16 (29, .iload_n 2, 1) rfl
theorem dX7_as_30 : decode cX7_as 30 = .ok (.invokestatic 307, 3) := tb_d tk_X7_as_1 17 (30, .invokestatic 307, 3) rfl
theorem dX7_as_33 : decode cX7_as 33 = .ok (.ifCond .eq 11, 3) := tb_d tk_X7_as_1 18 (33, .ifCond .eq 11, 3) rfl
theorem dX7_as_36 : decode cX7_as 36 = .ok (.aload_n 0, 1) := tb_d tk_X7_as_1 19 (36, .aload_n 0, 1) rfl
theorem dX7_as_37 : decode cX7_as 37 = .ok (.iload_n 1, 1) := tb_d tk_X7_as_1 20 (37, .iload_n 1, 1) rfl
theorem dX7_as_38 : decode cX7_as 38 = .ok (.invokevirtual 68, 3) := tb_d tk_X7_as_1 21 (38, .invokevirtual 68, 3) rfl
theorem dX7_as_41 : decode cX7_as 41 = .ok (.goto 8, 3) := tb_d tk_X7_as_1 22 (41, .goto 8, 3) rfl
theorem dX7_as_44 : decode cX7_as 44 = .ok (.aload_n 0, 1) := tb_d tk_X7_as_1 23 (44, .aload_n 0, 1) rfl
theorem dX7_as_45 : decode cX7_as 45 = .ok (.iconst 3, 1) := tb_d tk_X7_as_1 24 (45, .iconst 3, 1) rfl
theorem dX7_as_46 : decode cX7_as 46 = .ok (.invokevirtual 60, 3) := tb_d tk_X7_as_1 25 (46, .invokevirtual 60, 3) rfl
theorem dX7_as_49 : decode cX7_as 49 = .ok (.ireturn, 1) := tb_d tk_X7_as_1 26 (49, .ireturn, 1) rfl
theorem ggX7_ask_X7_isGuard : GoodIn wsX7_ask wsX7_isGuard := fun w h => ⟨List.mem_cons_of_mem _ (List.mem_append_right _ (List.mem_append_right _ (List.mem_append_right _ (List.mem_append_right _ (List.mem_append_right _ (List.mem_append_right _ (List.mem_append_right _ (List.mem_append_right _ (List.mem_append_left _ h))))))))), good_of_word (gdX7_isGuard w h)⟩
set_option maxRecDepth 20000 in
theorem gX7_ask_X7_isGuard : GoodIn wsX7_ask (wsV RX7 187 RX7 yX7_isGuard wsX7_isGuard) := goodIn_app (a := bkV RX7 187 RX7 yX7_isGuard) (fun w h => ⟨List.mem_cons_of_mem _ (List.mem_append_right _ (List.mem_append_left _ h)), good_of_word (gd_bV _ _ _ _ w h)⟩) ggX7_ask_X7_isGuard
theorem ggX7_ask_X1_turnTo : GoodIn wsX7_ask wsX1_turnTo := fun w h => ⟨List.mem_cons_of_mem _ (List.mem_append_right _ (List.mem_append_right _ (List.mem_append_right _ (List.mem_append_right _ (List.mem_append_right _ (List.mem_append_right _ (List.mem_append_right _ (List.mem_append_right _ (List.mem_append_right _ (List.mem_append_left _ h)))))))))), good_of_word (gdX1_turnTo w h)⟩
set_option maxRecDepth 20000 in
theorem gX7_ask_X1_turnTo : GoodIn wsX7_ask (wsV RX7 310 RX1 yX1_turnTo wsX1_turnTo) := goodIn_app (a := bkV RX7 310 RX1 yX1_turnTo) (fun w h => ⟨List.mem_cons_of_mem _ (List.mem_append_right _ (List.mem_append_right _ (List.mem_append_left _ h))), good_of_word (gd_bV _ _ _ _ w h)⟩) ggX7_ask_X1_turnTo
theorem ggX7_ask_X1_answer : GoodIn wsX7_ask wsX1_answer := fun w h => ⟨List.mem_cons_of_mem _ (List.mem_append_right _ (List.mem_append_right _ (List.mem_append_right _ (List.mem_append_right _ (List.mem_append_right _ (List.mem_append_right _ (List.mem_append_right _ (List.mem_append_right _ (List.mem_append_right _ (List.mem_append_right _ (List.mem_append_left _ h))))))))))), good_of_word (gdX1_answer w h)⟩
set_option maxRecDepth 20000 in
theorem gX7_ask_X1_answer : GoodIn wsX7_ask (wsV RX7 314 RX1 yX1_answer wsX1_answer) := goodIn_app (a := bkV RX7 314 RX1 yX1_answer) (fun w h => ⟨List.mem_cons_of_mem _ (List.mem_append_right _ (List.mem_append_right _ (List.mem_append_right _ (List.mem_append_left _ h)))), good_of_word (gd_bV _ _ _ _ w h)⟩) ggX7_ask_X1_answer
def tb_X7_ask_1 : List (Nat × Instr × Nat) := [(0, .aload_n 0, 1), (1, .iload_n 1, 1), (2, .invokevirtual 187, 3), (5, .ifCond .eq 12, 3), (8, .iload_n 2, 1), (9, .ifCond .lt 8, 3), (12, .iload_n 2, 1), (13, .iconst 1, 1), (14, .if_icmp .le 6, 3), (17, .ldc 59, 2), (19, .ireturn, 1), (20, .aload_n 0, 1), (21, .getfield 50, 3), (24, .iload_n 1, 1), (25, .aload_n 0, 1), (26, .getfield 25, 3), (29, .getfield 278, 3), (32, .iload_n 1, 1), (33, .iaload, 1), (34, .aload_n 0, 1), (35, .getfield 25, 3), (38, .getfield 209, 3), (41, .iload_n 1, 1), (42, .iaload, 1), (43, .aload_n 0, 1), (44, .getfield 25, 3), (47, .getfield 137, 3), (50, .getfield 212, 3), (53, .iload_n 1, 1), (54, .iaload, 1), (55, .invokevirtual 310, 3), (58, .aload_n 0, 1), (59, .getfield 50, 3), (62, .iload_n 2, 1), (63, .invokevirtual 314, 3), (66, .ireturn, 1)]
set_option maxRecDepth 100000 in
theorem tk_X7_ask_1 : (tb_X7_ask_1.all fun q => decide (decode cX7_ask q.1 = .ok q.2)) = true := by decide +kernel
theorem dX7_ask_0 : decode cX7_ask 0 = .ok (.aload_n 0, 1) := tb_d tk_X7_ask_1 0 (0, .aload_n 0, 1) rfl
theorem dX7_ask_1 : decode cX7_ask 1 = .ok (.iload_n 1, 1) := tb_d tk_X7_ask_1 1 (1, .iload_n 1, 1) rfl
theorem dX7_ask_2 : decode cX7_ask 2 = .ok (.invokevirtual 187, 3) := tb_d tk_X7_ask_1 2 (2, .invokevirtual 187, 3) rfl
theorem dX7_ask_5 : decode cX7_ask 5 = .ok (.ifCond .eq 12, 3) := tb_d tk_X7_ask_1 3 (5, .ifCond .eq 12, 3) rfl
theorem dX7_ask_8 : decode cX7_ask 8 = .ok (.iload_n 2, 1) := tb_d tk_X7_ask_1 4 (8, .iload_n 2, 1) rfl
theorem dX7_ask_9 : decode cX7_ask 9 = .ok (.ifCond .lt 8, 3) := tb_d tk_X7_ask_1 5 (9, .ifCond .lt 8, 3) rfl
theorem dX7_ask_12 : decode cX7_ask 12 = .ok (.iload_n 2, 1) := tb_d tk_X7_ask_1 6 (12, .iload_n 2, 1) rfl
theorem dX7_ask_13 : decode cX7_ask 13 = .ok (.iconst 1, 1) := tb_d tk_X7_ask_1 7 (13, .iconst 1, 1) rfl
theorem dX7_ask_14 : decode cX7_ask 14 = .ok (.if_icmp .le 6, 3) := tb_d tk_X7_ask_1 8 (14, .if_icmp .le 6, 3) rfl
theorem dX7_ask_17 : decode cX7_ask 17 = .ok (.ldc 59, 2) := tb_d tk_X7_ask_1 9 (17, .ldc 59, 2) rfl
theorem dX7_ask_19 : decode cX7_ask 19 = .ok (.ireturn, 1) := tb_d tk_X7_ask_1 10 (19, .ireturn, 1) rfl
theorem dX7_ask_20 : decode cX7_ask 20 = .ok (.aload_n 0, 1) := tb_d tk_X7_ask_1 11 (20, .aload_n 0, 1) rfl
theorem dX7_ask_21 : decode cX7_ask 21 = .ok (.getfield 50, 3) := tb_d tk_X7_ask_1 12 (21, .getfield 50, 3) rfl
theorem dX7_ask_24 : decode cX7_ask 24 = .ok (.iload_n 1, 1) := tb_d tk_X7_ask_1 13 (24, .iload_n 1, 1) rfl
theorem dX7_ask_25 : decode cX7_ask 25 = .ok (.aload_n 0, 1) := tb_d tk_X7_ask_1 14 (25, .aload_n 0, 1) rfl
theorem dX7_ask_26 : decode cX7_ask 26 = .ok (.getfield 25, 3) := tb_d tk_X7_ask_1 15 (26, .getfield 25, 3) rfl
theorem dX7_ask_29 : decode cX7_ask 29 = .ok (.getfield 278, 3) := tb_d tk_X7_ask_1 16 (29, .getfield 278, 3) rfl
theorem dX7_ask_32 : decode cX7_ask 32 = .ok (.iload_n 1, 1) := tb_d tk_X7_ask_1 17 (32, .iload_n 1, 1) rfl
theorem dX7_ask_33 : decode cX7_ask 33 = .ok (.iaload, 1) := tb_d tk_X7_ask_1 18 (33, .iaload, 1) rfl
theorem dX7_ask_34 : decode cX7_ask 34 = .ok (.aload_n 0, 1) := tb_d tk_X7_ask_1 19 (34, .aload_n 0, 1) rfl
theorem dX7_ask_35 : decode cX7_ask 35 = .ok (.getfield 25, 3) := tb_d tk_X7_ask_1 20 (35, .getfield 25, 3) rfl
theorem dX7_ask_38 : decode cX7_ask 38 = .ok (.getfield 209, 3) := tb_d tk_X7_ask_1 21 (38, .getfield 209, 3) rfl
theorem dX7_ask_41 : decode cX7_ask 41 = .ok (.iload_n 1, 1) := tb_d tk_X7_ask_1 22 (41, .iload_n 1, 1) rfl
theorem dX7_ask_42 : decode cX7_ask 42 = .ok (.iaload, 1) := tb_d tk_X7_ask_1 23 (42, .iaload, 1) rfl
theorem dX7_ask_43 : decode cX7_ask 43 = .ok (.aload_n 0, 1) := tb_d tk_X7_ask_1 24 (43, .aload_n 0, 1) rfl
theorem dX7_ask_44 : decode cX7_ask 44 = .ok (.getfield 25, 3) := tb_d tk_X7_ask_1 25 (44, .getfield 25, 3) rfl
theorem dX7_ask_47 : decode cX7_ask 47 = .ok (.getfield 137, 3) := tb_d tk_X7_ask_1 26 (47, .getfield 137, 3) rfl
theorem dX7_ask_50 : decode cX7_ask 50 = .ok (.getfield 212, 3) := tb_d tk_X7_ask_1 27 (50, .getfield 212, 3) rfl
theorem dX7_ask_53 : decode cX7_ask 53 = .ok (.iload_n 1, 1) := tb_d tk_X7_ask_1 28 (53, .iload_n 1, 1) rfl
theorem dX7_ask_54 : decode cX7_ask 54 = .ok (.iaload, 1) := tb_d tk_X7_ask_1 29 (54, .iaload, 1) rfl
theorem dX7_ask_55 : decode cX7_ask 55 = .ok (.invokevirtual 310, 3) := tb_d tk_X7_ask_1 30 (55, .invokevirtual 310, 3) rfl
theorem dX7_ask_58 : decode cX7_ask 58 = .ok (.aload_n 0, 1) := tb_d tk_X7_ask_1 31 (58, .aload_n 0, 1) rfl
theorem dX7_ask_59 : decode cX7_ask 59 = .ok (.getfield 50, 3) := tb_d tk_X7_ask_1 32 (59, .getfield 50, 3) rfl
theorem dX7_ask_62 : decode cX7_ask 62 = .ok (.iload_n 2, 1) := tb_d tk_X7_ask_1 33 (62, .iload_n 2, 1) rfl
theorem dX7_ask_63 : decode cX7_ask 63 = .ok (.invokevirtual 314, 3) := tb_d tk_X7_ask_1 34 (63, .invokevirtual 314, 3) rfl
theorem dX7_ask_66 : decode cX7_ask 66 = .ok (.ireturn, 1) := tb_d tk_X7_ask_1 35 (66, .ireturn, 1) rfl
def tb_X7_trace_1 : List (Nat × Instr × Nat) := [(0, .iload_n 1, 1), (1, .ifCond .lt 14, 3), (4, .iload_n 1, 1), (5, .aload_n 0, 1), (6, .getfield 50, 3), (9, .getfield 317, 3), (12, .if_icmp .lt 8, 3), (15, .ldc 175, 2), (17, .goto 12, 3), (20, .aload_n 0, 1), (21, .getfield 50, 3), (24, .getfield 320, 3), (27, .iload_n 1, 1), (28, .iaload, 1), (29, .ireturn, 1)]
set_option maxRecDepth 100000 in
theorem tk_X7_trace_1 : (tb_X7_trace_1.all fun q => decide (decode cX7_trace q.1 = .ok q.2)) = true := by decide +kernel
theorem dX7_trace_0 : decode cX7_trace 0 = .ok (.iload_n 1, 1) := tb_d tk_X7_trace_1 0 (0, .iload_n 1, 1) rfl
theorem dX7_trace_1 : decode cX7_trace 1 = .ok (.ifCond .lt 14, 3) := tb_d tk_X7_trace_1 1 (1, .ifCond .lt 14, 3) rfl
theorem dX7_trace_4 : decode cX7_trace 4 = .ok (.iload_n 1, 1) := tb_d tk_X7_trace_1 2 (4, .iload_n 1, 1) rfl
theorem dX7_trace_5 : decode cX7_trace 5 = .ok (.aload_n 0, 1) := tb_d tk_X7_trace_1 3 (5, .aload_n 0, 1) rfl
theorem dX7_trace_6 : decode cX7_trace 6 = .ok (.getfield 50, 3) := tb_d tk_X7_trace_1 4 (6, .getfield 50, 3) rfl
theorem dX7_trace_9 : decode cX7_trace 9 = .ok (.getfield 317, 3) := tb_d tk_X7_trace_1 5 (9, .getfield 317, 3) rfl
theorem dX7_trace_12 : decode cX7_trace 12 = .ok (.if_icmp .lt 8, 3) := tb_d tk_X7_trace_1 6 (12, .if_icmp .lt 8, 3) rfl
theorem dX7_trace_15 : decode cX7_trace 15 = .ok (.ldc 175, 2) := tb_d tk_X7_trace_1 7 (15, .ldc 175, 2) rfl
theorem dX7_trace_17 : decode cX7_trace 17 = .ok (.goto 12, 3) := tb_d tk_X7_trace_1 8 (17, .goto 12, 3) rfl
theorem dX7_trace_20 : decode cX7_trace 20 = .ok (.aload_n 0, 1) := tb_d tk_X7_trace_1 9 (20, .aload_n 0, 1) rfl
theorem dX7_trace_21 : decode cX7_trace 21 = .ok (.getfield 50, 3) := tb_d tk_X7_trace_1 10 (21, .getfield 50, 3) rfl
theorem dX7_trace_24 : decode cX7_trace 24 = .ok (.getfield 320, 3) := tb_d tk_X7_trace_1 11 (24, .getfield 320, 3) rfl
theorem dX7_trace_27 : decode cX7_trace 27 = .ok (.iload_n 1, 1) := tb_d tk_X7_trace_1 12 (27, .iload_n 1, 1) rfl
theorem dX7_trace_28 : decode cX7_trace 28 = .ok (.iaload, 1) := tb_d tk_X7_trace_1 13 (28, .iaload, 1) rfl
theorem dX7_trace_29 : decode cX7_trace 29 = .ok (.ireturn, 1) := tb_d tk_X7_trace_1 14 (29, .ireturn, 1) rfl
theorem ggX7_count_X7_rowsThere : GoodIn wsX7_count wsX7_rowsThere := fun w h => ⟨List.mem_cons_of_mem _ (List.mem_append_right _ (List.mem_append_right _ (List.mem_append_right _ (List.mem_append_right _ (List.mem_append_right _ (List.mem_append_right _ (List.mem_append_right _ (List.mem_append_right _ (List.mem_append_right _ (List.mem_append_left _ h)))))))))), good_of_word (gdX7_rowsThere w h)⟩
set_option maxRecDepth 20000 in
theorem gX7_count_X7_rowsThere : GoodIn wsX7_count (wsV RX7 323 RX7 yX7_rowsThere wsX7_rowsThere) := goodIn_app (a := bkV RX7 323 RX7 yX7_rowsThere) (fun w h => ⟨List.mem_cons_of_mem _ (List.mem_append_right _ (List.mem_append_left _ h)), good_of_word (gd_bV _ _ _ _ w h)⟩) ggX7_count_X7_rowsThere
theorem ggX7_count_X4_tookInAll : GoodIn wsX7_count wsX4_tookInAll := fun w h => ⟨List.mem_cons_of_mem _ (List.mem_append_right _ (List.mem_append_right _ (List.mem_append_right _ (List.mem_append_right _ (List.mem_append_right _ (List.mem_append_right _ (List.mem_append_right _ (List.mem_append_right _ (List.mem_append_right _ (List.mem_append_right _ (List.mem_append_left _ h))))))))))), good_of_word (gdX4_tookInAll w h)⟩
set_option maxRecDepth 20000 in
theorem gX7_count_X4_tookInAll : GoodIn wsX7_count (wsV RX7 330 RX4 yX4_tookInAll wsX4_tookInAll) := goodIn_app (a := bkV RX7 330 RX4 yX4_tookInAll) (fun w h => ⟨List.mem_cons_of_mem _ (List.mem_append_right _ (List.mem_append_right _ (List.mem_append_left _ h))), good_of_word (gd_bV _ _ _ _ w h)⟩) ggX7_count_X4_tookInAll
def tb_X7_count_1 : List (Nat × Instr × Nat) := [(0, .iload_n 1, 1), (1, .tableswitch 147 0 9 #[55, 60, 68, 76, 87, 98, 109, 117, 125, 136], 55), (56, .aload_n 0, 1), (57, .invokevirtual 323, 3), (60, .ireturn, 1), (61, .aload_n 0, 1), (62, .getfield 25, 3), (65, .getfield 130, 3), (68, .ireturn, 1), (69, .aload_n 0, 1), (70, .getfield 25, 3), (73, .getfield 327, 3), (76, .ireturn, 1), (77, .aload_n 0, 1), (78, .getfield 25, 3), (81, .getfield 137, 3), (84, .getfield 141, 3), (87, .ireturn, 1), (88, .aload_n 0, 1), (89, .getfield 25, 3), (92, .getfield 137, 3), (95, .getfield 162, 3), (98, .ireturn, 1), (99, .aload_n 0, 1), (100, .getfield 25, 3), (103, .getfield 137, 3), (106, .getfield 190, 3), (109, .ireturn, 1), (110, .aload_n 0, 1), (111, .getfield 32, 3), (114, .getfield 197, 3), (117, .ireturn, 1), (118, .aload_n 0, 1), (119, .getfield 18, 3), (122, .getfield 102, 3), (125, .ireturn, 1), (126, .aload_n 0, 1), (127, .getfield 25, 3), (130, .getfield 137, 3), (133, .getfield 184, 3)]
set_option maxRecDepth 100000 in
theorem tk_X7_count_1 : (tb_X7_count_1.all fun q => decide (decode cX7_count q.1 = .ok q.2)) = true := by decide +kernel
theorem dX7_count_0 : decode cX7_count 0 = .ok (.iload_n 1, 1) := tb_d tk_X7_count_1 0 (0, .iload_n 1, 1) rfl
theorem dX7_count_1 : decode cX7_count 1 = .ok (.tableswitch 147 0 9 #[55, 60, 68, 76, 87, 98, 109, 117, 125, 136], 55) := tb_d tk_X7_count_1 1 (1, .tableswitch 147 0 9 #[55, 60, 68, 76, 87, 98, 109, 117, 125, 136], 55) rfl
theorem dX7_count_56 : decode cX7_count 56 = .ok (.aload_n 0, 1) := tb_d tk_X7_count_1 2 (56, .aload_n 0, 1) rfl
theorem dX7_count_57 : decode cX7_count 57 = .ok (.invokevirtual 323, 3) := tb_d tk_X7_count_1 3 (57, .invokevirtual 323, 3) rfl
theorem dX7_count_60 : decode cX7_count 60 = .ok (.ireturn, 1) := tb_d tk_X7_count_1 4 (60, .ireturn, 1) rfl
theorem dX7_count_61 : decode cX7_count 61 = .ok (.aload_n 0, 1) := tb_d tk_X7_count_1 5 (61, .aload_n 0, 1) rfl
theorem dX7_count_62 : decode cX7_count 62 = .ok (.getfield 25, 3) := tb_d tk_X7_count_1 6 (62, .getfield 25, 3) rfl
theorem dX7_count_65 : decode cX7_count 65 = .ok (.getfield 130, 3) := tb_d tk_X7_count_1 7 (65, .getfield 130, 3) rfl
theorem dX7_count_68 : decode cX7_count 68 = .ok (.ireturn, 1) := tb_d tk_X7_count_1 8 (68, .ireturn, 1) rfl
theorem dX7_count_69 : decode cX7_count 69 = .ok (.aload_n 0, 1) := tb_d tk_X7_count_1 9 (69, .aload_n 0, 1) rfl
theorem dX7_count_70 : decode cX7_count 70 = .ok (.getfield 25, 3) := tb_d tk_X7_count_1 10 (70, .getfield 25, 3) rfl
theorem dX7_count_73 : decode cX7_count 73 = .ok (.getfield 327, 3) := tb_d tk_X7_count_1 11 (73, .getfield 327, 3) rfl
theorem dX7_count_76 : decode cX7_count 76 = .ok (.ireturn, 1) := tb_d tk_X7_count_1 12 (76, .ireturn, 1) rfl
theorem dX7_count_77 : decode cX7_count 77 = .ok (.aload_n 0, 1) := tb_d tk_X7_count_1 13 (77, .aload_n 0, 1) rfl
theorem dX7_count_78 : decode cX7_count 78 = .ok (.getfield 25, 3) := tb_d tk_X7_count_1 14 (78, .getfield 25, 3) rfl
theorem dX7_count_81 : decode cX7_count 81 = .ok (.getfield 137, 3) := tb_d tk_X7_count_1 15 (81, .getfield 137, 3) rfl
theorem dX7_count_84 : decode cX7_count 84 = .ok (.getfield 141, 3) := tb_d tk_X7_count_1 16 (84, .getfield 141, 3) rfl
theorem dX7_count_87 : decode cX7_count 87 = .ok (.ireturn, 1) := tb_d tk_X7_count_1 17 (87, .ireturn, 1) rfl
theorem dX7_count_88 : decode cX7_count 88 = .ok (.aload_n 0, 1) := tb_d tk_X7_count_1 18 (88, .aload_n 0, 1) rfl
theorem dX7_count_89 : decode cX7_count 89 = .ok (.getfield 25, 3) := tb_d tk_X7_count_1 19 (89, .getfield 25, 3) rfl
theorem dX7_count_92 : decode cX7_count 92 = .ok (.getfield 137, 3) := tb_d tk_X7_count_1 20 (92, .getfield 137, 3) rfl
theorem dX7_count_95 : decode cX7_count 95 = .ok (.getfield 162, 3) := tb_d tk_X7_count_1 21 (95, .getfield 162, 3) rfl
theorem dX7_count_98 : decode cX7_count 98 = .ok (.ireturn, 1) := tb_d tk_X7_count_1 22 (98, .ireturn, 1) rfl
theorem dX7_count_99 : decode cX7_count 99 = .ok (.aload_n 0, 1) := tb_d tk_X7_count_1 23 (99, .aload_n 0, 1) rfl
theorem dX7_count_100 : decode cX7_count 100 = .ok (.getfield 25, 3) := tb_d tk_X7_count_1 24 (100, .getfield 25, 3) rfl
theorem dX7_count_103 : decode cX7_count 103 = .ok (.getfield 137, 3) := tb_d tk_X7_count_1 25 (103, .getfield 137, 3) rfl
theorem dX7_count_106 : decode cX7_count 106 = .ok (.getfield 190, 3) := tb_d tk_X7_count_1 26 (106, .getfield 190, 3) rfl
theorem dX7_count_109 : decode cX7_count 109 = .ok (.ireturn, 1) := tb_d tk_X7_count_1 27 (109, .ireturn, 1) rfl
theorem dX7_count_110 : decode cX7_count 110 = .ok (.aload_n 0, 1) := tb_d tk_X7_count_1 28 (110, .aload_n 0, 1) rfl
theorem dX7_count_111 : decode cX7_count 111 = .ok (.getfield 32, 3) := tb_d tk_X7_count_1 29 (111, .getfield 32, 3) rfl
theorem dX7_count_114 : decode cX7_count 114 = .ok (.getfield 197, 3) := tb_d tk_X7_count_1 30 (114, .getfield 197, 3) rfl
theorem dX7_count_117 : decode cX7_count 117 = .ok (.ireturn, 1) := tb_d tk_X7_count_1 31 (117, .ireturn, 1) rfl
theorem dX7_count_118 : decode cX7_count 118 = .ok (.aload_n 0, 1) := tb_d tk_X7_count_1 32 (118, .aload_n 0, 1) rfl
theorem dX7_count_119 : decode cX7_count 119 = .ok (.getfield 18, 3) := tb_d tk_X7_count_1 33 (119, .getfield 18, 3) rfl
theorem dX7_count_122 : decode cX7_count 122 = .ok (.getfield 102, 3) := tb_d tk_X7_count_1 34 (122, .getfield 102, 3) rfl
theorem dX7_count_125 : decode cX7_count 125 = .ok (.ireturn, 1) := tb_d tk_X7_count_1 35 (125, .ireturn, 1) rfl
theorem dX7_count_126 : decode cX7_count 126 = .ok (.aload_n 0, 1) := tb_d tk_X7_count_1 36 (126, .aload_n 0, 1) rfl
theorem dX7_count_127 : decode cX7_count 127 = .ok (.getfield 25, 3) := tb_d tk_X7_count_1 37 (127, .getfield 25, 3) rfl
theorem dX7_count_130 : decode cX7_count 130 = .ok (.getfield 137, 3) := tb_d tk_X7_count_1 38 (130, .getfield 137, 3) rfl
theorem dX7_count_133 : decode cX7_count 133 = .ok (.getfield 184, 3) := tb_d tk_X7_count_1 39 (133, .getfield 184, 3) rfl
def tb_X7_count_2 : List (Nat × Instr × Nat) := [(136, .ireturn, 1), (137, .aload_n 0, 1), (138, .getfield 25, 3), (141, .getfield 137, 3), (144, .invokevirtual 330, 3), (147, .ireturn, 1), (148, .ldc 59, 2), (150, .ireturn, 1)]
set_option maxRecDepth 100000 in
theorem tk_X7_count_2 : (tb_X7_count_2.all fun q => decide (decode cX7_count q.1 = .ok q.2)) = true := by decide +kernel
theorem dX7_count_136 : decode cX7_count 136 = .ok (.ireturn, 1) := tb_d tk_X7_count_2 0 (136, .ireturn, 1) rfl
theorem dX7_count_137 : decode cX7_count 137 = .ok (.aload_n 0, 1) := tb_d tk_X7_count_2 1 (137, .aload_n 0, 1) rfl
theorem dX7_count_138 : decode cX7_count 138 = .ok (.getfield 25, 3) := tb_d tk_X7_count_2 2 (138, .getfield 25, 3) rfl
theorem dX7_count_141 : decode cX7_count 141 = .ok (.getfield 137, 3) := tb_d tk_X7_count_2 3 (141, .getfield 137, 3) rfl
theorem dX7_count_144 : decode cX7_count 144 = .ok (.invokevirtual 330, 3) := tb_d tk_X7_count_2 4 (144, .invokevirtual 330, 3) rfl
theorem dX7_count_147 : decode cX7_count 147 = .ok (.ireturn, 1) := tb_d tk_X7_count_2 5 (147, .ireturn, 1) rfl
theorem dX7_count_148 : decode cX7_count 148 = .ok (.ldc 59, 2) := tb_d tk_X7_count_2 6 (148, .ldc 59, 2) rfl
theorem dX7_count_150 : decode cX7_count 150 = .ok (.ireturn, 1) := tb_d tk_X7_count_2 7 (150, .ireturn, 1) rfl
def tb_X7_status_1 : List (Nat × Instr × Nat) := [(0, .aload_n 0, 1), (1, .getfield 333, 3), (4, .ireturn, 1)]
set_option maxRecDepth 100000 in
theorem tk_X7_status_1 : (tb_X7_status_1.all fun q => decide (decode cX7_status q.1 = .ok q.2)) = true := by decide +kernel
theorem dX7_status_0 : decode cX7_status 0 = .ok (.aload_n 0, 1) := tb_d tk_X7_status_1 0 (0, .aload_n 0, 1) rfl
theorem dX7_status_1 : decode cX7_status 1 = .ok (.getfield 333, 3) := tb_d tk_X7_status_1 1 (1, .getfield 333, 3) rfl
theorem dX7_status_4 : decode cX7_status 4 = .ok (.ireturn, 1) := tb_d tk_X7_status_1 2 (4, .ireturn, 1) rfl
def tb_X7_found_1 : List (Nat × Instr × Nat) := [(0, .aload_n 0, 1), (1, .iload_n 1, 1), (2, .putfield 333, 3), (5, .ldc_w 336, 3), (8, .iload_n 1, 1), (9, .isub, 1), (10, .ireturn, 1)]
set_option maxRecDepth 100000 in
theorem tk_X7_found_1 : (tb_X7_found_1.all fun q => decide (decode cX7_found q.1 = .ok q.2)) = true := by decide +kernel
theorem dX7_found_0 : decode cX7_found 0 = .ok (.aload_n 0, 1) := tb_d tk_X7_found_1 0 (0, .aload_n 0, 1) rfl
theorem dX7_found_1 : decode cX7_found 1 = .ok (.iload_n 1, 1) := tb_d tk_X7_found_1 1 (1, .iload_n 1, 1) rfl
theorem dX7_found_2 : decode cX7_found 2 = .ok (.putfield 333, 3) := tb_d tk_X7_found_1 2 (2, .putfield 333, 3) rfl
theorem dX7_found_5 : decode cX7_found 5 = .ok (.ldc_w 336, 3) := tb_d tk_X7_found_1 3 (5, .ldc_w 336, 3) rfl
theorem dX7_found_8 : decode cX7_found 8 = .ok (.iload_n 1, 1) := tb_d tk_X7_found_1 4 (8, .iload_n 1, 1) rfl
theorem dX7_found_9 : decode cX7_found 9 = .ok (.isub, 1) := tb_d tk_X7_found_1 5 (9, .isub, 1) rfl
theorem dX7_found_10 : decode cX7_found 10 = .ok (.ireturn, 1) := tb_d tk_X7_found_1 6 (10, .ireturn, 1) rfl
def tb_X7_unfound_1 : List (Nat × Instr × Nat) := [(0, .aload_n 0, 1), (1, .iconst 0, 1), (2, .putfield 333, 3), (5, .iload_n 1, 1), (6, .ireturn, 1)]
set_option maxRecDepth 100000 in
theorem tk_X7_unfound_1 : (tb_X7_unfound_1.all fun q => decide (decode cX7_unfound q.1 = .ok q.2)) = true := by decide +kernel
theorem dX7_unfound_0 : decode cX7_unfound 0 = .ok (.aload_n 0, 1) := tb_d tk_X7_unfound_1 0 (0, .aload_n 0, 1) rfl
theorem dX7_unfound_1 : decode cX7_unfound 1 = .ok (.iconst 0, 1) := tb_d tk_X7_unfound_1 1 (1, .iconst 0, 1) rfl
theorem dX7_unfound_2 : decode cX7_unfound 2 = .ok (.putfield 333, 3) := tb_d tk_X7_unfound_1 2 (2, .putfield 333, 3) rfl
theorem dX7_unfound_5 : decode cX7_unfound 5 = .ok (.iload_n 1, 1) := tb_d tk_X7_unfound_1 3 (5, .iload_n 1, 1) rfl
theorem dX7_unfound_6 : decode cX7_unfound 6 = .ok (.ireturn, 1) := tb_d tk_X7_unfound_1 4 (6, .ireturn, 1) rfl
def tb_X7_noGate_1 : List (Nat × Instr × Nat) := [(0, .aload_n 0, 1), (1, .getfield 25, 3), (4, .getfield 130, 3), (7, .ifCond .ne 7, 3), (10, .iconst 1, 1), (11, .goto 4, 3), (14, .iconst 0, 1), (15, .ireturn, 1)]
set_option maxRecDepth 100000 in
theorem tk_X7_noGate_1 : (tb_X7_noGate_1.all fun q => decide (decode cX7_noGate q.1 = .ok q.2)) = true := by decide +kernel
theorem dX7_noGate_0 : decode cX7_noGate 0 = .ok (.aload_n 0, 1) := tb_d tk_X7_noGate_1 0 (0, .aload_n 0, 1) rfl
theorem dX7_noGate_1 : decode cX7_noGate 1 = .ok (.getfield 25, 3) := tb_d tk_X7_noGate_1 1 (1, .getfield 25, 3) rfl
theorem dX7_noGate_4 : decode cX7_noGate 4 = .ok (.getfield 130, 3) := tb_d tk_X7_noGate_1 2 (4, .getfield 130, 3) rfl
theorem dX7_noGate_7 : decode cX7_noGate 7 = .ok (.ifCond .ne 7, 3) := tb_d tk_X7_noGate_1 3 (7, .ifCond .ne 7, 3) rfl
theorem dX7_noGate_10 : decode cX7_noGate 10 = .ok (.iconst 1, 1) := tb_d tk_X7_noGate_1 4 (10, .iconst 1, 1) rfl
theorem dX7_noGate_11 : decode cX7_noGate 11 = .ok (.goto 4, 3) := tb_d tk_X7_noGate_1 5 (11, .goto 4, 3) rfl
theorem dX7_noGate_14 : decode cX7_noGate 14 = .ok (.iconst 0, 1) := tb_d tk_X7_noGate_1 6 (14, .iconst 0, 1) rfl
theorem dX7_noGate_15 : decode cX7_noGate 15 = .ok (.ireturn, 1) := tb_d tk_X7_noGate_1 7 (15, .ireturn, 1) rfl
def tb_X7_isRow_1 : List (Nat × Instr × Nat) := [(0, .iload_n 1, 1), (1, .ifCond .lt 13, 3), (4, .iload_n 1, 1), (5, .bipush 8, 2), (7, .if_icmp .ge 7, 3), (10, .iconst 1, 1), (11, .goto 4, 3), (14, .iconst 0, 1), (15, .ireturn, 1)]
set_option maxRecDepth 100000 in
theorem tk_X7_isRow_1 : (tb_X7_isRow_1.all fun q => decide (decode cX7_isRow q.1 = .ok q.2)) = true := by decide +kernel
theorem dX7_isRow_0 : decode cX7_isRow 0 = .ok (.iload_n 1, 1) := tb_d tk_X7_isRow_1 0 (0, .iload_n 1, 1) rfl
theorem dX7_isRow_1 : decode cX7_isRow 1 = .ok (.ifCond .lt 13, 3) := tb_d tk_X7_isRow_1 1 (1, .ifCond .lt 13, 3) rfl
theorem dX7_isRow_4 : decode cX7_isRow 4 = .ok (.iload_n 1, 1) := tb_d tk_X7_isRow_1 2 (4, .iload_n 1, 1) rfl
theorem dX7_isRow_5 : decode cX7_isRow 5 = .ok (.bipush 8, 2) := tb_d tk_X7_isRow_1 3 (5, .bipush 8, 2) rfl
theorem dX7_isRow_7 : decode cX7_isRow 7 = .ok (.if_icmp .ge 7, 3) := tb_d tk_X7_isRow_1 4 (7, .if_icmp .ge 7, 3) rfl
theorem dX7_isRow_10 : decode cX7_isRow 10 = .ok (.iconst 1, 1) := tb_d tk_X7_isRow_1 5 (10, .iconst 1, 1) rfl
theorem dX7_isRow_11 : decode cX7_isRow 11 = .ok (.goto 4, 3) := tb_d tk_X7_isRow_1 6 (11, .goto 4, 3) rfl
theorem dX7_isRow_14 : decode cX7_isRow 14 = .ok (.iconst 0, 1) := tb_d tk_X7_isRow_1 7 (14, .iconst 0, 1) rfl
theorem dX7_isRow_15 : decode cX7_isRow 15 = .ok (.ireturn, 1) := tb_d tk_X7_isRow_1 8 (15, .ireturn, 1) rfl
def tb_X7_isWord_1 : List (Nat × Instr × Nat) := [(0, .iload_n 1, 1), (1, .ifCond .lt 18, 3), (4, .iload_n 1, 1), (5, .aload_n 0, 1), (6, .getfield 25, 3), (9, .getfield 130, 3), (12, .if_icmp .ge 7, 3), (15, .iconst 1, 1), (16, .goto 4, 3), (19, .iconst 0, 1), (20, .ireturn, 1)]
set_option maxRecDepth 100000 in
theorem tk_X7_isWord_1 : (tb_X7_isWord_1.all fun q => decide (decode cX7_isWord q.1 = .ok q.2)) = true := by decide +kernel
theorem dX7_isWord_0 : decode cX7_isWord 0 = .ok (.iload_n 1, 1) := tb_d tk_X7_isWord_1 0 (0, .iload_n 1, 1) rfl
theorem dX7_isWord_1 : decode cX7_isWord 1 = .ok (.ifCond .lt 18, 3) := tb_d tk_X7_isWord_1 1 (1, .ifCond .lt 18, 3) rfl
theorem dX7_isWord_4 : decode cX7_isWord 4 = .ok (.iload_n 1, 1) := tb_d tk_X7_isWord_1 2 (4, .iload_n 1, 1) rfl
theorem dX7_isWord_5 : decode cX7_isWord 5 = .ok (.aload_n 0, 1) := tb_d tk_X7_isWord_1 3 (5, .aload_n 0, 1) rfl
theorem dX7_isWord_6 : decode cX7_isWord 6 = .ok (.getfield 25, 3) := tb_d tk_X7_isWord_1 4 (6, .getfield 25, 3) rfl
theorem dX7_isWord_9 : decode cX7_isWord 9 = .ok (.getfield 130, 3) := tb_d tk_X7_isWord_1 5 (9, .getfield 130, 3) rfl
theorem dX7_isWord_12 : decode cX7_isWord 12 = .ok (.if_icmp .ge 7, 3) := tb_d tk_X7_isWord_1 6 (12, .if_icmp .ge 7, 3) rfl
theorem dX7_isWord_15 : decode cX7_isWord 15 = .ok (.iconst 1, 1) := tb_d tk_X7_isWord_1 7 (15, .iconst 1, 1) rfl
theorem dX7_isWord_16 : decode cX7_isWord 16 = .ok (.goto 4, 3) := tb_d tk_X7_isWord_1 8 (16, .goto 4, 3) rfl
theorem dX7_isWord_19 : decode cX7_isWord 19 = .ok (.iconst 0, 1) := tb_d tk_X7_isWord_1 9 (19, .iconst 0, 1) rfl
theorem dX7_isWord_20 : decode cX7_isWord 20 = .ok (.ireturn, 1) := tb_d tk_X7_isWord_1 10 (20, .ireturn, 1) rfl
def tb_X7_areWords_1 : List (Nat × Instr × Nat) := [(0, .iload_n 1, 1), (1, .ifCond .lt 20, 3), (4, .iload_n 1, 1), (5, .iconst 1, 1), (6, .aload_n 0, 1), (7, .getfield 25, 3), (10, .getfield 130, 3), (13, .ishl, 1), (14, .if_icmp .ge 7, 3), (17, .iconst 1, 1), (18, .goto 4, 3), (21, .iconst 0, 1), (22, .ireturn, 1)]
set_option maxRecDepth 100000 in
theorem tk_X7_areWords_1 : (tb_X7_areWords_1.all fun q => decide (decode cX7_areWords q.1 = .ok q.2)) = true := by decide +kernel
theorem dX7_areWords_0 : decode cX7_areWords 0 = .ok (.iload_n 1, 1) := tb_d tk_X7_areWords_1 0 (0, .iload_n 1, 1) rfl
theorem dX7_areWords_1 : decode cX7_areWords 1 = .ok (.ifCond .lt 20, 3) := tb_d tk_X7_areWords_1 1 (1, .ifCond .lt 20, 3) rfl
theorem dX7_areWords_4 : decode cX7_areWords 4 = .ok (.iload_n 1, 1) := tb_d tk_X7_areWords_1 2 (4, .iload_n 1, 1) rfl
theorem dX7_areWords_5 : decode cX7_areWords 5 = .ok (.iconst 1, 1) := tb_d tk_X7_areWords_1 3 (5, .iconst 1, 1) rfl
theorem dX7_areWords_6 : decode cX7_areWords 6 = .ok (.aload_n 0, 1) := tb_d tk_X7_areWords_1 4 (6, .aload_n 0, 1) rfl
theorem dX7_areWords_7 : decode cX7_areWords 7 = .ok (.getfield 25, 3) := tb_d tk_X7_areWords_1 5 (7, .getfield 25, 3) rfl
theorem dX7_areWords_10 : decode cX7_areWords 10 = .ok (.getfield 130, 3) := tb_d tk_X7_areWords_1 6 (10, .getfield 130, 3) rfl
theorem dX7_areWords_13 : decode cX7_areWords 13 = .ok (.ishl, 1) := tb_d tk_X7_areWords_1 7 (13, .ishl, 1) rfl
theorem dX7_areWords_14 : decode cX7_areWords 14 = .ok (.if_icmp .ge 7, 3) := tb_d tk_X7_areWords_1 8 (14, .if_icmp .ge 7, 3) rfl
theorem dX7_areWords_17 : decode cX7_areWords 17 = .ok (.iconst 1, 1) := tb_d tk_X7_areWords_1 9 (17, .iconst 1, 1) rfl
theorem dX7_areWords_18 : decode cX7_areWords 18 = .ok (.goto 4, 3) := tb_d tk_X7_areWords_1 10 (18, .goto 4, 3) rfl
theorem dX7_areWords_21 : decode cX7_areWords 21 = .ok (.iconst 0, 1) := tb_d tk_X7_areWords_1 11 (21, .iconst 0, 1) rfl
theorem dX7_areWords_22 : decode cX7_areWords 22 = .ok (.ireturn, 1) := tb_d tk_X7_areWords_1 12 (22, .ireturn, 1) rfl
def tb_X7_isGuard_1 : List (Nat × Instr × Nat) := [(0, .iload_n 1, 1), (1, .ifCond .lt 18, 3), (4, .iload_n 1, 1), (5, .aload_n 0, 1), (6, .getfield 25, 3), (9, .getfield 327, 3), (12, .if_icmp .ge 7, 3), (15, .iconst 1, 1), (16, .goto 4, 3), (19, .iconst 0, 1), (20, .ireturn, 1)]
set_option maxRecDepth 100000 in
theorem tk_X7_isGuard_1 : (tb_X7_isGuard_1.all fun q => decide (decode cX7_isGuard q.1 = .ok q.2)) = true := by decide +kernel
theorem dX7_isGuard_0 : decode cX7_isGuard 0 = .ok (.iload_n 1, 1) := tb_d tk_X7_isGuard_1 0 (0, .iload_n 1, 1) rfl
theorem dX7_isGuard_1 : decode cX7_isGuard 1 = .ok (.ifCond .lt 18, 3) := tb_d tk_X7_isGuard_1 1 (1, .ifCond .lt 18, 3) rfl
theorem dX7_isGuard_4 : decode cX7_isGuard 4 = .ok (.iload_n 1, 1) := tb_d tk_X7_isGuard_1 2 (4, .iload_n 1, 1) rfl
theorem dX7_isGuard_5 : decode cX7_isGuard 5 = .ok (.aload_n 0, 1) := tb_d tk_X7_isGuard_1 3 (5, .aload_n 0, 1) rfl
theorem dX7_isGuard_6 : decode cX7_isGuard 6 = .ok (.getfield 25, 3) := tb_d tk_X7_isGuard_1 4 (6, .getfield 25, 3) rfl
theorem dX7_isGuard_9 : decode cX7_isGuard 9 = .ok (.getfield 327, 3) := tb_d tk_X7_isGuard_1 5 (9, .getfield 327, 3) rfl
theorem dX7_isGuard_12 : decode cX7_isGuard 12 = .ok (.if_icmp .ge 7, 3) := tb_d tk_X7_isGuard_1 6 (12, .if_icmp .ge 7, 3) rfl
theorem dX7_isGuard_15 : decode cX7_isGuard 15 = .ok (.iconst 1, 1) := tb_d tk_X7_isGuard_1 7 (15, .iconst 1, 1) rfl
theorem dX7_isGuard_16 : decode cX7_isGuard 16 = .ok (.goto 4, 3) := tb_d tk_X7_isGuard_1 8 (16, .goto 4, 3) rfl
theorem dX7_isGuard_19 : decode cX7_isGuard 19 = .ok (.iconst 0, 1) := tb_d tk_X7_isGuard_1 9 (19, .iconst 0, 1) rfl
theorem dX7_isGuard_20 : decode cX7_isGuard 20 = .ok (.ireturn, 1) := tb_d tk_X7_isGuard_1 10 (20, .ireturn, 1) rfl
def tb_X7_isHour_1 : List (Nat × Instr × Nat) := [(0, .iload_n 1, 1), (1, .ifCond .lt 13, 3), (4, .iload_n 1, 1), (5, .bipush 6, 2), (7, .if_icmp .ge 7, 3), (10, .iconst 1, 1), (11, .goto 4, 3), (14, .iconst 0, 1), (15, .ireturn, 1)]
set_option maxRecDepth 100000 in
theorem tk_X7_isHour_1 : (tb_X7_isHour_1.all fun q => decide (decode cX7_isHour q.1 = .ok q.2)) = true := by decide +kernel
theorem dX7_isHour_0 : decode cX7_isHour 0 = .ok (.iload_n 1, 1) := tb_d tk_X7_isHour_1 0 (0, .iload_n 1, 1) rfl
theorem dX7_isHour_1 : decode cX7_isHour 1 = .ok (.ifCond .lt 13, 3) := tb_d tk_X7_isHour_1 1 (1, .ifCond .lt 13, 3) rfl
theorem dX7_isHour_4 : decode cX7_isHour 4 = .ok (.iload_n 1, 1) := tb_d tk_X7_isHour_1 2 (4, .iload_n 1, 1) rfl
theorem dX7_isHour_5 : decode cX7_isHour 5 = .ok (.bipush 6, 2) := tb_d tk_X7_isHour_1 3 (5, .bipush 6, 2) rfl
theorem dX7_isHour_7 : decode cX7_isHour 7 = .ok (.if_icmp .ge 7, 3) := tb_d tk_X7_isHour_1 4 (7, .if_icmp .ge 7, 3) rfl
theorem dX7_isHour_10 : decode cX7_isHour 10 = .ok (.iconst 1, 1) := tb_d tk_X7_isHour_1 5 (10, .iconst 1, 1) rfl
theorem dX7_isHour_11 : decode cX7_isHour 11 = .ok (.goto 4, 3) := tb_d tk_X7_isHour_1 6 (11, .goto 4, 3) rfl
theorem dX7_isHour_14 : decode cX7_isHour 14 = .ok (.iconst 0, 1) := tb_d tk_X7_isHour_1 7 (14, .iconst 0, 1) rfl
theorem dX7_isHour_15 : decode cX7_isHour 15 = .ok (.ireturn, 1) := tb_d tk_X7_isHour_1 8 (15, .ireturn, 1) rfl
def tb_X7_isAhead_1 : List (Nat × Instr × Nat) := [(0, .iload_n 1, 1), (1, .ifCond .lt 13, 3), (4, .iload_n 1, 1), (5, .bipush 60, 2), (7, .if_icmp .gt 7, 3), (10, .iconst 1, 1), (11, .goto 4, 3), (14, .iconst 0, 1), (15, .ireturn, 1)]
set_option maxRecDepth 100000 in
theorem tk_X7_isAhead_1 : (tb_X7_isAhead_1.all fun q => decide (decode cX7_isAhead q.1 = .ok q.2)) = true := by decide +kernel
theorem dX7_isAhead_0 : decode cX7_isAhead 0 = .ok (.iload_n 1, 1) := tb_d tk_X7_isAhead_1 0 (0, .iload_n 1, 1) rfl
theorem dX7_isAhead_1 : decode cX7_isAhead 1 = .ok (.ifCond .lt 13, 3) := tb_d tk_X7_isAhead_1 1 (1, .ifCond .lt 13, 3) rfl
theorem dX7_isAhead_4 : decode cX7_isAhead 4 = .ok (.iload_n 1, 1) := tb_d tk_X7_isAhead_1 2 (4, .iload_n 1, 1) rfl
theorem dX7_isAhead_5 : decode cX7_isAhead 5 = .ok (.bipush 60, 2) := tb_d tk_X7_isAhead_1 3 (5, .bipush 60, 2) rfl
theorem dX7_isAhead_7 : decode cX7_isAhead 7 = .ok (.if_icmp .gt 7, 3) := tb_d tk_X7_isAhead_1 4 (7, .if_icmp .gt 7, 3) rfl
theorem dX7_isAhead_10 : decode cX7_isAhead 10 = .ok (.iconst 1, 1) := tb_d tk_X7_isAhead_1 5 (10, .iconst 1, 1) rfl
theorem dX7_isAhead_11 : decode cX7_isAhead 11 = .ok (.goto 4, 3) := tb_d tk_X7_isAhead_1 6 (11, .goto 4, 3) rfl
theorem dX7_isAhead_14 : decode cX7_isAhead 14 = .ok (.iconst 0, 1) := tb_d tk_X7_isAhead_1 7 (14, .iconst 0, 1) rfl
theorem dX7_isAhead_15 : decode cX7_isAhead 15 = .ok (.ireturn, 1) := tb_d tk_X7_isAhead_1 8 (15, .ireturn, 1) rfl
def tb_X7_rowsThere_1 : List (Nat × Instr × Nat) := [(0, .iconst 0, 1), (1, .istore_n 1, 1), (2, .iconst 0, 1), (3, .istore_n 2, 1), (4, .iload_n 2, 1), (5, .bipush 8, 2), (7, .if_icmp .ge 25, 3), (10, .aload_n 0, 1), (11, .getfield 11, 3), (14, .iload_n 2, 1), (15, .aaload, 1), (16, .getfield 78, 3), (19, .iconst (-1), 1), (20, .if_icmp .eq 6, 3), (23, .iinc 1 1, 3), (26, .iinc 2 1, 3), (29, .goto (-25), 3), (32, .iload_n 1, 1), (33, .ireturn, 1)]
set_option maxRecDepth 100000 in
theorem tk_X7_rowsThere_1 : (tb_X7_rowsThere_1.all fun q => decide (decode cX7_rowsThere q.1 = .ok q.2)) = true := by decide +kernel
theorem dX7_rowsThere_0 : decode cX7_rowsThere 0 = .ok (.iconst 0, 1) := tb_d tk_X7_rowsThere_1 0 (0, .iconst 0, 1) rfl
theorem dX7_rowsThere_1 : decode cX7_rowsThere 1 = .ok (.istore_n 1, 1) := tb_d tk_X7_rowsThere_1 1 (1, .istore_n 1, 1) rfl
theorem dX7_rowsThere_2 : decode cX7_rowsThere 2 = .ok (.iconst 0, 1) := tb_d tk_X7_rowsThere_1 2 (2, .iconst 0, 1) rfl
theorem dX7_rowsThere_3 : decode cX7_rowsThere 3 = .ok (.istore_n 2, 1) := tb_d tk_X7_rowsThere_1 3 (3, .istore_n 2, 1) rfl
theorem dX7_rowsThere_4 : decode cX7_rowsThere 4 = .ok (.iload_n 2, 1) := tb_d tk_X7_rowsThere_1 4 (4, .iload_n 2, 1) rfl
theorem dX7_rowsThere_5 : decode cX7_rowsThere 5 = .ok (.bipush 8, 2) := tb_d tk_X7_rowsThere_1 5 (5, .bipush 8, 2) rfl
theorem dX7_rowsThere_7 : decode cX7_rowsThere 7 = .ok (.if_icmp .ge 25, 3) := tb_d tk_X7_rowsThere_1 6 (7, .if_icmp .ge 25, 3) rfl
theorem dX7_rowsThere_10 : decode cX7_rowsThere 10 = .ok (.aload_n 0, 1) := tb_d tk_X7_rowsThere_1 7 (10, .aload_n 0, 1) rfl
theorem dX7_rowsThere_11 : decode cX7_rowsThere 11 = .ok (.getfield 11, 3) := tb_d tk_X7_rowsThere_1 8 (11, .getfield 11, 3) rfl
theorem dX7_rowsThere_14 : decode cX7_rowsThere 14 = .ok (.iload_n 2, 1) := tb_d tk_X7_rowsThere_1 9 (14, .iload_n 2, 1) rfl
theorem dX7_rowsThere_15 : decode cX7_rowsThere 15 = .ok (.aaload, 1) := tb_d tk_X7_rowsThere_1 10 (15, .aaload, 1) rfl
theorem dX7_rowsThere_16 : decode cX7_rowsThere 16 = .ok (.getfield 78, 3) := tb_d tk_X7_rowsThere_1 11 (16, .getfield 78, 3) rfl
theorem dX7_rowsThere_19 : decode cX7_rowsThere 19 = .ok (.iconst (-1), 1) := tb_d tk_X7_rowsThere_1 12 (19, .iconst (-1), 1) rfl
theorem dX7_rowsThere_20 : decode cX7_rowsThere 20 = .ok (.if_icmp .eq 6, 3) := tb_d tk_X7_rowsThere_1 13 (20, .if_icmp .eq 6, 3) rfl
theorem dX7_rowsThere_23 : decode cX7_rowsThere 23 = .ok (.iinc 1 1, 3) := tb_d tk_X7_rowsThere_1 14 (23, .iinc 1 1, 3) rfl
theorem dX7_rowsThere_26 : decode cX7_rowsThere 26 = .ok (.iinc 2 1, 3) := tb_d tk_X7_rowsThere_1 15 (26, .iinc 2 1, 3) rfl
theorem dX7_rowsThere_29 : decode cX7_rowsThere 29 = .ok (.goto (-25), 3) := tb_d tk_X7_rowsThere_1 16 (29, .goto (-25), 3) rfl
theorem dX7_rowsThere_32 : decode cX7_rowsThere 32 = .ok (.iload_n 1, 1) := tb_d tk_X7_rowsThere_1 17 (32, .iload_n 1, 1) rfl
theorem dX7_rowsThere_33 : decode cX7_rowsThere 33 = .ok (.ireturn, 1) := tb_d tk_X7_rowsThere_1 18 (33, .ireturn, 1) rfl
theorem ggX7_hourOfLast_X7_isWord : GoodIn wsX7_hourOfLast wsX7_isWord := fun w h => ⟨List.mem_cons_of_mem _ (List.mem_append_right _ (List.mem_append_right _ (List.mem_append_right _ (List.mem_append_right _ (List.mem_append_right _ (List.mem_append_right _ (List.mem_append_right _ (List.mem_append_left _ h)))))))), good_of_word (gdX7_isWord w h)⟩
set_option maxRecDepth 20000 in
theorem gX7_hourOfLast_X7_isWord : GoodIn wsX7_hourOfLast (wsV RX7 156 RX7 yX7_isWord wsX7_isWord) := goodIn_app (a := bkV RX7 156 RX7 yX7_isWord) (fun w h => ⟨List.mem_cons_of_mem _ (List.mem_append_right _ (List.mem_append_left _ h)), good_of_word (gd_bV _ _ _ _ w h)⟩) ggX7_hourOfLast_X7_isWord
theorem ggX7_hourOfLast_X2_hourIn : GoodIn wsX7_hourOfLast wsX2_hourIn := fun w h => ⟨List.mem_cons_of_mem _ (List.mem_append_right _ (List.mem_append_right _ (List.mem_append_right _ (List.mem_append_right _ (List.mem_append_right _ (List.mem_append_right _ (List.mem_append_right _ (List.mem_append_right _ (List.mem_append_left _ h))))))))), good_of_word (gdX2_hourIn w h)⟩
set_option maxRecDepth 20000 in
theorem gX7_hourOfLast_X2_hourIn : GoodIn wsX7_hourOfLast (wsV RX7 337 RX2 yX2_hourIn wsX2_hourIn) := goodIn_app (a := bkV RX7 337 RX2 yX2_hourIn) (fun w h => ⟨List.mem_cons_of_mem _ (List.mem_append_right _ (List.mem_append_right _ (List.mem_append_left _ h))), good_of_word (gd_bV _ _ _ _ w h)⟩) ggX7_hourOfLast_X2_hourIn
def tb_X7_hourOfLast_1 : List (Nat × Instr × Nat) := [(0, .iconst (-1), 1), (1, .istore 4, 2), (3, .iconst 0, 1), (4, .istore 5, 2), (6, .iload 5, 2), (8, .iload_n 3, 1), (9, .if_icmp .ge 59, 3), (12, .aload_n 1, 1), (13, .getfield 86, 3), (16, .iload_n 2, 1), (17, .iload 5, 2), (19, .iadd, 1), (20, .iaload, 1), (21, .istore 6, 2), (23, .aload_n 0, 1), (24, .iload 6, 2), (26, .invokevirtual 156, 3), (29, .ifCond .eq 19, 3), (32, .aload_n 0, 1), (33, .getfield 25, 3), (36, .iload 6, 2), (38, .iload 4, 2), (40, .iconst 1, 1), (41, .iadd, 1), (42, .invokevirtual 337, 3), (45, .goto 5, 3), (48, .ldc 175, 2), (50, .istore 4, 2), (52, .iload 4, 2), (54, .ldc 175, 2), (56, .if_icmp .ne 6, 3), (59, .ldc 175, 2), (61, .ireturn, 1), (62, .iinc 5 1, 3), (65, .goto (-59), 3), (68, .iload 4, 2), (70, .ireturn, 1)]
set_option maxRecDepth 100000 in
theorem tk_X7_hourOfLast_1 : (tb_X7_hourOfLast_1.all fun q => decide (decode cX7_hourOfLast q.1 = .ok q.2)) = true := by decide +kernel
theorem dX7_hourOfLast_0 : decode cX7_hourOfLast 0 = .ok (.iconst (-1), 1) := tb_d tk_X7_hourOfLast_1 0 (0, .iconst (-1), 1) rfl
theorem dX7_hourOfLast_1 : decode cX7_hourOfLast 1 = .ok (.istore 4, 2) := tb_d tk_X7_hourOfLast_1 1 (1, .istore 4, 2) rfl
theorem dX7_hourOfLast_3 : decode cX7_hourOfLast 3 = .ok (.iconst 0, 1) := tb_d tk_X7_hourOfLast_1 2 (3, .iconst 0, 1) rfl
theorem dX7_hourOfLast_4 : decode cX7_hourOfLast 4 = .ok (.istore 5, 2) := tb_d tk_X7_hourOfLast_1 3 (4, .istore 5, 2) rfl
theorem dX7_hourOfLast_6 : decode cX7_hourOfLast 6 = .ok (.iload 5, 2) := tb_d tk_X7_hourOfLast_1 4 (6, .iload 5, 2) rfl
theorem dX7_hourOfLast_8 : decode cX7_hourOfLast 8 = .ok (.iload_n 3, 1) := tb_d tk_X7_hourOfLast_1 5 (8, .iload_n 3, 1) rfl
theorem dX7_hourOfLast_9 : decode cX7_hourOfLast 9 = .ok (.if_icmp .ge 59, 3) := tb_d tk_X7_hourOfLast_1 6 (9, .if_icmp .ge 59, 3) rfl
theorem dX7_hourOfLast_12 : decode cX7_hourOfLast 12 = .ok (.aload_n 1, 1) := tb_d tk_X7_hourOfLast_1 7 (12, .aload_n 1, 1) rfl
theorem dX7_hourOfLast_13 : decode cX7_hourOfLast 13 = .ok (.getfield 86, 3) := tb_d tk_X7_hourOfLast_1 8 (13, .getfield 86, 3) rfl
theorem dX7_hourOfLast_16 : decode cX7_hourOfLast 16 = .ok (.iload_n 2, 1) := tb_d tk_X7_hourOfLast_1 9 (16, .iload_n 2, 1) rfl
theorem dX7_hourOfLast_17 : decode cX7_hourOfLast 17 = .ok (.iload 5, 2) := tb_d tk_X7_hourOfLast_1 10 (17, .iload 5, 2) rfl
theorem dX7_hourOfLast_19 : decode cX7_hourOfLast 19 = .ok (.iadd, 1) := tb_d tk_X7_hourOfLast_1 11 (19, .iadd, 1) rfl
theorem dX7_hourOfLast_20 : decode cX7_hourOfLast 20 = .ok (.iaload, 1) := tb_d tk_X7_hourOfLast_1 12 (20, .iaload, 1) rfl
theorem dX7_hourOfLast_21 : decode cX7_hourOfLast 21 = .ok (.istore 6, 2) := tb_d tk_X7_hourOfLast_1 13 (21, .istore 6, 2) rfl
theorem dX7_hourOfLast_23 : decode cX7_hourOfLast 23 = .ok (.aload_n 0, 1) := tb_d tk_X7_hourOfLast_1 14 (23, .aload_n 0, 1) rfl
theorem dX7_hourOfLast_24 : decode cX7_hourOfLast 24 = .ok (.iload 6, 2) := tb_d tk_X7_hourOfLast_1 15 (24, .iload 6, 2) rfl
theorem dX7_hourOfLast_26 : decode cX7_hourOfLast 26 = .ok (.invokevirtual 156, 3) := tb_d tk_X7_hourOfLast_1 16 (26, .invokevirtual 156, 3) rfl
theorem dX7_hourOfLast_29 : decode cX7_hourOfLast 29 = .ok (.ifCond .eq 19, 3) := tb_d tk_X7_hourOfLast_1 17 (29, .ifCond .eq 19, 3) rfl
theorem dX7_hourOfLast_32 : decode cX7_hourOfLast 32 = .ok (.aload_n 0, 1) := tb_d tk_X7_hourOfLast_1 18 (32, .aload_n 0, 1) rfl
theorem dX7_hourOfLast_33 : decode cX7_hourOfLast 33 = .ok (.getfield 25, 3) := tb_d tk_X7_hourOfLast_1 19 (33, .getfield 25, 3) rfl
theorem dX7_hourOfLast_36 : decode cX7_hourOfLast 36 = .ok (.iload 6, 2) := tb_d tk_X7_hourOfLast_1 20 (36, .iload 6, 2) rfl
theorem dX7_hourOfLast_38 : decode cX7_hourOfLast 38 = .ok (.iload 4, 2) := tb_d tk_X7_hourOfLast_1 21 (38, .iload 4, 2) rfl
theorem dX7_hourOfLast_40 : decode cX7_hourOfLast 40 = .ok (.iconst 1, 1) := tb_d tk_X7_hourOfLast_1 22 (40, .iconst 1, 1) rfl
theorem dX7_hourOfLast_41 : decode cX7_hourOfLast 41 = .ok (.iadd, 1) := tb_d tk_X7_hourOfLast_1 23 (41, .iadd, 1) rfl
theorem dX7_hourOfLast_42 : decode cX7_hourOfLast 42 = .ok (.invokevirtual 337, 3) := tb_d tk_X7_hourOfLast_1 24 (42, .invokevirtual 337, 3) rfl
theorem dX7_hourOfLast_45 : decode cX7_hourOfLast 45 = .ok (.goto 5, 3) := tb_d tk_X7_hourOfLast_1 25 (45, .goto 5, 3) rfl
theorem dX7_hourOfLast_48 : decode cX7_hourOfLast 48 = .ok (.ldc 175, 2) := tb_d tk_X7_hourOfLast_1 26 (48, .ldc 175, 2) rfl
theorem dX7_hourOfLast_50 : decode cX7_hourOfLast 50 = .ok (.istore 4, 2) := tb_d tk_X7_hourOfLast_1 27 (50, .istore 4, 2) rfl
theorem dX7_hourOfLast_52 : decode cX7_hourOfLast 52 = .ok (.iload 4, 2) := tb_d tk_X7_hourOfLast_1 28 (52, .iload 4, 2) rfl
theorem dX7_hourOfLast_54 : decode cX7_hourOfLast 54 = .ok (.ldc 175, 2) := tb_d tk_X7_hourOfLast_1 29 (54, .ldc 175, 2) rfl
theorem dX7_hourOfLast_56 : decode cX7_hourOfLast 56 = .ok (.if_icmp .ne 6, 3) := tb_d tk_X7_hourOfLast_1 30 (56, .if_icmp .ne 6, 3) rfl
theorem dX7_hourOfLast_59 : decode cX7_hourOfLast 59 = .ok (.ldc 175, 2) := tb_d tk_X7_hourOfLast_1 31 (59, .ldc 175, 2) rfl
theorem dX7_hourOfLast_61 : decode cX7_hourOfLast 61 = .ok (.ireturn, 1) := tb_d tk_X7_hourOfLast_1 32 (61, .ireturn, 1) rfl
theorem dX7_hourOfLast_62 : decode cX7_hourOfLast 62 = .ok (.iinc 5 1, 3) := tb_d tk_X7_hourOfLast_1 33 (62, .iinc 5 1, 3) rfl
theorem dX7_hourOfLast_65 : decode cX7_hourOfLast 65 = .ok (.goto (-59), 3) := tb_d tk_X7_hourOfLast_1 34 (65, .goto (-59), 3) rfl
theorem dX7_hourOfLast_68 : decode cX7_hourOfLast 68 = .ok (.iload 4, 2) := tb_d tk_X7_hourOfLast_1 35 (68, .iload 4, 2) rfl
theorem dX7_hourOfLast_70 : decode cX7_hourOfLast 70 = .ok (.ireturn, 1) := tb_d tk_X7_hourOfLast_1 36 (70, .ireturn, 1) rfl
theorem ggX7_rulesThatTell_X2_secretBy : GoodIn wsX7_rulesThatTell wsX2_secretBy := fun w h => ⟨List.mem_cons_of_mem _ (List.mem_append_right _ (List.mem_append_right _ (List.mem_append_right _ (List.mem_append_right _ (List.mem_append_right _ (List.mem_append_right _ (List.mem_append_right _ (List.mem_append_left _ h)))))))), good_of_word (gdX2_secretBy w h)⟩
set_option maxRecDepth 20000 in
theorem gX7_rulesThatTell_X2_secretBy : GoodIn wsX7_rulesThatTell (wsV RX7 346 RX2 yX2_secretBy wsX2_secretBy) := goodIn_app (a := bkV RX7 346 RX2 yX2_secretBy) (fun w h => ⟨List.mem_cons_of_mem _ (List.mem_append_right _ (List.mem_append_left _ h)), good_of_word (gd_bV _ _ _ _ w h)⟩) ggX7_rulesThatTell_X2_secretBy
theorem ggX7_rulesThatTell_X7_bit : GoodIn wsX7_rulesThatTell wsX7_bit := fun w h => ⟨List.mem_cons_of_mem _ (List.mem_append_right _ (List.mem_append_right _ (List.mem_append_right _ (List.mem_append_right _ (List.mem_append_right _ (List.mem_append_right _ (List.mem_append_right _ (List.mem_append_right _ (List.mem_append_left _ h))))))))), good_of_word (gdX7_bit w h)⟩
set_option maxRecDepth 20000 in
theorem gX7_rulesThatTell_X7_bit : GoodIn wsX7_rulesThatTell (va_wsS RX7 180 yX7_bit wsX7_bit) := goodIn_app (a := bkS RX7 180 yX7_bit) (fun w h => ⟨List.mem_cons_of_mem _ (List.mem_append_right _ (List.mem_append_right _ (List.mem_append_left _ h))), good_of_word (gd_bS _ _ _ w h)⟩) ggX7_rulesThatTell_X7_bit
def tb_X7_rulesThatTell_1 : List (Nat × Instr × Nat) := [(0, .iload 4, 2), (2, .iconst 2, 1), (3, .if_icmp .ne 8, 3), (6, .bipush 6, 2), (8, .goto 16, 3), (11, .iload 4, 2), (13, .iconst 1, 1), (14, .if_icmp .ne 8, 3), (17, .bipush 9, 2), (19, .goto 5, 3), (22, .bipush 9, 2), (24, .istore 5, 2), (26, .iconst 0, 1), (27, .istore 6, 2), (29, .iconst 0, 1), (30, .istore 7, 2), (32, .iload 7, 2), (34, .iload 5, 2), (36, .if_icmp .gt 152, 3), (39, .iload 4, 2), (41, .ifCond .ne 8, 3), (44, .iload 7, 2), (46, .goto 13, 3), (49, .aload_n 0, 1), (50, .getfield 25, 3), (53, .getfield 137, 3), (56, .getfield 184, 3), (59, .istore 8, 2), (61, .iload 4, 2), (63, .iconst 1, 1), (64, .if_icmp .ne 8, 3), (67, .iload 7, 2), (69, .goto 10, 3), (72, .aload_n 0, 1), (73, .getfield 25, 3), (76, .getfield 340, 3), (79, .istore 9, 2), (81, .iload 4, 2), (83, .iconst 2, 1), (84, .if_icmp .ne 8, 3)]
set_option maxRecDepth 100000 in
theorem tk_X7_rulesThatTell_1 : (tb_X7_rulesThatTell_1.all fun q => decide (decode cX7_rulesThatTell q.1 = .ok q.2)) = true := by decide +kernel
theorem dX7_rulesThatTell_0 : decode cX7_rulesThatTell 0 = .ok (.iload 4, 2) := tb_d tk_X7_rulesThatTell_1 0 (0, .iload 4, 2) rfl
theorem dX7_rulesThatTell_2 : decode cX7_rulesThatTell 2 = .ok (.iconst 2, 1) := tb_d tk_X7_rulesThatTell_1 1 (2, .iconst 2, 1) rfl
theorem dX7_rulesThatTell_3 : decode cX7_rulesThatTell 3 = .ok (.if_icmp .ne 8, 3) := tb_d tk_X7_rulesThatTell_1 2 (3, .if_icmp .ne 8, 3) rfl
theorem dX7_rulesThatTell_6 : decode cX7_rulesThatTell 6 = .ok (.bipush 6, 2) := tb_d tk_X7_rulesThatTell_1 3 (6, .bipush 6, 2) rfl
theorem dX7_rulesThatTell_8 : decode cX7_rulesThatTell 8 = .ok (.goto 16, 3) := tb_d tk_X7_rulesThatTell_1 4 (8, .goto 16, 3) rfl
theorem dX7_rulesThatTell_11 : decode cX7_rulesThatTell 11 = .ok (.iload 4, 2) := tb_d tk_X7_rulesThatTell_1 5 (11, .iload 4, 2) rfl
theorem dX7_rulesThatTell_13 : decode cX7_rulesThatTell 13 = .ok (.iconst 1, 1) := tb_d tk_X7_rulesThatTell_1 6 (13, .iconst 1, 1) rfl
theorem dX7_rulesThatTell_14 : decode cX7_rulesThatTell 14 = .ok (.if_icmp .ne 8, 3) := tb_d tk_X7_rulesThatTell_1 7 (14, .if_icmp .ne 8, 3) rfl
theorem dX7_rulesThatTell_17 : decode cX7_rulesThatTell 17 = .ok (.bipush 9, 2) := tb_d tk_X7_rulesThatTell_1 8 (17, .bipush 9, 2) rfl
theorem dX7_rulesThatTell_19 : decode cX7_rulesThatTell 19 = .ok (.goto 5, 3) := tb_d tk_X7_rulesThatTell_1 9 (19, .goto 5, 3) rfl
theorem dX7_rulesThatTell_22 : decode cX7_rulesThatTell 22 = .ok (.bipush 9, 2) := tb_d tk_X7_rulesThatTell_1 10 (22, .bipush 9, 2) rfl
theorem dX7_rulesThatTell_24 : decode cX7_rulesThatTell 24 = .ok (.istore 5, 2) := tb_d tk_X7_rulesThatTell_1 11 (24, .istore 5, 2) rfl
theorem dX7_rulesThatTell_26 : decode cX7_rulesThatTell 26 = .ok (.iconst 0, 1) := tb_d tk_X7_rulesThatTell_1 12 (26, .iconst 0, 1) rfl
theorem dX7_rulesThatTell_27 : decode cX7_rulesThatTell 27 = .ok (.istore 6, 2) := tb_d tk_X7_rulesThatTell_1 13 (27, .istore 6, 2) rfl
theorem dX7_rulesThatTell_29 : decode cX7_rulesThatTell 29 = .ok (.iconst 0, 1) := tb_d tk_X7_rulesThatTell_1 14 (29, .iconst 0, 1) rfl
theorem dX7_rulesThatTell_30 : decode cX7_rulesThatTell 30 = .ok (.istore 7, 2) := tb_d tk_X7_rulesThatTell_1 15 (30, .istore 7, 2) rfl
theorem dX7_rulesThatTell_32 : decode cX7_rulesThatTell 32 = .ok (.iload 7, 2) := tb_d tk_X7_rulesThatTell_1 16 (32, .iload 7, 2) rfl
theorem dX7_rulesThatTell_34 : decode cX7_rulesThatTell 34 = .ok (.iload 5, 2) := tb_d tk_X7_rulesThatTell_1 17 (34, .iload 5, 2) rfl
theorem dX7_rulesThatTell_36 : decode cX7_rulesThatTell 36 = .ok (.if_icmp .gt 152, 3) := tb_d tk_X7_rulesThatTell_1 18 (36, .if_icmp .gt 152, 3) rfl
theorem dX7_rulesThatTell_39 : decode cX7_rulesThatTell 39 = .ok (.iload 4, 2) := tb_d tk_X7_rulesThatTell_1 19 (39, .iload 4, 2) rfl
theorem dX7_rulesThatTell_41 : decode cX7_rulesThatTell 41 = .ok (.ifCond .ne 8, 3) := tb_d tk_X7_rulesThatTell_1 20 (41, .ifCond .ne 8, 3) rfl
theorem dX7_rulesThatTell_44 : decode cX7_rulesThatTell 44 = .ok (.iload 7, 2) := tb_d tk_X7_rulesThatTell_1 21 (44, .iload 7, 2) rfl
theorem dX7_rulesThatTell_46 : decode cX7_rulesThatTell 46 = .ok (.goto 13, 3) := tb_d tk_X7_rulesThatTell_1 22 (46, .goto 13, 3) rfl
theorem dX7_rulesThatTell_49 : decode cX7_rulesThatTell 49 = .ok (.aload_n 0, 1) := tb_d tk_X7_rulesThatTell_1 23 (49, .aload_n 0, 1) rfl
theorem dX7_rulesThatTell_50 : decode cX7_rulesThatTell 50 = .ok (.getfield 25, 3) := tb_d tk_X7_rulesThatTell_1 24 (50, .getfield 25, 3) rfl
theorem dX7_rulesThatTell_53 : decode cX7_rulesThatTell 53 = .ok (.getfield 137, 3) := tb_d tk_X7_rulesThatTell_1 25 (53, .getfield 137, 3) rfl
theorem dX7_rulesThatTell_56 : decode cX7_rulesThatTell 56 = .ok (.getfield 184, 3) := tb_d tk_X7_rulesThatTell_1 26 (56, .getfield 184, 3) rfl
theorem dX7_rulesThatTell_59 : decode cX7_rulesThatTell 59 = .ok (.istore 8, 2) := tb_d tk_X7_rulesThatTell_1 27 (59, .istore 8, 2) rfl
theorem dX7_rulesThatTell_61 : decode cX7_rulesThatTell 61 = .ok (.iload 4, 2) := tb_d tk_X7_rulesThatTell_1 28 (61, .iload 4, 2) rfl
theorem dX7_rulesThatTell_63 : decode cX7_rulesThatTell 63 = .ok (.iconst 1, 1) := tb_d tk_X7_rulesThatTell_1 29 (63, .iconst 1, 1) rfl
theorem dX7_rulesThatTell_64 : decode cX7_rulesThatTell 64 = .ok (.if_icmp .ne 8, 3) := tb_d tk_X7_rulesThatTell_1 30 (64, .if_icmp .ne 8, 3) rfl
theorem dX7_rulesThatTell_67 : decode cX7_rulesThatTell 67 = .ok (.iload 7, 2) := tb_d tk_X7_rulesThatTell_1 31 (67, .iload 7, 2) rfl
theorem dX7_rulesThatTell_69 : decode cX7_rulesThatTell 69 = .ok (.goto 10, 3) := tb_d tk_X7_rulesThatTell_1 32 (69, .goto 10, 3) rfl
theorem dX7_rulesThatTell_72 : decode cX7_rulesThatTell 72 = .ok (.aload_n 0, 1) := tb_d tk_X7_rulesThatTell_1 33 (72, .aload_n 0, 1) rfl
theorem dX7_rulesThatTell_73 : decode cX7_rulesThatTell 73 = .ok (.getfield 25, 3) := tb_d tk_X7_rulesThatTell_1 34 (73, .getfield 25, 3) rfl
theorem dX7_rulesThatTell_76 : decode cX7_rulesThatTell 76 = .ok (.getfield 340, 3) := tb_d tk_X7_rulesThatTell_1 35 (76, .getfield 340, 3) rfl
theorem dX7_rulesThatTell_79 : decode cX7_rulesThatTell 79 = .ok (.istore 9, 2) := tb_d tk_X7_rulesThatTell_1 36 (79, .istore 9, 2) rfl
theorem dX7_rulesThatTell_81 : decode cX7_rulesThatTell 81 = .ok (.iload 4, 2) := tb_d tk_X7_rulesThatTell_1 37 (81, .iload 4, 2) rfl
theorem dX7_rulesThatTell_83 : decode cX7_rulesThatTell 83 = .ok (.iconst 2, 1) := tb_d tk_X7_rulesThatTell_1 38 (83, .iconst 2, 1) rfl
theorem dX7_rulesThatTell_84 : decode cX7_rulesThatTell 84 = .ok (.if_icmp .ne 8, 3) := tb_d tk_X7_rulesThatTell_1 39 (84, .if_icmp .ne 8, 3) rfl
def tb_X7_rulesThatTell_2 : List (Nat × Instr × Nat) := [(87, .iload 7, 2), (89, .goto 10, 3), (92, .aload_n 0, 1), (93, .getfield 25, 3), (96, .getfield 343, 3), (99, .istore 10, 2), (101, .iconst 1, 1), (102, .istore 11, 2), (104, .iconst 0, 1), (105, .istore 12, 2), (107, .iload 12, 2), (109, .iload_n 3, 1), (110, .if_icmp .ge 59, 3), (113, .iload 11, 2), (115, .ifCond .eq 54, 3), (118, .aload_n 0, 1), (119, .getfield 25, 3), (122, .iload 8, 2), (124, .iload 9, 2), (126, .iload 10, 2), (128, .aload_n 0, 1), (129, .getfield 25, 3), (132, .getfield 137, 3), (135, .getfield 141, 3), (138, .iload 12, 2), (140, .iadd, 1), (141, .invokevirtual 346, 3), (144, .aload_n 1, 1), (145, .getfield 86, 3), (148, .iload_n 2, 1), (149, .iload 12, 2), (151, .iadd, 1), (152, .iaload, 1), (153, .if_icmp .ne 7, 3), (156, .iconst 1, 1), (157, .goto 4, 3), (160, .iconst 0, 1), (161, .istore 11, 2), (163, .iinc 12 1, 3), (166, .goto (-59), 3)]
set_option maxRecDepth 100000 in
theorem tk_X7_rulesThatTell_2 : (tb_X7_rulesThatTell_2.all fun q => decide (decode cX7_rulesThatTell q.1 = .ok q.2)) = true := by decide +kernel
theorem dX7_rulesThatTell_87 : decode cX7_rulesThatTell 87 = .ok (.iload 7, 2) := tb_d tk_X7_rulesThatTell_2 0 (87, .iload 7, 2) rfl
theorem dX7_rulesThatTell_89 : decode cX7_rulesThatTell 89 = .ok (.goto 10, 3) := tb_d tk_X7_rulesThatTell_2 1 (89, .goto 10, 3) rfl
theorem dX7_rulesThatTell_92 : decode cX7_rulesThatTell 92 = .ok (.aload_n 0, 1) := tb_d tk_X7_rulesThatTell_2 2 (92, .aload_n 0, 1) rfl
theorem dX7_rulesThatTell_93 : decode cX7_rulesThatTell 93 = .ok (.getfield 25, 3) := tb_d tk_X7_rulesThatTell_2 3 (93, .getfield 25, 3) rfl
theorem dX7_rulesThatTell_96 : decode cX7_rulesThatTell 96 = .ok (.getfield 343, 3) := tb_d tk_X7_rulesThatTell_2 4 (96, .getfield 343, 3) rfl
theorem dX7_rulesThatTell_99 : decode cX7_rulesThatTell 99 = .ok (.istore 10, 2) := tb_d tk_X7_rulesThatTell_2 5 (99, .istore 10, 2) rfl
theorem dX7_rulesThatTell_101 : decode cX7_rulesThatTell 101 = .ok (.iconst 1, 1) := tb_d tk_X7_rulesThatTell_2 6 (101, .iconst 1, 1) rfl
theorem dX7_rulesThatTell_102 : decode cX7_rulesThatTell 102 = .ok (.istore 11, 2) := tb_d tk_X7_rulesThatTell_2 7 (102, .istore 11, 2) rfl
theorem dX7_rulesThatTell_104 : decode cX7_rulesThatTell 104 = .ok (.iconst 0, 1) := tb_d tk_X7_rulesThatTell_2 8 (104, .iconst 0, 1) rfl
theorem dX7_rulesThatTell_105 : decode cX7_rulesThatTell 105 = .ok (.istore 12, 2) := tb_d tk_X7_rulesThatTell_2 9 (105, .istore 12, 2) rfl
theorem dX7_rulesThatTell_107 : decode cX7_rulesThatTell 107 = .ok (.iload 12, 2) := tb_d tk_X7_rulesThatTell_2 10 (107, .iload 12, 2) rfl
theorem dX7_rulesThatTell_109 : decode cX7_rulesThatTell 109 = .ok (.iload_n 3, 1) := tb_d tk_X7_rulesThatTell_2 11 (109, .iload_n 3, 1) rfl
theorem dX7_rulesThatTell_110 : decode cX7_rulesThatTell 110 = .ok (.if_icmp .ge 59, 3) := tb_d tk_X7_rulesThatTell_2 12 (110, .if_icmp .ge 59, 3) rfl
theorem dX7_rulesThatTell_113 : decode cX7_rulesThatTell 113 = .ok (.iload 11, 2) := tb_d tk_X7_rulesThatTell_2 13 (113, .iload 11, 2) rfl
theorem dX7_rulesThatTell_115 : decode cX7_rulesThatTell 115 = .ok (.ifCond .eq 54, 3) := tb_d tk_X7_rulesThatTell_2 14 (115, .ifCond .eq 54, 3) rfl
theorem dX7_rulesThatTell_118 : decode cX7_rulesThatTell 118 = .ok (.aload_n 0, 1) := tb_d tk_X7_rulesThatTell_2 15 (118, .aload_n 0, 1) rfl
theorem dX7_rulesThatTell_119 : decode cX7_rulesThatTell 119 = .ok (.getfield 25, 3) := tb_d tk_X7_rulesThatTell_2 16 (119, .getfield 25, 3) rfl
theorem dX7_rulesThatTell_122 : decode cX7_rulesThatTell 122 = .ok (.iload 8, 2) := tb_d tk_X7_rulesThatTell_2 17 (122, .iload 8, 2) rfl
theorem dX7_rulesThatTell_124 : decode cX7_rulesThatTell 124 = .ok (.iload 9, 2) := tb_d tk_X7_rulesThatTell_2 18 (124, .iload 9, 2) rfl
theorem dX7_rulesThatTell_126 : decode cX7_rulesThatTell 126 = .ok (.iload 10, 2) := tb_d tk_X7_rulesThatTell_2 19 (126, .iload 10, 2) rfl
theorem dX7_rulesThatTell_128 : decode cX7_rulesThatTell 128 = .ok (.aload_n 0, 1) := tb_d tk_X7_rulesThatTell_2 20 (128, .aload_n 0, 1) rfl
theorem dX7_rulesThatTell_129 : decode cX7_rulesThatTell 129 = .ok (.getfield 25, 3) := tb_d tk_X7_rulesThatTell_2 21 (129, .getfield 25, 3) rfl
theorem dX7_rulesThatTell_132 : decode cX7_rulesThatTell 132 = .ok (.getfield 137, 3) := tb_d tk_X7_rulesThatTell_2 22 (132, .getfield 137, 3) rfl
theorem dX7_rulesThatTell_135 : decode cX7_rulesThatTell 135 = .ok (.getfield 141, 3) := tb_d tk_X7_rulesThatTell_2 23 (135, .getfield 141, 3) rfl
theorem dX7_rulesThatTell_138 : decode cX7_rulesThatTell 138 = .ok (.iload 12, 2) := tb_d tk_X7_rulesThatTell_2 24 (138, .iload 12, 2) rfl
theorem dX7_rulesThatTell_140 : decode cX7_rulesThatTell 140 = .ok (.iadd, 1) := tb_d tk_X7_rulesThatTell_2 25 (140, .iadd, 1) rfl
theorem dX7_rulesThatTell_141 : decode cX7_rulesThatTell 141 = .ok (.invokevirtual 346, 3) := tb_d tk_X7_rulesThatTell_2 26 (141, .invokevirtual 346, 3) rfl
theorem dX7_rulesThatTell_144 : decode cX7_rulesThatTell 144 = .ok (.aload_n 1, 1) := tb_d tk_X7_rulesThatTell_2 27 (144, .aload_n 1, 1) rfl
theorem dX7_rulesThatTell_145 : decode cX7_rulesThatTell 145 = .ok (.getfield 86, 3) := tb_d tk_X7_rulesThatTell_2 28 (145, .getfield 86, 3) rfl
theorem dX7_rulesThatTell_148 : decode cX7_rulesThatTell 148 = .ok (.iload_n 2, 1) := tb_d tk_X7_rulesThatTell_2 29 (148, .iload_n 2, 1) rfl
theorem dX7_rulesThatTell_149 : decode cX7_rulesThatTell 149 = .ok (.iload 12, 2) := tb_d tk_X7_rulesThatTell_2 30 (149, .iload 12, 2) rfl
theorem dX7_rulesThatTell_151 : decode cX7_rulesThatTell 151 = .ok (.iadd, 1) := tb_d tk_X7_rulesThatTell_2 31 (151, .iadd, 1) rfl
theorem dX7_rulesThatTell_152 : decode cX7_rulesThatTell 152 = .ok (.iaload, 1) := tb_d tk_X7_rulesThatTell_2 32 (152, .iaload, 1) rfl
theorem dX7_rulesThatTell_153 : decode cX7_rulesThatTell 153 = .ok (.if_icmp .ne 7, 3) := tb_d tk_X7_rulesThatTell_2 33 (153, .if_icmp .ne 7, 3) rfl
theorem dX7_rulesThatTell_156 : decode cX7_rulesThatTell 156 = .ok (.iconst 1, 1) := tb_d tk_X7_rulesThatTell_2 34 (156, .iconst 1, 1) rfl
theorem dX7_rulesThatTell_157 : decode cX7_rulesThatTell 157 = .ok (.goto 4, 3) := tb_d tk_X7_rulesThatTell_2 35 (157, .goto 4, 3) rfl
theorem dX7_rulesThatTell_160 : decode cX7_rulesThatTell 160 = .ok (.iconst 0, 1) := tb_d tk_X7_rulesThatTell_2 36 (160, .iconst 0, 1) rfl
theorem dX7_rulesThatTell_161 : decode cX7_rulesThatTell 161 = .ok (.istore 11, 2) := tb_d tk_X7_rulesThatTell_2 37 (161, .istore 11, 2) rfl
theorem dX7_rulesThatTell_163 : decode cX7_rulesThatTell 163 = .ok (.iinc 12 1, 3) := tb_d tk_X7_rulesThatTell_2 38 (163, .iinc 12 1, 3) rfl
theorem dX7_rulesThatTell_166 : decode cX7_rulesThatTell 166 = .ok (.goto (-59), 3) := tb_d tk_X7_rulesThatTell_2 39 (166, .goto (-59), 3) rfl
def tb_X7_rulesThatTell_3 : List (Nat × Instr × Nat) := [(169, .iload 6, 2), (171, .iload 11, 2), (173, .invokestatic 180, 3), (176, .iload 7, 2), (178, .ishl, 1), (179, .ior, 1), (180, .istore 6, 2), (182, .iinc 7 1, 3), (185, .goto (-153), 3), (188, .iload 6, 2), (190, .ireturn, 1)]
set_option maxRecDepth 100000 in
theorem tk_X7_rulesThatTell_3 : (tb_X7_rulesThatTell_3.all fun q => decide (decode cX7_rulesThatTell q.1 = .ok q.2)) = true := by decide +kernel
theorem dX7_rulesThatTell_169 : decode cX7_rulesThatTell 169 = .ok (.iload 6, 2) := tb_d tk_X7_rulesThatTell_3 0 (169, .iload 6, 2) rfl
theorem dX7_rulesThatTell_171 : decode cX7_rulesThatTell 171 = .ok (.iload 11, 2) := tb_d tk_X7_rulesThatTell_3 1 (171, .iload 11, 2) rfl
theorem dX7_rulesThatTell_173 : decode cX7_rulesThatTell 173 = .ok (.invokestatic 180, 3) := tb_d tk_X7_rulesThatTell_3 2 (173, .invokestatic 180, 3) rfl
theorem dX7_rulesThatTell_176 : decode cX7_rulesThatTell 176 = .ok (.iload 7, 2) := tb_d tk_X7_rulesThatTell_3 3 (176, .iload 7, 2) rfl
theorem dX7_rulesThatTell_178 : decode cX7_rulesThatTell 178 = .ok (.ishl, 1) := tb_d tk_X7_rulesThatTell_3 4 (178, .ishl, 1) rfl
theorem dX7_rulesThatTell_179 : decode cX7_rulesThatTell 179 = .ok (.ior, 1) := tb_d tk_X7_rulesThatTell_3 5 (179, .ior, 1) rfl
theorem dX7_rulesThatTell_180 : decode cX7_rulesThatTell 180 = .ok (.istore 6, 2) := tb_d tk_X7_rulesThatTell_3 6 (180, .istore 6, 2) rfl
theorem dX7_rulesThatTell_182 : decode cX7_rulesThatTell 182 = .ok (.iinc 7 1, 3) := tb_d tk_X7_rulesThatTell_3 7 (182, .iinc 7 1, 3) rfl
theorem dX7_rulesThatTell_185 : decode cX7_rulesThatTell 185 = .ok (.goto (-153), 3) := tb_d tk_X7_rulesThatTell_3 8 (185, .goto (-153), 3) rfl
theorem dX7_rulesThatTell_188 : decode cX7_rulesThatTell 188 = .ok (.iload 6, 2) := tb_d tk_X7_rulesThatTell_3 9 (188, .iload 6, 2) rfl
theorem dX7_rulesThatTell_190 : decode cX7_rulesThatTell 190 = .ok (.ireturn, 1) := tb_d tk_X7_rulesThatTell_3 10 (190, .ireturn, 1) rfl
theorem ggX7_kindsThatFit_X2_secretIn : GoodIn wsX7_kindsThatFit wsX2_secretIn := fun w h => ⟨List.mem_cons_of_mem _ (List.mem_append_right _ (List.mem_append_right _ (List.mem_append_right _ (List.mem_append_right _ (List.mem_append_right _ (List.mem_append_right _ (List.mem_append_right _ (List.mem_append_right _ (List.mem_append_left _ h))))))))), good_of_word (gdX2_secretIn w h)⟩
set_option maxRecDepth 20000 in
theorem gX7_kindsThatFit_X2_secretIn : GoodIn wsX7_kindsThatFit (wsV RX7 153 RX2 yX2_secretIn wsX2_secretIn) := goodIn_app (a := bkV RX7 153 RX2 yX2_secretIn) (fun w h => ⟨List.mem_cons_of_mem _ (List.mem_append_right _ (List.mem_append_left _ h)), good_of_word (gd_bV _ _ _ _ w h)⟩) ggX7_kindsThatFit_X2_secretIn
theorem ggX7_kindsThatFit_X7_fitsTold : GoodIn wsX7_kindsThatFit wsX7_fitsTold := fun w h => ⟨List.mem_cons_of_mem _ (List.mem_append_right _ (List.mem_append_right _ (List.mem_append_right _ (List.mem_append_right _ (List.mem_append_right _ (List.mem_append_right _ (List.mem_append_right _ (List.mem_append_right _ (List.mem_append_right _ (List.mem_append_left _ h)))))))))), good_of_word (gdX7_fitsTold w h)⟩
set_option maxRecDepth 20000 in
theorem gX7_kindsThatFit_X7_fitsTold : GoodIn wsX7_kindsThatFit (wsV RX7 350 RX7 yX7_fitsTold wsX7_fitsTold) := goodIn_app (a := bkV RX7 350 RX7 yX7_fitsTold) (fun w h => ⟨List.mem_cons_of_mem _ (List.mem_append_right _ (List.mem_append_right _ (List.mem_append_left _ h))), good_of_word (gd_bV _ _ _ _ w h)⟩) ggX7_kindsThatFit_X7_fitsTold
theorem ggX7_kindsThatFit_X7_bit : GoodIn wsX7_kindsThatFit wsX7_bit := fun w h => ⟨List.mem_cons_of_mem _ (List.mem_append_right _ (List.mem_append_right _ (List.mem_append_right _ (List.mem_append_right _ (List.mem_append_right _ (List.mem_append_right _ (List.mem_append_right _ (List.mem_append_right _ (List.mem_append_right _ (List.mem_append_right _ (List.mem_append_left _ h))))))))))), good_of_word (gdX7_bit w h)⟩
set_option maxRecDepth 20000 in
theorem gX7_kindsThatFit_X7_bit : GoodIn wsX7_kindsThatFit (va_wsS RX7 180 yX7_bit wsX7_bit) := goodIn_app (a := bkS RX7 180 yX7_bit) (fun w h => ⟨List.mem_cons_of_mem _ (List.mem_append_right _ (List.mem_append_right _ (List.mem_append_right _ (List.mem_append_left _ h)))), good_of_word (gd_bS _ _ _ w h)⟩) ggX7_kindsThatFit_X7_bit
def tb_X7_kindsThatFit_1 : List (Nat × Instr × Nat) := [(0, .aload_n 0, 1), (1, .getfield 25, 3), (4, .iconst 0, 1), (5, .invokevirtual 153, 3), (8, .istore_n 3, 1), (9, .iconst 0, 1), (10, .istore 4, 2), (12, .iconst 1, 1), (13, .istore 5, 2), (15, .iload 5, 2), (17, .iconst 5, 1), (18, .if_icmp .gt 29, 3), (21, .iload 4, 2), (23, .aload_n 0, 1), (24, .iload 5, 2), (26, .iload_n 3, 1), (27, .aload_n 1, 1), (28, .iload_n 2, 1), (29, .invokevirtual 350, 3), (32, .invokestatic 180, 3), (35, .iload 5, 2), (37, .ishl, 1), (38, .ior, 1), (39, .istore 4, 2), (41, .iinc 5 1, 3), (44, .goto (-29), 3), (47, .iload 4, 2), (49, .ireturn, 1)]
set_option maxRecDepth 100000 in
theorem tk_X7_kindsThatFit_1 : (tb_X7_kindsThatFit_1.all fun q => decide (decode cX7_kindsThatFit q.1 = .ok q.2)) = true := by decide +kernel
theorem dX7_kindsThatFit_0 : decode cX7_kindsThatFit 0 = .ok (.aload_n 0, 1) := tb_d tk_X7_kindsThatFit_1 0 (0, .aload_n 0, 1) rfl
theorem dX7_kindsThatFit_1 : decode cX7_kindsThatFit 1 = .ok (.getfield 25, 3) := tb_d tk_X7_kindsThatFit_1 1 (1, .getfield 25, 3) rfl
theorem dX7_kindsThatFit_4 : decode cX7_kindsThatFit 4 = .ok (.iconst 0, 1) := tb_d tk_X7_kindsThatFit_1 2 (4, .iconst 0, 1) rfl
theorem dX7_kindsThatFit_5 : decode cX7_kindsThatFit 5 = .ok (.invokevirtual 153, 3) := tb_d tk_X7_kindsThatFit_1 3 (5, .invokevirtual 153, 3) rfl
theorem dX7_kindsThatFit_8 : decode cX7_kindsThatFit 8 = .ok (.istore_n 3, 1) := tb_d tk_X7_kindsThatFit_1 4 (8, .istore_n 3, 1) rfl
theorem dX7_kindsThatFit_9 : decode cX7_kindsThatFit 9 = .ok (.iconst 0, 1) := tb_d tk_X7_kindsThatFit_1 5 (9, .iconst 0, 1) rfl
theorem dX7_kindsThatFit_10 : decode cX7_kindsThatFit 10 = .ok (.istore 4, 2) := tb_d tk_X7_kindsThatFit_1 6 (10, .istore 4, 2) rfl
theorem dX7_kindsThatFit_12 : decode cX7_kindsThatFit 12 = .ok (.iconst 1, 1) := tb_d tk_X7_kindsThatFit_1 7 (12, .iconst 1, 1) rfl
theorem dX7_kindsThatFit_13 : decode cX7_kindsThatFit 13 = .ok (.istore 5, 2) := tb_d tk_X7_kindsThatFit_1 8 (13, .istore 5, 2) rfl
theorem dX7_kindsThatFit_15 : decode cX7_kindsThatFit 15 = .ok (.iload 5, 2) := tb_d tk_X7_kindsThatFit_1 9 (15, .iload 5, 2) rfl
theorem dX7_kindsThatFit_17 : decode cX7_kindsThatFit 17 = .ok (.iconst 5, 1) := tb_d tk_X7_kindsThatFit_1 10 (17, .iconst 5, 1) rfl
theorem dX7_kindsThatFit_18 : decode cX7_kindsThatFit 18 = .ok (.if_icmp .gt 29, 3) := tb_d tk_X7_kindsThatFit_1 11 (18, .if_icmp .gt 29, 3) rfl
theorem dX7_kindsThatFit_21 : decode cX7_kindsThatFit 21 = .ok (.iload 4, 2) := tb_d tk_X7_kindsThatFit_1 12 (21, .iload 4, 2) rfl
theorem dX7_kindsThatFit_23 : decode cX7_kindsThatFit 23 = .ok (.aload_n 0, 1) := tb_d tk_X7_kindsThatFit_1 13 (23, .aload_n 0, 1) rfl
theorem dX7_kindsThatFit_24 : decode cX7_kindsThatFit 24 = .ok (.iload 5, 2) := tb_d tk_X7_kindsThatFit_1 14 (24, .iload 5, 2) rfl
theorem dX7_kindsThatFit_26 : decode cX7_kindsThatFit 26 = .ok (.iload_n 3, 1) := tb_d tk_X7_kindsThatFit_1 15 (26, .iload_n 3, 1) rfl
theorem dX7_kindsThatFit_27 : decode cX7_kindsThatFit 27 = .ok (.aload_n 1, 1) := tb_d tk_X7_kindsThatFit_1 16 (27, .aload_n 1, 1) rfl
theorem dX7_kindsThatFit_28 : decode cX7_kindsThatFit 28 = .ok (.iload_n 2, 1) := tb_d tk_X7_kindsThatFit_1 17 (28, .iload_n 2, 1) rfl
theorem dX7_kindsThatFit_29 : decode cX7_kindsThatFit 29 = .ok (.invokevirtual 350, 3) := tb_d tk_X7_kindsThatFit_1 18 (29, .invokevirtual 350, 3) rfl
theorem dX7_kindsThatFit_32 : decode cX7_kindsThatFit 32 = .ok (.invokestatic 180, 3) := tb_d tk_X7_kindsThatFit_1 19 (32, .invokestatic 180, 3) rfl
theorem dX7_kindsThatFit_35 : decode cX7_kindsThatFit 35 = .ok (.iload 5, 2) := tb_d tk_X7_kindsThatFit_1 20 (35, .iload 5, 2) rfl
theorem dX7_kindsThatFit_37 : decode cX7_kindsThatFit 37 = .ok (.ishl, 1) := tb_d tk_X7_kindsThatFit_1 21 (37, .ishl, 1) rfl
theorem dX7_kindsThatFit_38 : decode cX7_kindsThatFit 38 = .ok (.ior, 1) := tb_d tk_X7_kindsThatFit_1 22 (38, .ior, 1) rfl
theorem dX7_kindsThatFit_39 : decode cX7_kindsThatFit 39 = .ok (.istore 4, 2) := tb_d tk_X7_kindsThatFit_1 23 (39, .istore 4, 2) rfl
theorem dX7_kindsThatFit_41 : decode cX7_kindsThatFit 41 = .ok (.iinc 5 1, 3) := tb_d tk_X7_kindsThatFit_1 24 (41, .iinc 5 1, 3) rfl
theorem dX7_kindsThatFit_44 : decode cX7_kindsThatFit 44 = .ok (.goto (-29), 3) := tb_d tk_X7_kindsThatFit_1 25 (44, .goto (-29), 3) rfl
theorem dX7_kindsThatFit_47 : decode cX7_kindsThatFit 47 = .ok (.iload 4, 2) := tb_d tk_X7_kindsThatFit_1 26 (47, .iload 4, 2) rfl
theorem dX7_kindsThatFit_49 : decode cX7_kindsThatFit 49 = .ok (.ireturn, 1) := tb_d tk_X7_kindsThatFit_1 27 (49, .ireturn, 1) rfl
theorem ggX7_secretsThatFit_X7_fitsTold : GoodIn wsX7_secretsThatFit wsX7_fitsTold := fun w h => ⟨List.mem_cons_of_mem _ (List.mem_append_right _ (List.mem_append_right _ (List.mem_append_right _ (List.mem_append_right _ (List.mem_append_right _ (List.mem_append_right _ (List.mem_append_right _ (List.mem_append_left _ h)))))))), good_of_word (gdX7_fitsTold w h)⟩
set_option maxRecDepth 20000 in
theorem gX7_secretsThatFit_X7_fitsTold : GoodIn wsX7_secretsThatFit (wsV RX7 350 RX7 yX7_fitsTold wsX7_fitsTold) := goodIn_app (a := bkV RX7 350 RX7 yX7_fitsTold) (fun w h => ⟨List.mem_cons_of_mem _ (List.mem_append_right _ (List.mem_append_left _ h)), good_of_word (gd_bV _ _ _ _ w h)⟩) ggX7_secretsThatFit_X7_fitsTold
theorem ggX7_secretsThatFit_X7_bit : GoodIn wsX7_secretsThatFit wsX7_bit := fun w h => ⟨List.mem_cons_of_mem _ (List.mem_append_right _ (List.mem_append_right _ (List.mem_append_right _ (List.mem_append_right _ (List.mem_append_right _ (List.mem_append_right _ (List.mem_append_right _ (List.mem_append_right _ (List.mem_append_left _ h))))))))), good_of_word (gdX7_bit w h)⟩
set_option maxRecDepth 20000 in
theorem gX7_secretsThatFit_X7_bit : GoodIn wsX7_secretsThatFit (va_wsS RX7 180 yX7_bit wsX7_bit) := goodIn_app (a := bkS RX7 180 yX7_bit) (fun w h => ⟨List.mem_cons_of_mem _ (List.mem_append_right _ (List.mem_append_right _ (List.mem_append_left _ h))), good_of_word (gd_bS _ _ _ w h)⟩) ggX7_secretsThatFit_X7_bit
def tb_X7_secretsThatFit_1 : List (Nat × Instr × Nat) := [(0, .iconst 0, 1), (1, .istore 4, 2), (3, .iconst 0, 1), (4, .istore 5, 2), (6, .iload 5, 2), (8, .aload_n 0, 1), (9, .getfield 25, 3), (12, .getfield 130, 3), (15, .if_icmp .ge 29, 3), (18, .iload 4, 2), (20, .aload_n 0, 1), (21, .iload_n 1, 1), (22, .iload 5, 2), (24, .aload_n 2, 1), (25, .iload_n 3, 1), (26, .invokevirtual 350, 3), (29, .invokestatic 180, 3), (32, .iload 5, 2), (34, .ishl, 1), (35, .ior, 1), (36, .istore 4, 2), (38, .iinc 5 1, 3), (41, .goto (-35), 3), (44, .iload 4, 2), (46, .ireturn, 1)]
set_option maxRecDepth 100000 in
theorem tk_X7_secretsThatFit_1 : (tb_X7_secretsThatFit_1.all fun q => decide (decode cX7_secretsThatFit q.1 = .ok q.2)) = true := by decide +kernel
theorem dX7_secretsThatFit_0 : decode cX7_secretsThatFit 0 = .ok (.iconst 0, 1) := tb_d tk_X7_secretsThatFit_1 0 (0, .iconst 0, 1) rfl
theorem dX7_secretsThatFit_1 : decode cX7_secretsThatFit 1 = .ok (.istore 4, 2) := tb_d tk_X7_secretsThatFit_1 1 (1, .istore 4, 2) rfl
theorem dX7_secretsThatFit_3 : decode cX7_secretsThatFit 3 = .ok (.iconst 0, 1) := tb_d tk_X7_secretsThatFit_1 2 (3, .iconst 0, 1) rfl
theorem dX7_secretsThatFit_4 : decode cX7_secretsThatFit 4 = .ok (.istore 5, 2) := tb_d tk_X7_secretsThatFit_1 3 (4, .istore 5, 2) rfl
theorem dX7_secretsThatFit_6 : decode cX7_secretsThatFit 6 = .ok (.iload 5, 2) := tb_d tk_X7_secretsThatFit_1 4 (6, .iload 5, 2) rfl
theorem dX7_secretsThatFit_8 : decode cX7_secretsThatFit 8 = .ok (.aload_n 0, 1) := tb_d tk_X7_secretsThatFit_1 5 (8, .aload_n 0, 1) rfl
theorem dX7_secretsThatFit_9 : decode cX7_secretsThatFit 9 = .ok (.getfield 25, 3) := tb_d tk_X7_secretsThatFit_1 6 (9, .getfield 25, 3) rfl
theorem dX7_secretsThatFit_12 : decode cX7_secretsThatFit 12 = .ok (.getfield 130, 3) := tb_d tk_X7_secretsThatFit_1 7 (12, .getfield 130, 3) rfl
theorem dX7_secretsThatFit_15 : decode cX7_secretsThatFit 15 = .ok (.if_icmp .ge 29, 3) := tb_d tk_X7_secretsThatFit_1 8 (15, .if_icmp .ge 29, 3) rfl
theorem dX7_secretsThatFit_18 : decode cX7_secretsThatFit 18 = .ok (.iload 4, 2) := tb_d tk_X7_secretsThatFit_1 9 (18, .iload 4, 2) rfl
theorem dX7_secretsThatFit_20 : decode cX7_secretsThatFit 20 = .ok (.aload_n 0, 1) := tb_d tk_X7_secretsThatFit_1 10 (20, .aload_n 0, 1) rfl
theorem dX7_secretsThatFit_21 : decode cX7_secretsThatFit 21 = .ok (.iload_n 1, 1) := tb_d tk_X7_secretsThatFit_1 11 (21, .iload_n 1, 1) rfl
theorem dX7_secretsThatFit_22 : decode cX7_secretsThatFit 22 = .ok (.iload 5, 2) := tb_d tk_X7_secretsThatFit_1 12 (22, .iload 5, 2) rfl
theorem dX7_secretsThatFit_24 : decode cX7_secretsThatFit 24 = .ok (.aload_n 2, 1) := tb_d tk_X7_secretsThatFit_1 13 (24, .aload_n 2, 1) rfl
theorem dX7_secretsThatFit_25 : decode cX7_secretsThatFit 25 = .ok (.iload_n 3, 1) := tb_d tk_X7_secretsThatFit_1 14 (25, .iload_n 3, 1) rfl
theorem dX7_secretsThatFit_26 : decode cX7_secretsThatFit 26 = .ok (.invokevirtual 350, 3) := tb_d tk_X7_secretsThatFit_1 15 (26, .invokevirtual 350, 3) rfl
theorem dX7_secretsThatFit_29 : decode cX7_secretsThatFit 29 = .ok (.invokestatic 180, 3) := tb_d tk_X7_secretsThatFit_1 16 (29, .invokestatic 180, 3) rfl
theorem dX7_secretsThatFit_32 : decode cX7_secretsThatFit 32 = .ok (.iload 5, 2) := tb_d tk_X7_secretsThatFit_1 17 (32, .iload 5, 2) rfl
theorem dX7_secretsThatFit_34 : decode cX7_secretsThatFit 34 = .ok (.ishl, 1) := tb_d tk_X7_secretsThatFit_1 18 (34, .ishl, 1) rfl
theorem dX7_secretsThatFit_35 : decode cX7_secretsThatFit 35 = .ok (.ior, 1) := tb_d tk_X7_secretsThatFit_1 19 (35, .ior, 1) rfl
theorem dX7_secretsThatFit_36 : decode cX7_secretsThatFit 36 = .ok (.istore 4, 2) := tb_d tk_X7_secretsThatFit_1 20 (36, .istore 4, 2) rfl
theorem dX7_secretsThatFit_38 : decode cX7_secretsThatFit 38 = .ok (.iinc 5 1, 3) := tb_d tk_X7_secretsThatFit_1 21 (38, .iinc 5 1, 3) rfl
theorem dX7_secretsThatFit_41 : decode cX7_secretsThatFit 41 = .ok (.goto (-35), 3) := tb_d tk_X7_secretsThatFit_1 22 (41, .goto (-35), 3) rfl
theorem dX7_secretsThatFit_44 : decode cX7_secretsThatFit 44 = .ok (.iload 4, 2) := tb_d tk_X7_secretsThatFit_1 23 (44, .iload 4, 2) rfl
theorem dX7_secretsThatFit_46 : decode cX7_secretsThatFit 46 = .ok (.ireturn, 1) := tb_d tk_X7_secretsThatFit_1 24 (46, .ireturn, 1) rfl
theorem ggX7_fitsTold_X2_wouldTake : GoodIn wsX7_fitsTold wsX2_wouldTake := fun w h => ⟨List.mem_cons_of_mem _ (List.mem_append_right _ (List.mem_append_right _ (List.mem_append_right _ (List.mem_append_right _ (List.mem_append_right _ (List.mem_append_right _ (List.mem_append_right _ (List.mem_append_left _ h)))))))), good_of_word (gdX2_wouldTake w h)⟩
set_option maxRecDepth 20000 in
theorem gX7_fitsTold_X2_wouldTake : GoodIn wsX7_fitsTold (wsV RX7 354 RX2 yX2_wouldTake wsX2_wouldTake) := goodIn_app (a := bkV RX7 354 RX2 yX2_wouldTake) (fun w h => ⟨List.mem_cons_of_mem _ (List.mem_append_right _ (List.mem_append_left _ h)), good_of_word (gd_bV _ _ _ _ w h)⟩) ggX7_fitsTold_X2_wouldTake
theorem ggX7_fitsTold_X7_bit : GoodIn wsX7_fitsTold wsX7_bit := fun w h => ⟨List.mem_cons_of_mem _ (List.mem_append_right _ (List.mem_append_right _ (List.mem_append_right _ (List.mem_append_right _ (List.mem_append_right _ (List.mem_append_right _ (List.mem_append_right _ (List.mem_append_right _ (List.mem_append_left _ h))))))))), good_of_word (gdX7_bit w h)⟩
set_option maxRecDepth 20000 in
theorem gX7_fitsTold_X7_bit : GoodIn wsX7_fitsTold (va_wsS RX7 180 yX7_bit wsX7_bit) := goodIn_app (a := bkS RX7 180 yX7_bit) (fun w h => ⟨List.mem_cons_of_mem _ (List.mem_append_right _ (List.mem_append_right _ (List.mem_append_left _ h))), good_of_word (gd_bS _ _ _ w h)⟩) ggX7_fitsTold_X7_bit
def tb_X7_fitsTold_1 : List (Nat × Instr × Nat) := [(0, .iconst 0, 1), (1, .istore 5, 2), (3, .iload 5, 2), (5, .aload_n 0, 1), (6, .getfield 25, 3), (9, .getfield 130, 3), (12, .if_icmp .ge 48, 3), (15, .aload_n 0, 1), (16, .getfield 25, 3), (19, .iload_n 1, 1), (20, .iload 5, 2), (22, .iload_n 2, 1), (23, .aload_n 0, 1), (24, .getfield 25, 3), (27, .getfield 137, 3), (30, .getfield 141, 3), (33, .invokevirtual 354, 3), (36, .invokestatic 180, 3), (39, .aload_n 3, 1), (40, .getfield 86, 3), (43, .iload 4, 2), (45, .iload 5, 2), (47, .iadd, 1), (48, .iaload, 1), (49, .if_icmp .eq 5, 3), (52, .iconst 0, 1), (53, .ireturn, 1), (54, .iinc 5 1, 3), (57, .goto (-54), 3), (60, .iconst 1, 1), (61, .ireturn, 1)]
set_option maxRecDepth 100000 in
theorem tk_X7_fitsTold_1 : (tb_X7_fitsTold_1.all fun q => decide (decode cX7_fitsTold q.1 = .ok q.2)) = true := by decide +kernel
theorem dX7_fitsTold_0 : decode cX7_fitsTold 0 = .ok (.iconst 0, 1) := tb_d tk_X7_fitsTold_1 0 (0, .iconst 0, 1) rfl
theorem dX7_fitsTold_1 : decode cX7_fitsTold 1 = .ok (.istore 5, 2) := tb_d tk_X7_fitsTold_1 1 (1, .istore 5, 2) rfl
theorem dX7_fitsTold_3 : decode cX7_fitsTold 3 = .ok (.iload 5, 2) := tb_d tk_X7_fitsTold_1 2 (3, .iload 5, 2) rfl
theorem dX7_fitsTold_5 : decode cX7_fitsTold 5 = .ok (.aload_n 0, 1) := tb_d tk_X7_fitsTold_1 3 (5, .aload_n 0, 1) rfl
theorem dX7_fitsTold_6 : decode cX7_fitsTold 6 = .ok (.getfield 25, 3) := tb_d tk_X7_fitsTold_1 4 (6, .getfield 25, 3) rfl
theorem dX7_fitsTold_9 : decode cX7_fitsTold 9 = .ok (.getfield 130, 3) := tb_d tk_X7_fitsTold_1 5 (9, .getfield 130, 3) rfl
theorem dX7_fitsTold_12 : decode cX7_fitsTold 12 = .ok (.if_icmp .ge 48, 3) := tb_d tk_X7_fitsTold_1 6 (12, .if_icmp .ge 48, 3) rfl
theorem dX7_fitsTold_15 : decode cX7_fitsTold 15 = .ok (.aload_n 0, 1) := tb_d tk_X7_fitsTold_1 7 (15, .aload_n 0, 1) rfl
theorem dX7_fitsTold_16 : decode cX7_fitsTold 16 = .ok (.getfield 25, 3) := tb_d tk_X7_fitsTold_1 8 (16, .getfield 25, 3) rfl
theorem dX7_fitsTold_19 : decode cX7_fitsTold 19 = .ok (.iload_n 1, 1) := tb_d tk_X7_fitsTold_1 9 (19, .iload_n 1, 1) rfl
theorem dX7_fitsTold_20 : decode cX7_fitsTold 20 = .ok (.iload 5, 2) := tb_d tk_X7_fitsTold_1 10 (20, .iload 5, 2) rfl
theorem dX7_fitsTold_22 : decode cX7_fitsTold 22 = .ok (.iload_n 2, 1) := tb_d tk_X7_fitsTold_1 11 (22, .iload_n 2, 1) rfl
theorem dX7_fitsTold_23 : decode cX7_fitsTold 23 = .ok (.aload_n 0, 1) := tb_d tk_X7_fitsTold_1 12 (23, .aload_n 0, 1) rfl
theorem dX7_fitsTold_24 : decode cX7_fitsTold 24 = .ok (.getfield 25, 3) := tb_d tk_X7_fitsTold_1 13 (24, .getfield 25, 3) rfl
theorem dX7_fitsTold_27 : decode cX7_fitsTold 27 = .ok (.getfield 137, 3) := tb_d tk_X7_fitsTold_1 14 (27, .getfield 137, 3) rfl
theorem dX7_fitsTold_30 : decode cX7_fitsTold 30 = .ok (.getfield 141, 3) := tb_d tk_X7_fitsTold_1 15 (30, .getfield 141, 3) rfl
theorem dX7_fitsTold_33 : decode cX7_fitsTold 33 = .ok (.invokevirtual 354, 3) := tb_d tk_X7_fitsTold_1 16 (33, .invokevirtual 354, 3) rfl
theorem dX7_fitsTold_36 : decode cX7_fitsTold 36 = .ok (.invokestatic 180, 3) := tb_d tk_X7_fitsTold_1 17 (36, .invokestatic 180, 3) rfl
theorem dX7_fitsTold_39 : decode cX7_fitsTold 39 = .ok (.aload_n 3, 1) := tb_d tk_X7_fitsTold_1 18 (39, .aload_n 3, 1) rfl
theorem dX7_fitsTold_40 : decode cX7_fitsTold 40 = .ok (.getfield 86, 3) := tb_d tk_X7_fitsTold_1 19 (40, .getfield 86, 3) rfl
theorem dX7_fitsTold_43 : decode cX7_fitsTold 43 = .ok (.iload 4, 2) := tb_d tk_X7_fitsTold_1 20 (43, .iload 4, 2) rfl
theorem dX7_fitsTold_45 : decode cX7_fitsTold 45 = .ok (.iload 5, 2) := tb_d tk_X7_fitsTold_1 21 (45, .iload 5, 2) rfl
theorem dX7_fitsTold_47 : decode cX7_fitsTold 47 = .ok (.iadd, 1) := tb_d tk_X7_fitsTold_1 22 (47, .iadd, 1) rfl
theorem dX7_fitsTold_48 : decode cX7_fitsTold 48 = .ok (.iaload, 1) := tb_d tk_X7_fitsTold_1 23 (48, .iaload, 1) rfl
theorem dX7_fitsTold_49 : decode cX7_fitsTold 49 = .ok (.if_icmp .eq 5, 3) := tb_d tk_X7_fitsTold_1 24 (49, .if_icmp .eq 5, 3) rfl
theorem dX7_fitsTold_52 : decode cX7_fitsTold 52 = .ok (.iconst 0, 1) := tb_d tk_X7_fitsTold_1 25 (52, .iconst 0, 1) rfl
theorem dX7_fitsTold_53 : decode cX7_fitsTold 53 = .ok (.ireturn, 1) := tb_d tk_X7_fitsTold_1 26 (53, .ireturn, 1) rfl
theorem dX7_fitsTold_54 : decode cX7_fitsTold 54 = .ok (.iinc 5 1, 3) := tb_d tk_X7_fitsTold_1 27 (54, .iinc 5 1, 3) rfl
theorem dX7_fitsTold_57 : decode cX7_fitsTold 57 = .ok (.goto (-54), 3) := tb_d tk_X7_fitsTold_1 28 (57, .goto (-54), 3) rfl
theorem dX7_fitsTold_60 : decode cX7_fitsTold 60 = .ok (.iconst 1, 1) := tb_d tk_X7_fitsTold_1 29 (60, .iconst 1, 1) rfl
theorem dX7_fitsTold_61 : decode cX7_fitsTold 61 = .ok (.ireturn, 1) := tb_d tk_X7_fitsTold_1 30 (61, .ireturn, 1) rfl
def tb_X7_bit_1 : List (Nat × Instr × Nat) := [(0, .iload_n 0, 1), (1, .ifCond .eq 7, 3), (4, .iconst 1, 1), (5, .goto 4, 3), (8, .iconst 0, 1), (9, .ireturn, 1)]
set_option maxRecDepth 100000 in
theorem tk_X7_bit_1 : (tb_X7_bit_1.all fun q => decide (decode cX7_bit q.1 = .ok q.2)) = true := by decide +kernel
theorem dX7_bit_0 : decode cX7_bit 0 = .ok (.iload_n 0, 1) := tb_d tk_X7_bit_1 0 (0, .iload_n 0, 1) rfl
theorem dX7_bit_1 : decode cX7_bit 1 = .ok (.ifCond .eq 7, 3) := tb_d tk_X7_bit_1 1 (1, .ifCond .eq 7, 3) rfl
theorem dX7_bit_4 : decode cX7_bit 4 = .ok (.iconst 1, 1) := tb_d tk_X7_bit_1 2 (4, .iconst 1, 1) rfl
theorem dX7_bit_5 : decode cX7_bit 5 = .ok (.goto 4, 3) := tb_d tk_X7_bit_1 3 (5, .goto 4, 3) rfl
theorem dX7_bit_8 : decode cX7_bit 8 = .ok (.iconst 0, 1) := tb_d tk_X7_bit_1 4 (8, .iconst 0, 1) rfl
theorem dX7_bit_9 : decode cX7_bit 9 = .ok (.ireturn, 1) := tb_d tk_X7_bit_1 5 (9, .ireturn, 1) rfl
def tb_X7_rest_1 : List (Nat × Instr × Nat) := [(0, .iload_n 1, 1), (1, .ifCond .le 9, 3), (4, .iload_n 0, 1), (5, .iload_n 1, 1), (6, .irem, 1), (7, .goto 4, 3), (10, .iconst 0, 1), (11, .ireturn, 1)]
set_option maxRecDepth 100000 in
theorem tk_X7_rest_1 : (tb_X7_rest_1.all fun q => decide (decode cX7_rest q.1 = .ok q.2)) = true := by decide +kernel
theorem dX7_rest_0 : decode cX7_rest 0 = .ok (.iload_n 1, 1) := tb_d tk_X7_rest_1 0 (0, .iload_n 1, 1) rfl
theorem dX7_rest_1 : decode cX7_rest 1 = .ok (.ifCond .le 9, 3) := tb_d tk_X7_rest_1 1 (1, .ifCond .le 9, 3) rfl
theorem dX7_rest_4 : decode cX7_rest 4 = .ok (.iload_n 0, 1) := tb_d tk_X7_rest_1 2 (4, .iload_n 0, 1) rfl
theorem dX7_rest_5 : decode cX7_rest 5 = .ok (.iload_n 1, 1) := tb_d tk_X7_rest_1 3 (5, .iload_n 1, 1) rfl
theorem dX7_rest_6 : decode cX7_rest 6 = .ok (.irem, 1) := tb_d tk_X7_rest_1 4 (6, .irem, 1) rfl
theorem dX7_rest_7 : decode cX7_rest 7 = .ok (.goto 4, 3) := tb_d tk_X7_rest_1 5 (7, .goto 4, 3) rfl
theorem dX7_rest_10 : decode cX7_rest 10 = .ok (.iconst 0, 1) := tb_d tk_X7_rest_1 6 (10, .iconst 0, 1) rfl
theorem dX7_rest_11 : decode cX7_rest 11 = .ok (.ireturn, 1) := tb_d tk_X7_rest_1 7 (11, .ireturn, 1) rfl
def tb_X7_lowest_1 : List (Nat × Instr × Nat) := [(0, .iload_n 1, 1), (1, .ifCond .le 9, 3), (4, .iload_n 0, 1), (5, .iload_n 1, 1), (6, .idiv, 1), (7, .goto 4, 3), (10, .iload_n 0, 1), (11, .ireturn, 1)]
set_option maxRecDepth 100000 in
theorem tk_X7_lowest_1 : (tb_X7_lowest_1.all fun q => decide (decode cX7_lowest q.1 = .ok q.2)) = true := by decide +kernel
theorem dX7_lowest_0 : decode cX7_lowest 0 = .ok (.iload_n 1, 1) := tb_d tk_X7_lowest_1 0 (0, .iload_n 1, 1) rfl
theorem dX7_lowest_1 : decode cX7_lowest 1 = .ok (.ifCond .le 9, 3) := tb_d tk_X7_lowest_1 1 (1, .ifCond .le 9, 3) rfl
theorem dX7_lowest_4 : decode cX7_lowest 4 = .ok (.iload_n 0, 1) := tb_d tk_X7_lowest_1 2 (4, .iload_n 0, 1) rfl
theorem dX7_lowest_5 : decode cX7_lowest 5 = .ok (.iload_n 1, 1) := tb_d tk_X7_lowest_1 3 (5, .iload_n 1, 1) rfl
theorem dX7_lowest_6 : decode cX7_lowest 6 = .ok (.idiv, 1) := tb_d tk_X7_lowest_1 4 (6, .idiv, 1) rfl
theorem dX7_lowest_7 : decode cX7_lowest 7 = .ok (.goto 4, 3) := tb_d tk_X7_lowest_1 5 (7, .goto 4, 3) rfl
theorem dX7_lowest_10 : decode cX7_lowest 10 = .ok (.iload_n 0, 1) := tb_d tk_X7_lowest_1 6 (10, .iload_n 0, 1) rfl
theorem dX7_lowest_11 : decode cX7_lowest 11 = .ok (.ireturn, 1) := tb_d tk_X7_lowest_1 7 (11, .ireturn, 1) rfl
def tb_X7_commonDivisor_1 : List (Nat × Instr × Nat) := [(0, .iload_n 1, 1), (1, .istore_n 2, 1), (2, .iload_n 2, 1), (3, .iconst 1, 1), (4, .if_icmp .le 23, 3), (7, .iload_n 0, 1), (8, .iload_n 2, 1), (9, .irem, 1), (10, .ifCond .ne 11, 3), (13, .iload_n 1, 1), (14, .iload_n 2, 1), (15, .irem, 1), (16, .ifCond .ne 5, 3), (19, .iload_n 2, 1), (20, .ireturn, 1), (21, .iinc 2 (-1), 3), (24, .goto (-22), 3), (27, .iconst 1, 1), (28, .ireturn, 1)]
set_option maxRecDepth 100000 in
theorem tk_X7_commonDivisor_1 : (tb_X7_commonDivisor_1.all fun q => decide (decode cX7_commonDivisor q.1 = .ok q.2)) = true := by decide +kernel
theorem dX7_commonDivisor_0 : decode cX7_commonDivisor 0 = .ok (.iload_n 1, 1) := tb_d tk_X7_commonDivisor_1 0 (0, .iload_n 1, 1) rfl
theorem dX7_commonDivisor_1 : decode cX7_commonDivisor 1 = .ok (.istore_n 2, 1) := tb_d tk_X7_commonDivisor_1 1 (1, .istore_n 2, 1) rfl
theorem dX7_commonDivisor_2 : decode cX7_commonDivisor 2 = .ok (.iload_n 2, 1) := tb_d tk_X7_commonDivisor_1 2 (2, .iload_n 2, 1) rfl
theorem dX7_commonDivisor_3 : decode cX7_commonDivisor 3 = .ok (.iconst 1, 1) := tb_d tk_X7_commonDivisor_1 3 (3, .iconst 1, 1) rfl
theorem dX7_commonDivisor_4 : decode cX7_commonDivisor 4 = .ok (.if_icmp .le 23, 3) := tb_d tk_X7_commonDivisor_1 4 (4, .if_icmp .le 23, 3) rfl
theorem dX7_commonDivisor_7 : decode cX7_commonDivisor 7 = .ok (.iload_n 0, 1) := tb_d tk_X7_commonDivisor_1 5 (7, .iload_n 0, 1) rfl
theorem dX7_commonDivisor_8 : decode cX7_commonDivisor 8 = .ok (.iload_n 2, 1) := tb_d tk_X7_commonDivisor_1 6 (8, .iload_n 2, 1) rfl
theorem dX7_commonDivisor_9 : decode cX7_commonDivisor 9 = .ok (.irem, 1) := tb_d tk_X7_commonDivisor_1 7 (9, .irem, 1) rfl
theorem dX7_commonDivisor_10 : decode cX7_commonDivisor 10 = .ok (.ifCond .ne 11, 3) := tb_d tk_X7_commonDivisor_1 8 (10, .ifCond .ne 11, 3) rfl
theorem dX7_commonDivisor_13 : decode cX7_commonDivisor 13 = .ok (.iload_n 1, 1) := tb_d tk_X7_commonDivisor_1 9 (13, .iload_n 1, 1) rfl
theorem dX7_commonDivisor_14 : decode cX7_commonDivisor 14 = .ok (.iload_n 2, 1) := tb_d tk_X7_commonDivisor_1 10 (14, .iload_n 2, 1) rfl
theorem dX7_commonDivisor_15 : decode cX7_commonDivisor 15 = .ok (.irem, 1) := tb_d tk_X7_commonDivisor_1 11 (15, .irem, 1) rfl
theorem dX7_commonDivisor_16 : decode cX7_commonDivisor 16 = .ok (.ifCond .ne 5, 3) := tb_d tk_X7_commonDivisor_1 12 (16, .ifCond .ne 5, 3) rfl
theorem dX7_commonDivisor_19 : decode cX7_commonDivisor 19 = .ok (.iload_n 2, 1) := tb_d tk_X7_commonDivisor_1 13 (19, .iload_n 2, 1) rfl
theorem dX7_commonDivisor_20 : decode cX7_commonDivisor 20 = .ok (.ireturn, 1) := tb_d tk_X7_commonDivisor_1 14 (20, .ireturn, 1) rfl
theorem dX7_commonDivisor_21 : decode cX7_commonDivisor 21 = .ok (.iinc 2 (-1), 3) := tb_d tk_X7_commonDivisor_1 15 (21, .iinc 2 (-1), 3) rfl
theorem dX7_commonDivisor_24 : decode cX7_commonDivisor 24 = .ok (.goto (-22), 3) := tb_d tk_X7_commonDivisor_1 16 (24, .goto (-22), 3) rfl
theorem dX7_commonDivisor_27 : decode cX7_commonDivisor 27 = .ok (.iconst 1, 1) := tb_d tk_X7_commonDivisor_1 17 (27, .iconst 1, 1) rfl
theorem dX7_commonDivisor_28 : decode cX7_commonDivisor 28 = .ok (.ireturn, 1) := tb_d tk_X7_commonDivisor_1 18 (28, .ireturn, 1) rfl
def tb_X8_init_1 : List (Nat × Instr × Nat) := [(0, .aload_n 0, 1), (1, .invokespecial 1, 3), (4, .aload_n 0, 1), (5, .bipush 8, 2), (7, .newarray .int, 2), (9, .putfield 7, 3), (12, .aload_n 0, 1), (13, .bipush 8, 2), (15, .newarray .int, 2), (17, .putfield 13, 3), (20, .aload_n 0, 1), (21, .sipush 320, 3), (24, .newarray .int, 2), (26, .putfield 16, 3), (29, .aload_n 0, 1), (30, .bipush 40, 2), (32, .newarray .int, 2), (34, .putfield 19, 3), (37, .aload_n 0, 1), (38, .bipush 100, 2), (40, .newarray .int, 2), (42, .putfield 22, 3), (45, .aload_n 0, 1), (46, .bipush 65, 2), (48, .newarray .int, 2), (50, .putfield 25, 3), (53, .aload_n 0, 1), (54, .bipush 65, 2), (56, .newarray .int, 2), (58, .putfield 28, 3), (61, .aload_n 0, 1), (62, .bipush 65, 2), (64, .newarray .int, 2), (66, .putfield 31, 3), (69, .aload_n 0, 1), (70, .sipush 1560, 3), (73, .newarray .int, 2), (75, .putfield 34, 3), (78, .aload_n 0, 1), (79, .sipush 130, 3)]
set_option maxRecDepth 100000 in
theorem tk_X8_init_1 : (tb_X8_init_1.all fun q => decide (decode cX8_init q.1 = .ok q.2)) = true := by decide +kernel
