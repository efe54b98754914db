theorem dX8_isWord_1 : decode cX8_isWord 1 = .ok (.iconst 0, 1) := tb_d tk_X8_isWord_1 1 (1, .iconst 0, 1) rfl
theorem dX8_isWord_2 : decode cX8_isWord 2 = .ok (.aload_n 0, 1) := tb_d tk_X8_isWord_1 2 (2, .aload_n 0, 1) rfl
theorem dX8_isWord_3 : decode cX8_isWord 3 = .ok (.getfield 25, 3) := tb_d tk_X8_isWord_1 3 (3, .getfield 25, 3) rfl
theorem dX8_isWord_6 : decode cX8_isWord 6 = .ok (.iconst 3, 1) := tb_d tk_X8_isWord_1 4 (6, .iconst 3, 1) rfl
theorem dX8_isWord_7 : decode cX8_isWord 7 = .ok (.iaload, 1) := tb_d tk_X8_isWord_1 5 (7, .iaload, 1) rfl
theorem dX8_isWord_8 : decode cX8_isWord 8 = .ok (.iconst 1, 1) := tb_d tk_X8_isWord_1 6 (8, .iconst 1, 1) rfl
theorem dX8_isWord_9 : decode cX8_isWord 9 = .ok (.isub, 1) := tb_d tk_X8_isWord_1 7 (9, .isub, 1) rfl
theorem dX8_isWord_10 : decode cX8_isWord 10 = .ok (.invokestatic 56, 3) := tb_d tk_X8_isWord_1 8 (10, .invokestatic 56, 3) rfl
theorem dX8_isWord_13 : decode cX8_isWord 13 = .ok (.ireturn, 1) := tb_d tk_X8_isWord_1 9 (13, .ireturn, 1) rfl
theorem ggX8_isGuard_X8_in : GoodIn wsX8_isGuard wsX8_in := fun w h => ⟨List.mem_cons_of_mem _ (List.mem_append_right _ (List.mem_append_right _ (List.mem_append_right _ (List.mem_append_left _ h)))), good_of_word (gdX8_in w h)⟩
set_option maxRecDepth 20000 in
theorem gX8_isGuard_X8_in : GoodIn wsX8_isGuard (va_wsS RX8 56 yX8_in wsX8_in) := goodIn_app (a := bkS RX8 56 yX8_in) (fun w h => ⟨List.mem_cons_of_mem _ (List.mem_append_right _ (List.mem_append_left _ h)), good_of_word (gd_bS _ _ _ w h)⟩) ggX8_isGuard_X8_in
def tb_X8_isGuard_1 : List (Nat × Instr × Nat) := [(0, .iload_n 1, 1), (1, .iconst 0, 1), (2, .aload_n 0, 1), (3, .getfield 25, 3), (6, .iconst 4, 1), (7, .iaload, 1), (8, .iconst 1, 1), (9, .isub, 1), (10, .invokestatic 56, 3), (13, .ireturn, 1)]
set_option maxRecDepth 100000 in
theorem tk_X8_isGuard_1 : (tb_X8_isGuard_1.all fun q => decide (decode cX8_isGuard q.1 = .ok q.2)) = true := by decide +kernel
theorem dX8_isGuard_0 : decode cX8_isGuard 0 = .ok (.iload_n 1, 1) := tb_d tk_X8_isGuard_1 0 (0, .iload_n 1, 1) rfl
theorem dX8_isGuard_1 : decode cX8_isGuard 1 = .ok (.iconst 0, 1) := tb_d tk_X8_isGuard_1 1 (1, .iconst 0, 1) rfl
theorem dX8_isGuard_2 : decode cX8_isGuard 2 = .ok (.aload_n 0, 1) := tb_d tk_X8_isGuard_1 2 (2, .aload_n 0, 1) rfl
theorem dX8_isGuard_3 : decode cX8_isGuard 3 = .ok (.getfield 25, 3) := tb_d tk_X8_isGuard_1 3 (3, .getfield 25, 3) rfl
theorem dX8_isGuard_6 : decode cX8_isGuard 6 = .ok (.iconst 4, 1) := tb_d tk_X8_isGuard_1 4 (6, .iconst 4, 1) rfl
theorem dX8_isGuard_7 : decode cX8_isGuard 7 = .ok (.iaload, 1) := tb_d tk_X8_isGuard_1 5 (7, .iaload, 1) rfl
theorem dX8_isGuard_8 : decode cX8_isGuard 8 = .ok (.iconst 1, 1) := tb_d tk_X8_isGuard_1 6 (8, .iconst 1, 1) rfl
theorem dX8_isGuard_9 : decode cX8_isGuard 9 = .ok (.isub, 1) := tb_d tk_X8_isGuard_1 7 (9, .isub, 1) rfl
theorem dX8_isGuard_10 : decode cX8_isGuard 10 = .ok (.invokestatic 56, 3) := tb_d tk_X8_isGuard_1 8 (10, .invokestatic 56, 3) rfl
theorem dX8_isGuard_13 : decode cX8_isGuard 13 = .ok (.ireturn, 1) := tb_d tk_X8_isGuard_1 9 (13, .ireturn, 1) rfl
theorem ggX8_isHour_X8_in : GoodIn wsX8_isHour wsX8_in := fun w h => ⟨List.mem_cons_of_mem _ (List.mem_append_right _ (List.mem_append_right _ (List.mem_append_left _ h))), good_of_word (gdX8_in w h)⟩
set_option maxRecDepth 20000 in
theorem gX8_isHour_X8_in : GoodIn wsX8_isHour (va_wsS RX8 56 yX8_in wsX8_in) := goodIn_app (a := bkS RX8 56 yX8_in) (fun w h => ⟨List.mem_cons_of_mem _ (List.mem_append_right _ (List.mem_append_left _ h)), good_of_word (gd_bS _ _ _ w h)⟩) ggX8_isHour_X8_in
def tb_X8_isHour_1 : List (Nat × Instr × Nat) := [(0, .iload_n 0, 1), (1, .iconst 0, 1), (2, .iconst 5, 1), (3, .invokestatic 56, 3), (6, .ireturn, 1)]
set_option maxRecDepth 100000 in
theorem tk_X8_isHour_1 : (tb_X8_isHour_1.all fun q => decide (decode cX8_isHour q.1 = .ok q.2)) = true := by decide +kernel
theorem dX8_isHour_0 : decode cX8_isHour 0 = .ok (.iload_n 0, 1) := tb_d tk_X8_isHour_1 0 (0, .iload_n 0, 1) rfl
theorem dX8_isHour_1 : decode cX8_isHour 1 = .ok (.iconst 0, 1) := tb_d tk_X8_isHour_1 1 (1, .iconst 0, 1) rfl
theorem dX8_isHour_2 : decode cX8_isHour 2 = .ok (.iconst 5, 1) := tb_d tk_X8_isHour_1 2 (2, .iconst 5, 1) rfl
theorem dX8_isHour_3 : decode cX8_isHour 3 = .ok (.invokestatic 56, 3) := tb_d tk_X8_isHour_1 3 (3, .invokestatic 56, 3) rfl
theorem dX8_isHour_6 : decode cX8_isHour 6 = .ok (.ireturn, 1) := tb_d tk_X8_isHour_1 4 (6, .ireturn, 1) rfl
theorem ggX8_isFar_X8_in : GoodIn wsX8_isFar wsX8_in := fun w h => ⟨List.mem_cons_of_mem _ (List.mem_append_right _ (List.mem_append_right _ (List.mem_append_left _ h))), good_of_word (gdX8_in w h)⟩
set_option maxRecDepth 20000 in
theorem gX8_isFar_X8_in : GoodIn wsX8_isFar (va_wsS RX8 56 yX8_in wsX8_in) := goodIn_app (a := bkS RX8 56 yX8_in) (fun w h => ⟨List.mem_cons_of_mem _ (List.mem_append_right _ (List.mem_append_left _ h)), good_of_word (gd_bS _ _ _ w h)⟩) ggX8_isFar_X8_in
def tb_X8_isFar_1 : List (Nat × Instr × Nat) := [(0, .iload_n 0, 1), (1, .iconst 0, 1), (2, .bipush 60, 2), (4, .invokestatic 56, 3), (7, .ireturn, 1)]
set_option maxRecDepth 100000 in
theorem tk_X8_isFar_1 : (tb_X8_isFar_1.all fun q => decide (decode cX8_isFar q.1 = .ok q.2)) = true := by decide +kernel
theorem dX8_isFar_0 : decode cX8_isFar 0 = .ok (.iload_n 0, 1) := tb_d tk_X8_isFar_1 0 (0, .iload_n 0, 1) rfl
theorem dX8_isFar_1 : decode cX8_isFar 1 = .ok (.iconst 0, 1) := tb_d tk_X8_isFar_1 1 (1, .iconst 0, 1) rfl
theorem dX8_isFar_2 : decode cX8_isFar 2 = .ok (.bipush 60, 2) := tb_d tk_X8_isFar_1 2 (2, .bipush 60, 2) rfl
theorem dX8_isFar_4 : decode cX8_isFar 4 = .ok (.invokestatic 56, 3) := tb_d tk_X8_isFar_1 3 (4, .invokestatic 56, 3) rfl
theorem dX8_isFar_7 : decode cX8_isFar 7 = .ok (.ireturn, 1) := tb_d tk_X8_isFar_1 4 (7, .ireturn, 1) rfl
theorem ggX8_areWords_X8_in : GoodIn wsX8_areWords wsX8_in := fun w h => ⟨List.mem_cons_of_mem _ (List.mem_append_right _ (List.mem_append_right _ (List.mem_append_right _ (List.mem_append_left _ h)))), good_of_word (gdX8_in w h)⟩
set_option maxRecDepth 20000 in
theorem gX8_areWords_X8_in : GoodIn wsX8_areWords (va_wsS RX8 56 yX8_in wsX8_in) := goodIn_app (a := bkS RX8 56 yX8_in) (fun w h => ⟨List.mem_cons_of_mem _ (List.mem_append_right _ (List.mem_append_left _ h)), good_of_word (gd_bS _ _ _ w h)⟩) ggX8_areWords_X8_in
def tb_X8_areWords_1 : List (Nat × Instr × Nat) := [(0, .iload_n 1, 1), (1, .iconst 0, 1), (2, .iconst 1, 1), (3, .aload_n 0, 1), (4, .getfield 25, 3), (7, .iconst 3, 1), (8, .iaload, 1), (9, .ishl, 1), (10, .iconst 1, 1), (11, .isub, 1), (12, .invokestatic 56, 3), (15, .ireturn, 1)]
set_option maxRecDepth 100000 in
theorem tk_X8_areWords_1 : (tb_X8_areWords_1.all fun q => decide (decode cX8_areWords q.1 = .ok q.2)) = true := by decide +kernel
theorem dX8_areWords_0 : decode cX8_areWords 0 = .ok (.iload_n 1, 1) := tb_d tk_X8_areWords_1 0 (0, .iload_n 1, 1) rfl
theorem dX8_areWords_1 : decode cX8_areWords 1 = .ok (.iconst 0, 1) := tb_d tk_X8_areWords_1 1 (1, .iconst 0, 1) rfl
theorem dX8_areWords_2 : decode cX8_areWords 2 = .ok (.iconst 1, 1) := tb_d tk_X8_areWords_1 2 (2, .iconst 1, 1) rfl
theorem dX8_areWords_3 : decode cX8_areWords 3 = .ok (.aload_n 0, 1) := tb_d tk_X8_areWords_1 3 (3, .aload_n 0, 1) rfl
theorem dX8_areWords_4 : decode cX8_areWords 4 = .ok (.getfield 25, 3) := tb_d tk_X8_areWords_1 4 (4, .getfield 25, 3) rfl
theorem dX8_areWords_7 : decode cX8_areWords 7 = .ok (.iconst 3, 1) := tb_d tk_X8_areWords_1 5 (7, .iconst 3, 1) rfl
theorem dX8_areWords_8 : decode cX8_areWords 8 = .ok (.iaload, 1) := tb_d tk_X8_areWords_1 6 (8, .iaload, 1) rfl
theorem dX8_areWords_9 : decode cX8_areWords 9 = .ok (.ishl, 1) := tb_d tk_X8_areWords_1 7 (9, .ishl, 1) rfl
theorem dX8_areWords_10 : decode cX8_areWords 10 = .ok (.iconst 1, 1) := tb_d tk_X8_areWords_1 8 (10, .iconst 1, 1) rfl
theorem dX8_areWords_11 : decode cX8_areWords 11 = .ok (.isub, 1) := tb_d tk_X8_areWords_1 9 (11, .isub, 1) rfl
theorem dX8_areWords_12 : decode cX8_areWords 12 = .ok (.invokestatic 56, 3) := tb_d tk_X8_areWords_1 10 (12, .invokestatic 56, 3) rfl
theorem dX8_areWords_15 : decode cX8_areWords 15 = .ok (.ireturn, 1) := tb_d tk_X8_areWords_1 11 (15, .ireturn, 1) rfl
def tb_X8_secretOf_1 : List (Nat × Instr × Nat) := [(0, .iload_n 1, 1), (1, .bipush 7, 2), (3, .irem, 1), (4, .aload_n 0, 1), (5, .iconst 2, 1), (6, .iaload, 1), (7, .if_icmp .ne 7, 3), (10, .iconst 0, 1), (11, .goto 16, 3), (14, .aload_n 0, 1), (15, .iconst 0, 1), (16, .iaload, 1), (17, .aload_n 0, 1), (18, .iconst 1, 1), (19, .iaload, 1), (20, .iload_n 1, 1), (21, .imul, 1), (22, .iadd, 1), (23, .aload_n 0, 1), (24, .iconst 3, 1), (25, .iaload, 1), (26, .irem, 1), (27, .ireturn, 1)]
set_option maxRecDepth 100000 in
theorem tk_X8_secretOf_1 : (tb_X8_secretOf_1.all fun q => decide (decode cX8_secretOf q.1 = .ok q.2)) = true := by decide +kernel
theorem dX8_secretOf_0 : decode cX8_secretOf 0 = .ok (.iload_n 1, 1) := tb_d tk_X8_secretOf_1 0 (0, .iload_n 1, 1) rfl
theorem dX8_secretOf_1 : decode cX8_secretOf 1 = .ok (.bipush 7, 2) := tb_d tk_X8_secretOf_1 1 (1, .bipush 7, 2) rfl
theorem dX8_secretOf_3 : decode cX8_secretOf 3 = .ok (.irem, 1) := tb_d tk_X8_secretOf_1 2 (3, .irem, 1) rfl
theorem dX8_secretOf_4 : decode cX8_secretOf 4 = .ok (.aload_n 0, 1) := tb_d tk_X8_secretOf_1 3 (4, .aload_n 0, 1) rfl
theorem dX8_secretOf_5 : decode cX8_secretOf 5 = .ok (.iconst 2, 1) := tb_d tk_X8_secretOf_1 4 (5, .iconst 2, 1) rfl
theorem dX8_secretOf_6 : decode cX8_secretOf 6 = .ok (.iaload, 1) := tb_d tk_X8_secretOf_1 5 (6, .iaload, 1) rfl
theorem dX8_secretOf_7 : decode cX8_secretOf 7 = .ok (.if_icmp .ne 7, 3) := tb_d tk_X8_secretOf_1 6 (7, .if_icmp .ne 7, 3) rfl
theorem dX8_secretOf_10 : decode cX8_secretOf 10 = .ok (.iconst 0, 1) := tb_d tk_X8_secretOf_1 7 (10, .iconst 0, 1) rfl
theorem dX8_secretOf_11 : decode cX8_secretOf 11 = .ok (.goto 16, 3) := tb_d tk_X8_secretOf_1 8 (11, .goto 16, 3) rfl
theorem dX8_secretOf_14 : decode cX8_secretOf 14 = .ok (.aload_n 0, 1) := tb_d tk_X8_secretOf_1 9 (14, .aload_n 0, 1) rfl
theorem dX8_secretOf_15 : decode cX8_secretOf 15 = .ok (.iconst 0, 1) := tb_d tk_X8_secretOf_1 10 (15, .iconst 0, 1) rfl
theorem dX8_secretOf_16 : decode cX8_secretOf 16 = .ok (.iaload, 1) := tb_d tk_X8_secretOf_1 11 (16, .iaload, 1) rfl
theorem dX8_secretOf_17 : decode cX8_secretOf 17 = .ok (.aload_n 0, 1) := tb_d tk_X8_secretOf_1 12 (17, .aload_n 0, 1) rfl
theorem dX8_secretOf_18 : decode cX8_secretOf 18 = .ok (.iconst 1, 1) := tb_d tk_X8_secretOf_1 13 (18, .iconst 1, 1) rfl
theorem dX8_secretOf_19 : decode cX8_secretOf 19 = .ok (.iaload, 1) := tb_d tk_X8_secretOf_1 14 (19, .iaload, 1) rfl
theorem dX8_secretOf_20 : decode cX8_secretOf 20 = .ok (.iload_n 1, 1) := tb_d tk_X8_secretOf_1 15 (20, .iload_n 1, 1) rfl
theorem dX8_secretOf_21 : decode cX8_secretOf 21 = .ok (.imul, 1) := tb_d tk_X8_secretOf_1 16 (21, .imul, 1) rfl
theorem dX8_secretOf_22 : decode cX8_secretOf 22 = .ok (.iadd, 1) := tb_d tk_X8_secretOf_1 17 (22, .iadd, 1) rfl
theorem dX8_secretOf_23 : decode cX8_secretOf 23 = .ok (.aload_n 0, 1) := tb_d tk_X8_secretOf_1 18 (23, .aload_n 0, 1) rfl
theorem dX8_secretOf_24 : decode cX8_secretOf 24 = .ok (.iconst 3, 1) := tb_d tk_X8_secretOf_1 19 (24, .iconst 3, 1) rfl
theorem dX8_secretOf_25 : decode cX8_secretOf 25 = .ok (.iaload, 1) := tb_d tk_X8_secretOf_1 20 (25, .iaload, 1) rfl
theorem dX8_secretOf_26 : decode cX8_secretOf 26 = .ok (.irem, 1) := tb_d tk_X8_secretOf_1 21 (26, .irem, 1) rfl
theorem dX8_secretOf_27 : decode cX8_secretOf 27 = .ok (.ireturn, 1) := tb_d tk_X8_secretOf_1 22 (27, .ireturn, 1) rfl
def tb_X8_distance_1 : List (Nat × Instr × Nat) := [(0, .iconst 0, 1), (1, .istore_n 3, 1), (2, .iconst 0, 1), (3, .istore 4, 2), (5, .iload 4, 2), (7, .iconst 3, 1), (8, .if_icmp .ge 48, 3), (11, .iload_n 3, 1), (12, .aload_n 0, 1), (13, .getfield 25, 3), (16, .bipush 8, 2), (18, .iconst 3, 1), (19, .iload_n 1, 1), (20, .imul, 1), (21, .iadd, 1), (22, .iload 4, 2), (24, .iadd, 1), (25, .iaload, 1), (26, .aload_n 0, 1), (27, .getfield 25, 3), (30, .bipush 8, 2), (32, .iconst 3, 1), (33, .iload_n 2, 1), (34, .imul, 1), (35, .iadd, 1), (36, .iload 4, 2), (38, .iadd, 1), (39, .iaload, 1), (40, .if_icmp .ne 7, 3), (43, .iconst 0, 1), (44, .goto 4, 3), (47, .iconst 1, 1), (48, .iadd, 1), (49, .istore_n 3, 1), (50, .iinc 4 1, 3), (53, .goto (-48), 3), (56, .iload_n 3, 1), (57, .ireturn, 1)]
set_option maxRecDepth 100000 in
theorem tk_X8_distance_1 : (tb_X8_distance_1.all fun q => decide (decode cX8_distance q.1 = .ok q.2)) = true := by decide +kernel
theorem dX8_distance_0 : decode cX8_distance 0 = .ok (.iconst 0, 1) := tb_d tk_X8_distance_1 0 (0, .iconst 0, 1) rfl
theorem dX8_distance_1 : decode cX8_distance 1 = .ok (.istore_n 3, 1) := tb_d tk_X8_distance_1 1 (1, .istore_n 3, 1) rfl
theorem dX8_distance_2 : decode cX8_distance 2 = .ok (.iconst 0, 1) := tb_d tk_X8_distance_1 2 (2, .iconst 0, 1) rfl
theorem dX8_distance_3 : decode cX8_distance 3 = .ok (.istore 4, 2) := tb_d tk_X8_distance_1 3 (3, .istore 4, 2) rfl
theorem dX8_distance_5 : decode cX8_distance 5 = .ok (.iload 4, 2) := tb_d tk_X8_distance_1 4 (5, .iload 4, 2) rfl
theorem dX8_distance_7 : decode cX8_distance 7 = .ok (.iconst 3, 1) := tb_d tk_X8_distance_1 5 (7, .iconst 3, 1) rfl
theorem dX8_distance_8 : decode cX8_distance 8 = .ok (.if_icmp .ge 48, 3) := tb_d tk_X8_distance_1 6 (8, .if_icmp .ge 48, 3) rfl
theorem dX8_distance_11 : decode cX8_distance 11 = .ok (.iload_n 3, 1) := tb_d tk_X8_distance_1 7 (11, .iload_n 3, 1) rfl
theorem dX8_distance_12 : decode cX8_distance 12 = .ok (.aload_n 0, 1) := tb_d tk_X8_distance_1 8 (12, .aload_n 0, 1) rfl
theorem dX8_distance_13 : decode cX8_distance 13 = .ok (.getfield 25, 3) := tb_d tk_X8_distance_1 9 (13, .getfield 25, 3) rfl
theorem dX8_distance_16 : decode cX8_distance 16 = .ok (.bipush 8, 2) := tb_d tk_X8_distance_1 10 (16, .bipush 8, 2) rfl
theorem dX8_distance_18 : decode cX8_distance 18 = .ok (.iconst 3, 1) := tb_d tk_X8_distance_1 11 (18, .iconst 3, 1) rfl
theorem dX8_distance_19 : decode cX8_distance 19 = .ok (.iload_n 1, 1) := tb_d tk_X8_distance_1 12 (19, .iload_n 1, 1) rfl
theorem dX8_distance_20 : decode cX8_distance 20 = .ok (.imul, 1) := tb_d tk_X8_distance_1 13 (20, .imul, 1) rfl
theorem dX8_distance_21 : decode cX8_distance 21 = .ok (.iadd, 1) := tb_d tk_X8_distance_1 14 (21, .iadd, 1) rfl
theorem dX8_distance_22 : decode cX8_distance 22 = .ok (.iload 4, 2) := tb_d tk_X8_distance_1 15 (22, .iload 4, 2) rfl
theorem dX8_distance_24 : decode cX8_distance 24 = .ok (.iadd, 1) := tb_d tk_X8_distance_1 16 (24, .iadd, 1) rfl
theorem dX8_distance_25 : decode cX8_distance 25 = .ok (.iaload, 1) := tb_d tk_X8_distance_1 17 (25, .iaload, 1) rfl
theorem dX8_distance_26 : decode cX8_distance 26 = .ok (.aload_n 0, 1) := tb_d tk_X8_distance_1 18 (26, .aload_n 0, 1) rfl
theorem dX8_distance_27 : decode cX8_distance 27 = .ok (.getfield 25, 3) := tb_d tk_X8_distance_1 19 (27, .getfield 25, 3) rfl
theorem dX8_distance_30 : decode cX8_distance 30 = .ok (.bipush 8, 2) := tb_d tk_X8_distance_1 20 (30, .bipush 8, 2) rfl
theorem dX8_distance_32 : decode cX8_distance 32 = .ok (.iconst 3, 1) := tb_d tk_X8_distance_1 21 (32, .iconst 3, 1) rfl
theorem dX8_distance_33 : decode cX8_distance 33 = .ok (.iload_n 2, 1) := tb_d tk_X8_distance_1 22 (33, .iload_n 2, 1) rfl
theorem dX8_distance_34 : decode cX8_distance 34 = .ok (.imul, 1) := tb_d tk_X8_distance_1 23 (34, .imul, 1) rfl
theorem dX8_distance_35 : decode cX8_distance 35 = .ok (.iadd, 1) := tb_d tk_X8_distance_1 24 (35, .iadd, 1) rfl
theorem dX8_distance_36 : decode cX8_distance 36 = .ok (.iload 4, 2) := tb_d tk_X8_distance_1 25 (36, .iload 4, 2) rfl
theorem dX8_distance_38 : decode cX8_distance 38 = .ok (.iadd, 1) := tb_d tk_X8_distance_1 26 (38, .iadd, 1) rfl
theorem dX8_distance_39 : decode cX8_distance 39 = .ok (.iaload, 1) := tb_d tk_X8_distance_1 27 (39, .iaload, 1) rfl
theorem dX8_distance_40 : decode cX8_distance 40 = .ok (.if_icmp .ne 7, 3) := tb_d tk_X8_distance_1 28 (40, .if_icmp .ne 7, 3) rfl
theorem dX8_distance_43 : decode cX8_distance 43 = .ok (.iconst 0, 1) := tb_d tk_X8_distance_1 29 (43, .iconst 0, 1) rfl
theorem dX8_distance_44 : decode cX8_distance 44 = .ok (.goto 4, 3) := tb_d tk_X8_distance_1 30 (44, .goto 4, 3) rfl
theorem dX8_distance_47 : decode cX8_distance 47 = .ok (.iconst 1, 1) := tb_d tk_X8_distance_1 31 (47, .iconst 1, 1) rfl
theorem dX8_distance_48 : decode cX8_distance 48 = .ok (.iadd, 1) := tb_d tk_X8_distance_1 32 (48, .iadd, 1) rfl
theorem dX8_distance_49 : decode cX8_distance 49 = .ok (.istore_n 3, 1) := tb_d tk_X8_distance_1 33 (49, .istore_n 3, 1) rfl
theorem dX8_distance_50 : decode cX8_distance 50 = .ok (.iinc 4 1, 3) := tb_d tk_X8_distance_1 34 (50, .iinc 4 1, 3) rfl
theorem dX8_distance_53 : decode cX8_distance 53 = .ok (.goto (-48), 3) := tb_d tk_X8_distance_1 35 (53, .goto (-48), 3) rfl
theorem dX8_distance_56 : decode cX8_distance 56 = .ok (.iload_n 3, 1) := tb_d tk_X8_distance_1 36 (56, .iload_n 3, 1) rfl
theorem dX8_distance_57 : decode cX8_distance 57 = .ok (.ireturn, 1) := tb_d tk_X8_distance_1 37 (57, .ireturn, 1) rfl
def tb_X8_lips_1 : List (Nat × Instr × Nat) := [(0, .iconst 0, 1), (1, .istore_n 3, 1), (2, .iconst 0, 1), (3, .istore 4, 2), (5, .iload 4, 2), (7, .iconst 3, 1), (8, .if_icmp .ge 52, 3), (11, .iload_n 3, 1), (12, .aload_n 0, 1), (13, .getfield 25, 3), (16, .bipush 8, 2), (18, .iconst 3, 1), (19, .iload_n 1, 1), (20, .imul, 1), (21, .iadd, 1), (22, .iload 4, 2), (24, .iadd, 1), (25, .iaload, 1), (26, .iconst 5, 1), (27, .irem, 1), (28, .aload_n 0, 1), (29, .getfield 25, 3), (32, .bipush 8, 2), (34, .iconst 3, 1), (35, .iload_n 2, 1), (36, .imul, 1), (37, .iadd, 1), (38, .iload 4, 2), (40, .iadd, 1), (41, .iaload, 1), (42, .iconst 5, 1), (43, .irem, 1), (44, .if_icmp .ne 7, 3), (47, .iconst 1, 1), (48, .goto 4, 3), (51, .iconst 0, 1), (52, .iadd, 1), (53, .istore_n 3, 1), (54, .iinc 4 1, 3), (57, .goto (-52), 3)]
set_option maxRecDepth 100000 in
theorem tk_X8_lips_1 : (tb_X8_lips_1.all fun q => decide (decode cX8_lips q.1 = .ok q.2)) = true := by decide +kernel
theorem dX8_lips_0 : decode cX8_lips 0 = .ok (.iconst 0, 1) := tb_d tk_X8_lips_1 0 (0, .iconst 0, 1) rfl
theorem dX8_lips_1 : decode cX8_lips 1 = .ok (.istore_n 3, 1) := tb_d tk_X8_lips_1 1 (1, .istore_n 3, 1) rfl
theorem dX8_lips_2 : decode cX8_lips 2 = .ok (.iconst 0, 1) := tb_d tk_X8_lips_1 2 (2, .iconst 0, 1) rfl
theorem dX8_lips_3 : decode cX8_lips 3 = .ok (.istore 4, 2) := tb_d tk_X8_lips_1 3 (3, .istore 4, 2) rfl
theorem dX8_lips_5 : decode cX8_lips 5 = .ok (.iload 4, 2) := tb_d tk_X8_lips_1 4 (5, .iload 4, 2) rfl
theorem dX8_lips_7 : decode cX8_lips 7 = .ok (.iconst 3, 1) := tb_d tk_X8_lips_1 5 (7, .iconst 3, 1) rfl
theorem dX8_lips_8 : decode cX8_lips 8 = .ok (.if_icmp .ge 52, 3) := tb_d tk_X8_lips_1 6 (8, .if_icmp .ge 52, 3) rfl
theorem dX8_lips_11 : decode cX8_lips 11 = .ok (.iload_n 3, 1) := tb_d tk_X8_lips_1 7 (11, .iload_n 3, 1) rfl
theorem dX8_lips_12 : decode cX8_lips 12 = .ok (.aload_n 0, 1) := tb_d tk_X8_lips_1 8 (12, .aload_n 0, 1) rfl
theorem dX8_lips_13 : decode cX8_lips 13 = .ok (.getfield 25, 3) := tb_d tk_X8_lips_1 9 (13, .getfield 25, 3) rfl
theorem dX8_lips_16 : decode cX8_lips 16 = .ok (.bipush 8, 2) := tb_d tk_X8_lips_1 10 (16, .bipush 8, 2) rfl
theorem dX8_lips_18 : decode cX8_lips 18 = .ok (.iconst 3, 1) := tb_d tk_X8_lips_1 11 (18, .iconst 3, 1) rfl
theorem dX8_lips_19 : decode cX8_lips 19 = .ok (.iload_n 1, 1) := tb_d tk_X8_lips_1 12 (19, .iload_n 1, 1) rfl
theorem dX8_lips_20 : decode cX8_lips 20 = .ok (.imul, 1) := tb_d tk_X8_lips_1 13 (20, .imul, 1) rfl
theorem dX8_lips_21 : decode cX8_lips 21 = .ok (.iadd, 1) := tb_d tk_X8_lips_1 14 (21, .iadd, 1) rfl
theorem dX8_lips_22 : decode cX8_lips 22 = .ok (.iload 4, 2) := tb_d tk_X8_lips_1 15 (22, .iload 4, 2) rfl
theorem dX8_lips_24 : decode cX8_lips 24 = .ok (.iadd, 1) := tb_d tk_X8_lips_1 16 (24, .iadd, 1) rfl
theorem dX8_lips_25 : decode cX8_lips 25 = .ok (.iaload, 1) := tb_d tk_X8_lips_1 17 (25, .iaload, 1) rfl
theorem dX8_lips_26 : decode cX8_lips 26 = .ok (.iconst 5, 1) := tb_d tk_X8_lips_1 18 (26, .iconst 5, 1) rfl
theorem dX8_lips_27 : decode cX8_lips 27 = .ok (.irem, 1) := tb_d tk_X8_lips_1 19 (27, .irem, 1) rfl
theorem dX8_lips_28 : decode cX8_lips 28 = .ok (.aload_n 0, 1) := tb_d tk_X8_lips_1 20 (28, .aload_n 0, 1) rfl
theorem dX8_lips_29 : decode cX8_lips 29 = .ok (.getfield 25, 3) := tb_d tk_X8_lips_1 21 (29, .getfield 25, 3) rfl
theorem dX8_lips_32 : decode cX8_lips 32 = .ok (.bipush 8, 2) := tb_d tk_X8_lips_1 22 (32, .bipush 8, 2) rfl
theorem dX8_lips_34 : decode cX8_lips 34 = .ok (.iconst 3, 1) := tb_d tk_X8_lips_1 23 (34, .iconst 3, 1) rfl
theorem dX8_lips_35 : decode cX8_lips 35 = .ok (.iload_n 2, 1) := tb_d tk_X8_lips_1 24 (35, .iload_n 2, 1) rfl
theorem dX8_lips_36 : decode cX8_lips 36 = .ok (.imul, 1) := tb_d tk_X8_lips_1 25 (36, .imul, 1) rfl
theorem dX8_lips_37 : decode cX8_lips 37 = .ok (.iadd, 1) := tb_d tk_X8_lips_1 26 (37, .iadd, 1) rfl
theorem dX8_lips_38 : decode cX8_lips 38 = .ok (.iload 4, 2) := tb_d tk_X8_lips_1 27 (38, .iload 4, 2) rfl
theorem dX8_lips_40 : decode cX8_lips 40 = .ok (.iadd, 1) := tb_d tk_X8_lips_1 28 (40, .iadd, 1) rfl
theorem dX8_lips_41 : decode cX8_lips 41 = .ok (.iaload, 1) := tb_d tk_X8_lips_1 29 (41, .iaload, 1) rfl
theorem dX8_lips_42 : decode cX8_lips 42 = .ok (.iconst 5, 1) := tb_d tk_X8_lips_1 30 (42, .iconst 5, 1) rfl
theorem dX8_lips_43 : decode cX8_lips 43 = .ok (.irem, 1) := tb_d tk_X8_lips_1 31 (43, .irem, 1) rfl
theorem dX8_lips_44 : decode cX8_lips 44 = .ok (.if_icmp .ne 7, 3) := tb_d tk_X8_lips_1 32 (44, .if_icmp .ne 7, 3) rfl
theorem dX8_lips_47 : decode cX8_lips 47 = .ok (.iconst 1, 1) := tb_d tk_X8_lips_1 33 (47, .iconst 1, 1) rfl
theorem dX8_lips_48 : decode cX8_lips 48 = .ok (.goto 4, 3) := tb_d tk_X8_lips_1 34 (48, .goto 4, 3) rfl
theorem dX8_lips_51 : decode cX8_lips 51 = .ok (.iconst 0, 1) := tb_d tk_X8_lips_1 35 (51, .iconst 0, 1) rfl
theorem dX8_lips_52 : decode cX8_lips 52 = .ok (.iadd, 1) := tb_d tk_X8_lips_1 36 (52, .iadd, 1) rfl
theorem dX8_lips_53 : decode cX8_lips 53 = .ok (.istore_n 3, 1) := tb_d tk_X8_lips_1 37 (53, .istore_n 3, 1) rfl
theorem dX8_lips_54 : decode cX8_lips 54 = .ok (.iinc 4 1, 3) := tb_d tk_X8_lips_1 38 (54, .iinc 4 1, 3) rfl
theorem dX8_lips_57 : decode cX8_lips 57 = .ok (.goto (-52), 3) := tb_d tk_X8_lips_1 39 (57, .goto (-52), 3) rfl
def tb_X8_lips_2 : List (Nat × Instr × Nat) := [(60, .iload_n 3, 1), (61, .ireturn, 1)]
set_option maxRecDepth 100000 in
theorem tk_X8_lips_2 : (tb_X8_lips_2.all fun q => decide (decode cX8_lips q.1 = .ok q.2)) = true := by decide +kernel
theorem dX8_lips_60 : decode cX8_lips 60 = .ok (.iload_n 3, 1) := tb_d tk_X8_lips_2 0 (60, .iload_n 3, 1) rfl
theorem dX8_lips_61 : decode cX8_lips 61 = .ok (.ireturn, 1) := tb_d tk_X8_lips_2 1 (61, .ireturn, 1) rfl
theorem ggX8_takesBy_X8_distance : GoodIn wsX8_takesBy wsX8_distance := fun w h => ⟨List.mem_cons_of_mem _ (List.mem_append_right _ (List.mem_append_right _ (List.mem_append_right _ (List.mem_append_right _ (List.mem_append_left _ h))))), good_of_word (gdX8_distance w h)⟩
set_option maxRecDepth 20000 in
theorem gX8_takesBy_X8_distance : GoodIn wsX8_takesBy (wsV RX8 152 RX8 yX8_distance wsX8_distance) := goodIn_app (a := bkV RX8 152 RX8 yX8_distance) (fun w h => ⟨List.mem_cons_of_mem _ (List.mem_append_right _ (List.mem_append_left _ h)), good_of_word (gd_bV _ _ _ _ w h)⟩) ggX8_takesBy_X8_distance
theorem ggX8_takesBy_X8_lips : GoodIn wsX8_takesBy wsX8_lips := fun w h => ⟨List.mem_cons_of_mem _ (List.mem_append_right _ (List.mem_append_right _ (List.mem_append_right _ (List.mem_append_right _ (List.mem_append_right _ (List.mem_append_left _ h)))))), good_of_word (gdX8_lips w h)⟩
set_option maxRecDepth 20000 in
theorem gX8_takesBy_X8_lips : GoodIn wsX8_takesBy (wsV RX8 155 RX8 yX8_lips wsX8_lips) := goodIn_app (a := bkV RX8 155 RX8 yX8_lips) (fun w h => ⟨List.mem_cons_of_mem _ (List.mem_append_right _ (List.mem_append_right _ (List.mem_append_left _ h))), good_of_word (gd_bV _ _ _ _ w h)⟩) ggX8_takesBy_X8_lips
def tb_X8_takesBy_1 : List (Nat × Instr × Nat) := [(0, .iload_n 1, 1), (1, .tableswitch 100 1 4 #[31, 46, 62, 84], 31), (32, .aload_n 0, 1), (33, .iload_n 2, 1), (34, .iload_n 3, 1), (35, .invokevirtual 152, 3), (38, .ifCond .ne 7, 3), (41, .iconst 1, 1), (42, .goto 4, 3), (45, .iconst 0, 1), (46, .ireturn, 1), (47, .aload_n 0, 1), (48, .iload_n 2, 1), (49, .iload_n 3, 1), (50, .invokevirtual 152, 3), (53, .iconst 2, 1), (54, .if_icmp .ge 7, 3), (57, .iconst 1, 1), (58, .goto 4, 3), (61, .iconst 0, 1), (62, .ireturn, 1), (63, .aload_n 0, 1), (64, .iload_n 2, 1), (65, .iload_n 3, 1), (66, .invokevirtual 152, 3), (69, .ifCond .ne 14, 3), (72, .iload 4, 2), (74, .iconst 2, 1), (75, .irem, 1), (76, .ifCond .ne 7, 3), (79, .iconst 1, 1), (80, .goto 4, 3), (83, .iconst 0, 1), (84, .ireturn, 1), (85, .aload_n 0, 1), (86, .iload_n 2, 1), (87, .iload_n 3, 1), (88, .invokevirtual 155, 3), (91, .iconst 3, 1), (92, .if_icmp .ne 7, 3)]
set_option maxRecDepth 100000 in
theorem tk_X8_takesBy_1 : (tb_X8_takesBy_1.all fun q => decide (decode cX8_takesBy q.1 = .ok q.2)) = true := by decide +kernel
theorem dX8_takesBy_0 : decode cX8_takesBy 0 = .ok (.iload_n 1, 1) := tb_d tk_X8_takesBy_1 0 (0, .iload_n 1, 1) rfl
theorem dX8_takesBy_1 : decode cX8_takesBy 1 = .ok (.tableswitch 100 1 4 #[31, 46, 62, 84], 31) := tb_d tk_X8_takesBy_1 1 (1, .tableswitch 100 1 4 #[31, 46, 62, 84], 31) rfl
theorem dX8_takesBy_32 : decode cX8_takesBy 32 = .ok (.aload_n 0, 1) := tb_d tk_X8_takesBy_1 2 (32, .aload_n 0, 1) rfl
theorem dX8_takesBy_33 : decode cX8_takesBy 33 = .ok (.iload_n 2, 1) := tb_d tk_X8_takesBy_1 3 (33, .iload_n 2, 1) rfl
theorem dX8_takesBy_34 : decode cX8_takesBy 34 = .ok (.iload_n 3, 1) := tb_d tk_X8_takesBy_1 4 (34, .iload_n 3, 1) rfl
theorem dX8_takesBy_35 : decode cX8_takesBy 35 = .ok (.invokevirtual 152, 3) := tb_d tk_X8_takesBy_1 5 (35, .invokevirtual 152, 3) rfl
theorem dX8_takesBy_38 : decode cX8_takesBy 38 = .ok (.ifCond .ne 7, 3) := tb_d tk_X8_takesBy_1 6 (38, .ifCond .ne 7, 3) rfl
theorem dX8_takesBy_41 : decode cX8_takesBy 41 = .ok (.iconst 1, 1) := tb_d tk_X8_takesBy_1 7 (41, .iconst 1, 1) rfl
theorem dX8_takesBy_42 : decode cX8_takesBy 42 = .ok (.goto 4, 3) := tb_d tk_X8_takesBy_1 8 (42, .goto 4, 3) rfl
theorem dX8_takesBy_45 : decode cX8_takesBy 45 = .ok (.iconst 0, 1) := tb_d tk_X8_takesBy_1 9 (45, .iconst 0, 1) rfl
theorem dX8_takesBy_46 : decode cX8_takesBy 46 = .ok (.ireturn, 1) := tb_d tk_X8_takesBy_1 10 (46, .ireturn, 1) rfl
theorem dX8_takesBy_47 : decode cX8_takesBy 47 = .ok (.aload_n 0, 1) := tb_d tk_X8_takesBy_1 11 (47, .aload_n 0, 1) rfl
theorem dX8_takesBy_48 : decode cX8_takesBy 48 = .ok (.iload_n 2, 1) := tb_d tk_X8_takesBy_1 12 (48, .iload_n 2, 1) rfl
theorem dX8_takesBy_49 : decode cX8_takesBy 49 = .ok (.iload_n 3, 1) := tb_d tk_X8_takesBy_1 13 (49, .iload_n 3, 1) rfl
theorem dX8_takesBy_50 : decode cX8_takesBy 50 = .ok (.invokevirtual 152, 3) := tb_d tk_X8_takesBy_1 14 (50, .invokevirtual 152, 3) rfl
theorem dX8_takesBy_53 : decode cX8_takesBy 53 = .ok (.iconst 2, 1) := tb_d tk_X8_takesBy_1 15 (53, .iconst 2, 1) rfl
theorem dX8_takesBy_54 : decode cX8_takesBy 54 = .ok (.if_icmp .ge 7, 3) := tb_d tk_X8_takesBy_1 16 (54, .if_icmp .ge 7, 3) rfl
theorem dX8_takesBy_57 : decode cX8_takesBy 57 = .ok (.iconst 1, 1) := tb_d tk_X8_takesBy_1 17 (57, .iconst 1, 1) rfl
theorem dX8_takesBy_58 : decode cX8_takesBy 58 = .ok (.goto 4, 3) := tb_d tk_X8_takesBy_1 18 (58, .goto 4, 3) rfl
theorem dX8_takesBy_61 : decode cX8_takesBy 61 = .ok (.iconst 0, 1) := tb_d tk_X8_takesBy_1 19 (61, .iconst 0, 1) rfl
theorem dX8_takesBy_62 : decode cX8_takesBy 62 = .ok (.ireturn, 1) := tb_d tk_X8_takesBy_1 20 (62, .ireturn, 1) rfl
theorem dX8_takesBy_63 : decode cX8_takesBy 63 = .ok (.aload_n 0, 1) := tb_d tk_X8_takesBy_1 21 (63, .aload_n 0, 1) rfl
theorem dX8_takesBy_64 : decode cX8_takesBy 64 = .ok (.iload_n 2, 1) := tb_d tk_X8_takesBy_1 22 (64, .iload_n 2, 1) rfl
theorem dX8_takesBy_65 : decode cX8_takesBy 65 = .ok (.iload_n 3, 1) := tb_d tk_X8_takesBy_1 23 (65, .iload_n 3, 1) rfl
theorem dX8_takesBy_66 : decode cX8_takesBy 66 = .ok (.invokevirtual 152, 3) := tb_d tk_X8_takesBy_1 24 (66, .invokevirtual 152, 3) rfl
theorem dX8_takesBy_69 : decode cX8_takesBy 69 = .ok (.ifCond .ne 14, 3) := tb_d tk_X8_takesBy_1 25 (69, .ifCond .ne 14, 3) rfl
theorem dX8_takesBy_72 : decode cX8_takesBy 72 = .ok (.iload 4, 2) := tb_d tk_X8_takesBy_1 26 (72, .iload 4, 2) rfl
theorem dX8_takesBy_74 : decode cX8_takesBy 74 = .ok (.iconst 2, 1) := tb_d tk_X8_takesBy_1 27 (74, .iconst 2, 1) rfl
theorem dX8_takesBy_75 : decode cX8_takesBy 75 = .ok (.irem, 1) := tb_d tk_X8_takesBy_1 28 (75, .irem, 1) rfl
theorem dX8_takesBy_76 : decode cX8_takesBy 76 = .ok (.ifCond .ne 7, 3) := tb_d tk_X8_takesBy_1 29 (76, .ifCond .ne 7, 3) rfl
theorem dX8_takesBy_79 : decode cX8_takesBy 79 = .ok (.iconst 1, 1) := tb_d tk_X8_takesBy_1 30 (79, .iconst 1, 1) rfl
theorem dX8_takesBy_80 : decode cX8_takesBy 80 = .ok (.goto 4, 3) := tb_d tk_X8_takesBy_1 31 (80, .goto 4, 3) rfl
theorem dX8_takesBy_83 : decode cX8_takesBy 83 = .ok (.iconst 0, 1) := tb_d tk_X8_takesBy_1 32 (83, .iconst 0, 1) rfl
theorem dX8_takesBy_84 : decode cX8_takesBy 84 = .ok (.ireturn, 1) := tb_d tk_X8_takesBy_1 33 (84, .ireturn, 1) rfl
theorem dX8_takesBy_85 : decode cX8_takesBy 85 = .ok (.aload_n 0, 1) := tb_d tk_X8_takesBy_1 34 (85, .aload_n 0, 1) rfl
theorem dX8_takesBy_86 : decode cX8_takesBy 86 = .ok (.iload_n 2, 1) := tb_d tk_X8_takesBy_1 35 (86, .iload_n 2, 1) rfl
theorem dX8_takesBy_87 : decode cX8_takesBy 87 = .ok (.iload_n 3, 1) := tb_d tk_X8_takesBy_1 36 (87, .iload_n 3, 1) rfl
theorem dX8_takesBy_88 : decode cX8_takesBy 88 = .ok (.invokevirtual 155, 3) := tb_d tk_X8_takesBy_1 37 (88, .invokevirtual 155, 3) rfl
theorem dX8_takesBy_91 : decode cX8_takesBy 91 = .ok (.iconst 3, 1) := tb_d tk_X8_takesBy_1 38 (91, .iconst 3, 1) rfl
theorem dX8_takesBy_92 : decode cX8_takesBy 92 = .ok (.if_icmp .ne 7, 3) := tb_d tk_X8_takesBy_1 39 (92, .if_icmp .ne 7, 3) rfl
def tb_X8_takesBy_2 : List (Nat × Instr × Nat) := [(95, .iconst 1, 1), (96, .goto 4, 3), (99, .iconst 0, 1), (100, .ireturn, 1), (101, .aload_n 0, 1), (102, .iload_n 2, 1), (103, .iload_n 3, 1), (104, .invokevirtual 155, 3), (107, .iconst 1, 1), (108, .if_icmp .le 7, 3), (111, .iconst 1, 1), (112, .goto 4, 3), (115, .iconst 0, 1), (116, .ireturn, 1)]
set_option maxRecDepth 100000 in
theorem tk_X8_takesBy_2 : (tb_X8_takesBy_2.all fun q => decide (decode cX8_takesBy q.1 = .ok q.2)) = true := by decide +kernel
theorem dX8_takesBy_95 : decode cX8_takesBy 95 = .ok (.iconst 1, 1) := tb_d tk_X8_takesBy_2 0 (95, .iconst 1, 1) rfl
theorem dX8_takesBy_96 : decode cX8_takesBy 96 = .ok (.goto 4, 3) := tb_d tk_X8_takesBy_2 1 (96, .goto 4, 3) rfl
theorem dX8_takesBy_99 : decode cX8_takesBy 99 = .ok (.iconst 0, 1) := tb_d tk_X8_takesBy_2 2 (99, .iconst 0, 1) rfl
theorem dX8_takesBy_100 : decode cX8_takesBy 100 = .ok (.ireturn, 1) := tb_d tk_X8_takesBy_2 3 (100, .ireturn, 1) rfl
theorem dX8_takesBy_101 : decode cX8_takesBy 101 = .ok (.aload_n 0, 1) := tb_d tk_X8_takesBy_2 4 (101, .aload_n 0, 1) rfl
theorem dX8_takesBy_102 : decode cX8_takesBy 102 = .ok (.iload_n 2, 1) := tb_d tk_X8_takesBy_2 5 (102, .iload_n 2, 1) rfl
theorem dX8_takesBy_103 : decode cX8_takesBy 103 = .ok (.iload_n 3, 1) := tb_d tk_X8_takesBy_2 6 (103, .iload_n 3, 1) rfl
theorem dX8_takesBy_104 : decode cX8_takesBy 104 = .ok (.invokevirtual 155, 3) := tb_d tk_X8_takesBy_2 7 (104, .invokevirtual 155, 3) rfl
theorem dX8_takesBy_107 : decode cX8_takesBy 107 = .ok (.iconst 1, 1) := tb_d tk_X8_takesBy_2 8 (107, .iconst 1, 1) rfl
theorem dX8_takesBy_108 : decode cX8_takesBy 108 = .ok (.if_icmp .le 7, 3) := tb_d tk_X8_takesBy_2 9 (108, .if_icmp .le 7, 3) rfl
theorem dX8_takesBy_111 : decode cX8_takesBy 111 = .ok (.iconst 1, 1) := tb_d tk_X8_takesBy_2 10 (111, .iconst 1, 1) rfl
theorem dX8_takesBy_112 : decode cX8_takesBy 112 = .ok (.goto 4, 3) := tb_d tk_X8_takesBy_2 11 (112, .goto 4, 3) rfl
theorem dX8_takesBy_115 : decode cX8_takesBy 115 = .ok (.iconst 0, 1) := tb_d tk_X8_takesBy_2 12 (115, .iconst 0, 1) rfl
theorem dX8_takesBy_116 : decode cX8_takesBy 116 = .ok (.ireturn, 1) := tb_d tk_X8_takesBy_2 13 (116, .ireturn, 1) rfl
def tb_X8_guardOn_1 : List (Nat × Instr × Nat) := [(0, .iload_n 2, 1), (1, .iload_n 1, 1), (2, .iadd, 1), (3, .aload_n 0, 1), (4, .getfield 25, 3), (7, .iconst 4, 1), (8, .iaload, 1), (9, .irem, 1), (10, .ireturn, 1)]
set_option maxRecDepth 100000 in
theorem tk_X8_guardOn_1 : (tb_X8_guardOn_1.all fun q => decide (decode cX8_guardOn q.1 = .ok q.2)) = true := by decide +kernel
theorem dX8_guardOn_0 : decode cX8_guardOn 0 = .ok (.iload_n 2, 1) := tb_d tk_X8_guardOn_1 0 (0, .iload_n 2, 1) rfl
theorem dX8_guardOn_1 : decode cX8_guardOn 1 = .ok (.iload_n 1, 1) := tb_d tk_X8_guardOn_1 1 (1, .iload_n 1, 1) rfl
theorem dX8_guardOn_2 : decode cX8_guardOn 2 = .ok (.iadd, 1) := tb_d tk_X8_guardOn_1 2 (2, .iadd, 1) rfl
theorem dX8_guardOn_3 : decode cX8_guardOn 3 = .ok (.aload_n 0, 1) := tb_d tk_X8_guardOn_1 3 (3, .aload_n 0, 1) rfl
theorem dX8_guardOn_4 : decode cX8_guardOn 4 = .ok (.getfield 25, 3) := tb_d tk_X8_guardOn_1 4 (4, .getfield 25, 3) rfl
theorem dX8_guardOn_7 : decode cX8_guardOn 7 = .ok (.iconst 4, 1) := tb_d tk_X8_guardOn_1 5 (7, .iconst 4, 1) rfl
theorem dX8_guardOn_8 : decode cX8_guardOn 8 = .ok (.iaload, 1) := tb_d tk_X8_guardOn_1 6 (8, .iaload, 1) rfl
theorem dX8_guardOn_9 : decode cX8_guardOn 9 = .ok (.irem, 1) := tb_d tk_X8_guardOn_1 7 (9, .irem, 1) rfl
theorem dX8_guardOn_10 : decode cX8_guardOn 10 = .ok (.ireturn, 1) := tb_d tk_X8_guardOn_1 8 (10, .ireturn, 1) rfl
def tb_X8_kindIn_1 : List (Nat × Instr × Nat) := [(0, .aload_n 0, 1), (1, .getfield 25, 3), (4, .bipush 26, 2), (6, .iconst 3, 1), (7, .iload_n 1, 1), (8, .imul, 1), (9, .iadd, 1), (10, .iaload, 1), (11, .ireturn, 1)]
set_option maxRecDepth 100000 in
theorem tk_X8_kindIn_1 : (tb_X8_kindIn_1.all fun q => decide (decode cX8_kindIn q.1 = .ok q.2)) = true := by decide +kernel
theorem dX8_kindIn_0 : decode cX8_kindIn 0 = .ok (.aload_n 0, 1) := tb_d tk_X8_kindIn_1 0 (0, .aload_n 0, 1) rfl
theorem dX8_kindIn_1 : decode cX8_kindIn 1 = .ok (.getfield 25, 3) := tb_d tk_X8_kindIn_1 1 (1, .getfield 25, 3) rfl
theorem dX8_kindIn_4 : decode cX8_kindIn 4 = .ok (.bipush 26, 2) := tb_d tk_X8_kindIn_1 2 (4, .bipush 26, 2) rfl
theorem dX8_kindIn_6 : decode cX8_kindIn 6 = .ok (.iconst 3, 1) := tb_d tk_X8_kindIn_1 3 (6, .iconst 3, 1) rfl
theorem dX8_kindIn_7 : decode cX8_kindIn 7 = .ok (.iload_n 1, 1) := tb_d tk_X8_kindIn_1 4 (7, .iload_n 1, 1) rfl
theorem dX8_kindIn_8 : decode cX8_kindIn 8 = .ok (.imul, 1) := tb_d tk_X8_kindIn_1 5 (8, .imul, 1) rfl
theorem dX8_kindIn_9 : decode cX8_kindIn 9 = .ok (.iadd, 1) := tb_d tk_X8_kindIn_1 6 (9, .iadd, 1) rfl
theorem dX8_kindIn_10 : decode cX8_kindIn 10 = .ok (.iaload, 1) := tb_d tk_X8_kindIn_1 7 (10, .iaload, 1) rfl
theorem dX8_kindIn_11 : decode cX8_kindIn 11 = .ok (.ireturn, 1) := tb_d tk_X8_kindIn_1 8 (11, .ireturn, 1) rfl
theorem ggX8_isTaken_X8_guardOn : GoodIn wsX8_isTaken wsX8_guardOn := fun w h => ⟨List.mem_cons_of_mem _ (List.mem_append_right _ (List.mem_append_right _ (List.mem_append_right _ (List.mem_append_right _ (List.mem_append_right _ (List.mem_append_right _ (List.mem_append_left _ h))))))), good_of_word (gdX8_guardOn w h)⟩
set_option maxRecDepth 20000 in
theorem gX8_isTaken_X8_guardOn : GoodIn wsX8_isTaken (wsV RX8 158 RX8 yX8_guardOn wsX8_guardOn) := goodIn_app (a := bkV RX8 158 RX8 yX8_guardOn) (fun w h => ⟨List.mem_cons_of_mem _ (List.mem_append_right _ (List.mem_append_left _ h)), good_of_word (gd_bV _ _ _ _ w h)⟩) ggX8_isTaken_X8_guardOn
theorem ggX8_isTaken_X8_has : GoodIn wsX8_isTaken wsX8_has := fun w h => ⟨List.mem_cons_of_mem _ (List.mem_append_right _ (List.mem_append_right _ (List.mem_append_right _ (List.mem_append_right _ (List.mem_append_right _ (List.mem_append_right _ (List.mem_append_right _ (List.mem_append_left _ h)))))))), good_of_word (gdX8_has w h)⟩
set_option maxRecDepth 20000 in
theorem gX8_isTaken_X8_has : GoodIn wsX8_isTaken (va_wsS RX8 161 yX8_has wsX8_has) := goodIn_app (a := bkS RX8 161 yX8_has) (fun w h => ⟨List.mem_cons_of_mem _ (List.mem_append_right _ (List.mem_append_right _ (List.mem_append_left _ h))), good_of_word (gd_bS _ _ _ w h)⟩) ggX8_isTaken_X8_has
theorem ggX8_isTaken_X8_kindIn : GoodIn wsX8_isTaken wsX8_kindIn := fun w h => ⟨List.mem_cons_of_mem _ (List.mem_append_right _ (List.mem_append_right _ (List.mem_append_right _ (List.mem_append_right _ (List.mem_append_right _ (List.mem_append_right _ (List.mem_append_right _ (List.mem_append_right _ (List.mem_append_left _ h))))))))), good_of_word (gdX8_kindIn w h)⟩
set_option maxRecDepth 20000 in
theorem gX8_isTaken_X8_kindIn : GoodIn wsX8_isTaken (wsV RX8 165 RX8 yX8_kindIn wsX8_kindIn) := goodIn_app (a := bkV RX8 165 RX8 yX8_kindIn) (fun w h => ⟨List.mem_cons_of_mem _ (List.mem_append_right _ (List.mem_append_right _ (List.mem_append_right _ (List.mem_append_left _ h)))), good_of_word (gd_bV _ _ _ _ w h)⟩) ggX8_isTaken_X8_kindIn
theorem ggX8_isTaken_X8_takesBy : GoodIn wsX8_isTaken wsX8_takesBy := fun w h => ⟨List.mem_cons_of_mem _ (List.mem_append_right _ (List.mem_append_right _ (List.mem_append_right _ (List.mem_append_right _ (List.mem_append_right _ (List.mem_append_right _ (List.mem_append_right _ (List.mem_append_right _ (List.mem_append_right _ (List.mem_append_left _ h)))))))))), good_of_word (gdX8_takesBy w h)⟩
set_option maxRecDepth 20000 in
theorem gX8_isTaken_X8_takesBy : GoodIn wsX8_isTaken (wsV RX8 168 RX8 yX8_takesBy wsX8_takesBy) := goodIn_app (a := bkV RX8 168 RX8 yX8_takesBy) (fun w h => ⟨List.mem_cons_of_mem _ (List.mem_append_right _ (List.mem_append_right _ (List.mem_append_right _ (List.mem_append_right _ (List.mem_append_left _ h))))), good_of_word (gd_bV _ _ _ _ w h)⟩) ggX8_isTaken_X8_takesBy
def tb_X8_isTaken_1 : List (Nat × Instr × Nat) := [(0, .aload_n 0, 1), (1, .iload_n 2, 1), (2, .iload_n 3, 1), (3, .invokevirtual 158, 3), (6, .istore 6, 2), (8, .iload 4, 2), (10, .iload 6, 2), (12, .invokestatic 161, 3), (15, .ifCond .eq 24, 3), (18, .aload_n 0, 1), (19, .aload_n 0, 1), (20, .iload 6, 2), (22, .invokevirtual 165, 3), (25, .iload_n 1, 1), (26, .iload 5, 2), (28, .iload_n 3, 1), (29, .invokevirtual 168, 3), (32, .ifCond .eq 7, 3), (35, .iconst 1, 1), (36, .goto 4, 3), (39, .iconst 0, 1), (40, .ireturn, 1)]
set_option maxRecDepth 100000 in
theorem tk_X8_isTaken_1 : (tb_X8_isTaken_1.all fun q => decide (decode cX8_isTaken q.1 = .ok q.2)) = true := by decide +kernel
theorem dX8_isTaken_0 : decode cX8_isTaken 0 = .ok (.aload_n 0, 1) := tb_d tk_X8_isTaken_1 0 (0, .aload_n 0, 1) rfl
theorem dX8_isTaken_1 : decode cX8_isTaken 1 = .ok (.iload_n 2, 1) := tb_d tk_X8_isTaken_1 1 (1, .iload_n 2, 1) rfl
theorem dX8_isTaken_2 : decode cX8_isTaken 2 = .ok (.iload_n 3, 1) := tb_d tk_X8_isTaken_1 2 (2, .iload_n 3, 1) rfl
theorem dX8_isTaken_3 : decode cX8_isTaken 3 = .ok (.invokevirtual 158, 3) := tb_d tk_X8_isTaken_1 3 (3, .invokevirtual 158, 3) rfl
theorem dX8_isTaken_6 : decode cX8_isTaken 6 = .ok (.istore 6, 2) := tb_d tk_X8_isTaken_1 4 (6, .istore 6, 2) rfl
theorem dX8_isTaken_8 : decode cX8_isTaken 8 = .ok (.iload 4, 2) := tb_d tk_X8_isTaken_1 5 (8, .iload 4, 2) rfl
theorem dX8_isTaken_10 : decode cX8_isTaken 10 = .ok (.iload 6, 2) := tb_d tk_X8_isTaken_1 6 (10, .iload 6, 2) rfl
theorem dX8_isTaken_12 : decode cX8_isTaken 12 = .ok (.invokestatic 161, 3) := tb_d tk_X8_isTaken_1 7 (12, .invokestatic 161, 3) rfl
theorem dX8_isTaken_15 : decode cX8_isTaken 15 = .ok (.ifCond .eq 24, 3) := tb_d tk_X8_isTaken_1 8 (15, .ifCond .eq 24, 3) rfl
theorem dX8_isTaken_18 : decode cX8_isTaken 18 = .ok (.aload_n 0, 1) := tb_d tk_X8_isTaken_1 9 (18, .aload_n 0, 1) rfl
theorem dX8_isTaken_19 : decode cX8_isTaken 19 = .ok (.aload_n 0, 1) := tb_d tk_X8_isTaken_1 10 (19, .aload_n 0, 1) rfl
theorem dX8_isTaken_20 : decode cX8_isTaken 20 = .ok (.iload 6, 2) := tb_d tk_X8_isTaken_1 11 (20, .iload 6, 2) rfl
theorem dX8_isTaken_22 : decode cX8_isTaken 22 = .ok (.invokevirtual 165, 3) := tb_d tk_X8_isTaken_1 12 (22, .invokevirtual 165, 3) rfl
theorem dX8_isTaken_25 : decode cX8_isTaken 25 = .ok (.iload_n 1, 1) := tb_d tk_X8_isTaken_1 13 (25, .iload_n 1, 1) rfl
theorem dX8_isTaken_26 : decode cX8_isTaken 26 = .ok (.iload 5, 2) := tb_d tk_X8_isTaken_1 14 (26, .iload 5, 2) rfl
theorem dX8_isTaken_28 : decode cX8_isTaken 28 = .ok (.iload_n 3, 1) := tb_d tk_X8_isTaken_1 15 (28, .iload_n 3, 1) rfl
theorem dX8_isTaken_29 : decode cX8_isTaken 29 = .ok (.invokevirtual 168, 3) := tb_d tk_X8_isTaken_1 16 (29, .invokevirtual 168, 3) rfl
theorem dX8_isTaken_32 : decode cX8_isTaken 32 = .ok (.ifCond .eq 7, 3) := tb_d tk_X8_isTaken_1 17 (32, .ifCond .eq 7, 3) rfl
theorem dX8_isTaken_35 : decode cX8_isTaken 35 = .ok (.iconst 1, 1) := tb_d tk_X8_isTaken_1 18 (35, .iconst 1, 1) rfl
theorem dX8_isTaken_36 : decode cX8_isTaken 36 = .ok (.goto 4, 3) := tb_d tk_X8_isTaken_1 19 (36, .goto 4, 3) rfl
theorem dX8_isTaken_39 : decode cX8_isTaken 39 = .ok (.iconst 0, 1) := tb_d tk_X8_isTaken_1 20 (39, .iconst 0, 1) rfl
theorem dX8_isTaken_40 : decode cX8_isTaken 40 = .ok (.ireturn, 1) := tb_d tk_X8_isTaken_1 21 (40, .ireturn, 1) rfl
theorem ggX8_isTakenNow_X8_secretOf : GoodIn wsX8_isTakenNow wsX8_secretOf := fun w h => ⟨List.mem_cons_of_mem _ (List.mem_append_right _ (List.mem_append_right _ (List.mem_append_right _ (List.mem_append_right _ (List.mem_append_left _ h))))), good_of_word (gdX8_secretOf w h)⟩
set_option maxRecDepth 20000 in
theorem gX8_isTakenNow_X8_secretOf : GoodIn wsX8_isTakenNow (va_wsS RX8 172 yX8_secretOf wsX8_secretOf) := goodIn_app (a := bkS RX8 172 yX8_secretOf) (fun w h => ⟨List.mem_cons_of_mem _ (List.mem_append_right _ (List.mem_append_left _ h)), good_of_word (gd_bS _ _ _ w h)⟩) ggX8_isTakenNow_X8_secretOf
theorem ggX8_isTakenNow_X8_isTaken : GoodIn wsX8_isTakenNow wsX8_isTaken := fun w h => ⟨List.mem_cons_of_mem _ (List.mem_append_right _ (List.mem_append_right _ (List.mem_append_right _ (List.mem_append_right _ (List.mem_append_right _ (List.mem_append_left _ h)))))), good_of_word (gdX8_isTaken w h)⟩
set_option maxRecDepth 20000 in
theorem gX8_isTakenNow_X8_isTaken : GoodIn wsX8_isTakenNow (wsV RX8 176 RX8 yX8_isTaken wsX8_isTaken) := goodIn_app (a := bkV RX8 176 RX8 yX8_isTaken) (fun w h => ⟨List.mem_cons_of_mem _ (List.mem_append_right _ (List.mem_append_right _ (List.mem_append_left _ h))), good_of_word (gd_bV _ _ _ _ w h)⟩) ggX8_isTakenNow_X8_isTaken
def tb_X8_isTakenNow_1 : List (Nat × Instr × Nat) := [(0, .aload_n 0, 1), (1, .getfield 25, 3), (4, .iconst 5, 1), (5, .iaload, 1), (6, .iload_n 3, 1), (7, .iadd, 1), (8, .istore 4, 2), (10, .aload_n 0, 1), (11, .iload_n 1, 1), (12, .iload_n 2, 1), (13, .iload 4, 2), (15, .aload_n 0, 1), (16, .getfield 25, 3), (19, .bipush 6, 2), (21, .iaload, 1), (22, .aload_n 0, 1), (23, .getfield 25, 3), (26, .iload 4, 2), (28, .invokestatic 172, 3), (31, .invokevirtual 176, 3), (34, .ireturn, 1)]
set_option maxRecDepth 100000 in
theorem tk_X8_isTakenNow_1 : (tb_X8_isTakenNow_1.all fun q => decide (decode cX8_isTakenNow q.1 = .ok q.2)) = true := by decide +kernel
theorem dX8_isTakenNow_0 : decode cX8_isTakenNow 0 = .ok (.aload_n 0, 1) := tb_d tk_X8_isTakenNow_1 0 (0, .aload_n 0, 1) rfl
theorem dX8_isTakenNow_1 : decode cX8_isTakenNow 1 = .ok (.getfield 25, 3) := tb_d tk_X8_isTakenNow_1 1 (1, .getfield 25, 3) rfl
theorem dX8_isTakenNow_4 : decode cX8_isTakenNow 4 = .ok (.iconst 5, 1) := tb_d tk_X8_isTakenNow_1 2 (4, .iconst 5, 1) rfl
theorem dX8_isTakenNow_5 : decode cX8_isTakenNow 5 = .ok (.iaload, 1) := tb_d tk_X8_isTakenNow_1 3 (5, .iaload, 1) rfl
theorem dX8_isTakenNow_6 : decode cX8_isTakenNow 6 = .ok (.iload_n 3, 1) := tb_d tk_X8_isTakenNow_1 4 (6, .iload_n 3, 1) rfl
theorem dX8_isTakenNow_7 : decode cX8_isTakenNow 7 = .ok (.iadd, 1) := tb_d tk_X8_isTakenNow_1 5 (7, .iadd, 1) rfl
theorem dX8_isTakenNow_8 : decode cX8_isTakenNow 8 = .ok (.istore 4, 2) := tb_d tk_X8_isTakenNow_1 6 (8, .istore 4, 2) rfl
theorem dX8_isTakenNow_10 : decode cX8_isTakenNow 10 = .ok (.aload_n 0, 1) := tb_d tk_X8_isTakenNow_1 7 (10, .aload_n 0, 1) rfl
theorem dX8_isTakenNow_11 : decode cX8_isTakenNow 11 = .ok (.iload_n 1, 1) := tb_d tk_X8_isTakenNow_1 8 (11, .iload_n 1, 1) rfl
theorem dX8_isTakenNow_12 : decode cX8_isTakenNow 12 = .ok (.iload_n 2, 1) := tb_d tk_X8_isTakenNow_1 9 (12, .iload_n 2, 1) rfl
theorem dX8_isTakenNow_13 : decode cX8_isTakenNow 13 = .ok (.iload 4, 2) := tb_d tk_X8_isTakenNow_1 10 (13, .iload 4, 2) rfl
theorem dX8_isTakenNow_15 : decode cX8_isTakenNow 15 = .ok (.aload_n 0, 1) := tb_d tk_X8_isTakenNow_1 11 (15, .aload_n 0, 1) rfl
theorem dX8_isTakenNow_16 : decode cX8_isTakenNow 16 = .ok (.getfield 25, 3) := tb_d tk_X8_isTakenNow_1 12 (16, .getfield 25, 3) rfl
theorem dX8_isTakenNow_19 : decode cX8_isTakenNow 19 = .ok (.bipush 6, 2) := tb_d tk_X8_isTakenNow_1 13 (19, .bipush 6, 2) rfl
theorem dX8_isTakenNow_21 : decode cX8_isTakenNow 21 = .ok (.iaload, 1) := tb_d tk_X8_isTakenNow_1 14 (21, .iaload, 1) rfl
theorem dX8_isTakenNow_22 : decode cX8_isTakenNow 22 = .ok (.aload_n 0, 1) := tb_d tk_X8_isTakenNow_1 15 (22, .aload_n 0, 1) rfl
theorem dX8_isTakenNow_23 : decode cX8_isTakenNow 23 = .ok (.getfield 25, 3) := tb_d tk_X8_isTakenNow_1 16 (23, .getfield 25, 3) rfl
theorem dX8_isTakenNow_26 : decode cX8_isTakenNow 26 = .ok (.iload 4, 2) := tb_d tk_X8_isTakenNow_1 17 (26, .iload 4, 2) rfl
theorem dX8_isTakenNow_28 : decode cX8_isTakenNow 28 = .ok (.invokestatic 172, 3) := tb_d tk_X8_isTakenNow_1 18 (28, .invokestatic 172, 3) rfl
theorem dX8_isTakenNow_31 : decode cX8_isTakenNow 31 = .ok (.invokevirtual 176, 3) := tb_d tk_X8_isTakenNow_1 19 (31, .invokevirtual 176, 3) rfl
theorem dX8_isTakenNow_34 : decode cX8_isTakenNow 34 = .ok (.ireturn, 1) := tb_d tk_X8_isTakenNow_1 20 (34, .ireturn, 1) rfl
theorem ggX8_notes_X8_copies : GoodIn wsX8_notes wsX8_copies := fun w h => ⟨List.mem_cons_of_mem _ (List.mem_append_right _ (List.mem_append_right _ (List.mem_append_right _ (List.mem_append_left _ h)))), good_of_word (gdX8_copies w h)⟩
set_option maxRecDepth 20000 in
theorem gX8_notes_X8_copies : GoodIn wsX8_notes (va_wsS RX8 145 yX8_copies wsX8_copies) := goodIn_app (a := bkS RX8 145 yX8_copies) (fun w h => ⟨List.mem_cons_of_mem _ (List.mem_append_right _ (List.mem_append_left _ h)), good_of_word (gd_bS _ _ _ w h)⟩) ggX8_notes_X8_copies
def tb_X8_notes_1 : List (Nat × Instr × Nat) := [(0, .aload_n 0, 1), (1, .getfield 149, 3), (4, .bipush 24, 2), (6, .if_icmp .ne 43, 3), (9, .iconst 0, 1), (10, .istore_n 1, 1), (11, .iload_n 1, 1), (12, .sipush 1495, 3), (15, .if_icmp .ge 24, 3), (18, .aload_n 0, 1), (19, .getfield 34, 3), (22, .iload_n 1, 1), (23, .aload_n 0, 1), (24, .getfield 34, 3), (27, .iload_n 1, 1), (28, .bipush 65, 2), (30, .iadd, 1), (31, .iaload, 1), (32, .iastore, 1), (33, .iinc 1 1, 3), (36, .goto (-25), 3), (39, .aload_n 0, 1), (40, .dup, 1), (41, .getfield 149, 3), (44, .iconst 1, 1), (45, .isub, 1), (46, .putfield 149, 3), (49, .aload_n 0, 1), (50, .getfield 25, 3), (53, .iconst 0, 1), (54, .aload_n 0, 1), (55, .getfield 34, 3), (58, .bipush 65, 2), (60, .aload_n 0, 1), (61, .getfield 149, 3), (64, .imul, 1), (65, .invokestatic 145, 3), (68, .aload_n 0, 1), (69, .dup, 1), (70, .getfield 149, 3)]
set_option maxRecDepth 100000 in
theorem tk_X8_notes_1 : (tb_X8_notes_1.all fun q => decide (decode cX8_notes q.1 = .ok q.2)) = true := by decide +kernel
theorem dX8_notes_0 : decode cX8_notes 0 = .ok (.aload_n 0, 1) := tb_d tk_X8_notes_1 0 (0, .aload_n 0, 1) rfl
theorem dX8_notes_1 : decode cX8_notes 1 = .ok (.getfield 149, 3) := tb_d tk_X8_notes_1 1 (1, .getfield 149, 3) rfl
theorem dX8_notes_4 : decode cX8_notes 4 = .ok (.bipush 24, 2) := tb_d tk_X8_notes_1 2 (4, .bipush 24, 2) rfl
theorem dX8_notes_6 : decode cX8_notes 6 = .ok (.if_icmp .ne 43, 3) := tb_d tk_X8_notes_1 3 (6, .if_icmp .ne 43, 3) rfl
theorem dX8_notes_9 : decode cX8_notes 9 = .ok (.iconst 0, 1) := tb_d tk_X8_notes_1 4 (9, .iconst 0, 1) rfl
theorem dX8_notes_10 : decode cX8_notes 10 = .ok (.istore_n 1, 1) := tb_d tk_X8_notes_1 5 (10, .istore_n 1, 1) rfl
theorem dX8_notes_11 : decode cX8_notes 11 = .ok (.iload_n 1, 1) := tb_d tk_X8_notes_1 6 (11, .iload_n 1, 1) rfl
theorem dX8_notes_12 : decode cX8_notes 12 = .ok (.sipush 1495, 3) := tb_d tk_X8_notes_1 7 (12, .sipush 1495, 3) rfl
theorem dX8_notes_15 : decode cX8_notes 15 = .ok (.if_icmp .ge 24, 3) := tb_d tk_X8_notes_1 8 (15, .if_icmp .ge 24, 3) rfl
theorem dX8_notes_18 : decode cX8_notes 18 = .ok (.aload_n 0, 1) := tb_d tk_X8_notes_1 9 (18, .aload_n 0, 1) rfl
theorem dX8_notes_19 : decode cX8_notes 19 = .ok (.getfield 34, 3) := tb_d tk_X8_notes_1 10 (19, .getfield 34, 3) rfl
theorem dX8_notes_22 : decode cX8_notes 22 = .ok (.iload_n 1, 1) := tb_d tk_X8_notes_1 11 (22, .iload_n 1, 1) rfl
theorem dX8_notes_23 : decode cX8_notes 23 = .ok (.aload_n 0, 1) := tb_d tk_X8_notes_1 12 (23, .aload_n 0, 1) rfl
theorem dX8_notes_24 : decode cX8_notes 24 = .ok (.getfield 34, 3) := tb_d tk_X8_notes_1 13 (24, .getfield 34, 3) rfl
theorem dX8_notes_27 : decode cX8_notes 27 = .ok (.iload_n 1, 1) := tb_d tk_X8_notes_1 14 (27, .iload_n 1, 1) rfl
theorem dX8_notes_28 : decode cX8_notes 28 = .ok (.bipush 65, 2) := tb_d tk_X8_notes_1 15 (28, .bipush 65, 2) rfl
theorem dX8_notes_30 : decode cX8_notes 30 = .ok (.iadd, 1) := tb_d tk_X8_notes_1 16 (30, .iadd, 1) rfl
theorem dX8_notes_31 : decode cX8_notes 31 = .ok (.iaload, 1) := tb_d tk_X8_notes_1 17 (31, .iaload, 1) rfl
theorem dX8_notes_32 : decode cX8_notes 32 = .ok (.iastore, 1) := tb_d tk_X8_notes_1 18 (32, .iastore, 1) rfl
theorem dX8_notes_33 : decode cX8_notes 33 = .ok (.iinc 1 1, 3) := tb_d tk_X8_notes_1 19 (33, .iinc 1 1, 3) rfl
theorem dX8_notes_36 : decode cX8_notes 36 = .ok (.goto (-25), 3) := tb_d tk_X8_notes_1 20 (36, .goto (-25), 3) rfl
theorem dX8_notes_39 : decode cX8_notes 39 = .ok (.aload_n 0, 1) := tb_d tk_X8_notes_1 21 (39, .aload_n 0, 1) rfl
theorem dX8_notes_40 : decode cX8_notes 40 = .ok (.dup, 1) := tb_d tk_X8_notes_1 22 (40, .dup, 1) rfl
theorem dX8_notes_41 : decode cX8_notes 41 = .ok (.getfield 149, 3) := tb_d tk_X8_notes_1 23 (41, .getfield 149, 3) rfl
theorem dX8_notes_44 : decode cX8_notes 44 = .ok (.iconst 1, 1) := tb_d tk_X8_notes_1 24 (44, .iconst 1, 1) rfl
theorem dX8_notes_45 : decode cX8_notes 45 = .ok (.isub, 1) := tb_d tk_X8_notes_1 25 (45, .isub, 1) rfl
theorem dX8_notes_46 : decode cX8_notes 46 = .ok (.putfield 149, 3) := tb_d tk_X8_notes_1 26 (46, .putfield 149, 3) rfl
theorem dX8_notes_49 : decode cX8_notes 49 = .ok (.aload_n 0, 1) := tb_d tk_X8_notes_1 27 (49, .aload_n 0, 1) rfl
theorem dX8_notes_50 : decode cX8_notes 50 = .ok (.getfield 25, 3) := tb_d tk_X8_notes_1 28 (50, .getfield 25, 3) rfl
theorem dX8_notes_53 : decode cX8_notes 53 = .ok (.iconst 0, 1) := tb_d tk_X8_notes_1 29 (53, .iconst 0, 1) rfl
theorem dX8_notes_54 : decode cX8_notes 54 = .ok (.aload_n 0, 1) := tb_d tk_X8_notes_1 30 (54, .aload_n 0, 1) rfl
theorem dX8_notes_55 : decode cX8_notes 55 = .ok (.getfield 34, 3) := tb_d tk_X8_notes_1 31 (55, .getfield 34, 3) rfl
theorem dX8_notes_58 : decode cX8_notes 58 = .ok (.bipush 65, 2) := tb_d tk_X8_notes_1 32 (58, .bipush 65, 2) rfl
theorem dX8_notes_60 : decode cX8_notes 60 = .ok (.aload_n 0, 1) := tb_d tk_X8_notes_1 33 (60, .aload_n 0, 1) rfl
theorem dX8_notes_61 : decode cX8_notes 61 = .ok (.getfield 149, 3) := tb_d tk_X8_notes_1 34 (61, .getfield 149, 3) rfl
theorem dX8_notes_64 : decode cX8_notes 64 = .ok (.imul, 1) := tb_d tk_X8_notes_1 35 (64, .imul, 1) rfl
theorem dX8_notes_65 : decode cX8_notes 65 = .ok (.invokestatic 145, 3) := tb_d tk_X8_notes_1 36 (65, .invokestatic 145, 3) rfl
theorem dX8_notes_68 : decode cX8_notes 68 = .ok (.aload_n 0, 1) := tb_d tk_X8_notes_1 37 (68, .aload_n 0, 1) rfl
theorem dX8_notes_69 : decode cX8_notes 69 = .ok (.dup, 1) := tb_d tk_X8_notes_1 38 (69, .dup, 1) rfl
theorem dX8_notes_70 : decode cX8_notes 70 = .ok (.getfield 149, 3) := tb_d tk_X8_notes_1 39 (70, .getfield 149, 3) rfl
def tb_X8_notes_2 : List (Nat × Instr × Nat) := [(73, .iconst 1, 1), (74, .iadd, 1), (75, .putfield 149, 3), (78, .return_, 1)]
set_option maxRecDepth 100000 in
theorem tk_X8_notes_2 : (tb_X8_notes_2.all fun q => decide (decode cX8_notes q.1 = .ok q.2)) = true := by decide +kernel
theorem dX8_notes_73 : decode cX8_notes 73 = .ok (.iconst 1, 1) := tb_d tk_X8_notes_2 0 (73, .iconst 1, 1) rfl
theorem dX8_notes_74 : decode cX8_notes 74 = .ok (.iadd, 1) := tb_d tk_X8_notes_2 1 (74, .iadd, 1) rfl
theorem dX8_notes_75 : decode cX8_notes 75 = .ok (.putfield 149, 3) := tb_d tk_X8_notes_2 2 (75, .putfield 149, 3) rfl
theorem dX8_notes_78 : decode cX8_notes 78 = .ok (.return_, 1) := tb_d tk_X8_notes_2 3 (78, .return_, 1) rfl
def tb_X8_forgets_1 : List (Nat × Instr × Nat) := [(0, .bipush 38, 2), (2, .istore_n 1, 1), (3, .iload_n 1, 1), (4, .bipush 65, 2), (6, .if_icmp .ge 16, 3), (9, .aload_n 0, 1), (10, .getfield 25, 3), (13, .iload_n 1, 1), (14, .iconst 0, 1), (15, .iastore, 1), (16, .iinc 1 1, 3), (19, .goto (-16), 3), (22, .aload_n 0, 1), (23, .getfield 25, 3), (26, .bipush 7, 2), (28, .iconst 0, 1), (29, .iastore, 1), (30, .return_, 1)]
set_option maxRecDepth 100000 in
theorem tk_X8_forgets_1 : (tb_X8_forgets_1.all fun q => decide (decode cX8_forgets q.1 = .ok q.2)) = true := by decide +kernel
theorem dX8_forgets_0 : decode cX8_forgets 0 = .ok (.bipush 38, 2) := tb_d tk_X8_forgets_1 0 (0, .bipush 38, 2) rfl
theorem dX8_forgets_2 : decode cX8_forgets 2 = .ok (.istore_n 1, 1) := tb_d tk_X8_forgets_1 1 (2, .istore_n 1, 1) rfl
theorem dX8_forgets_3 : decode cX8_forgets 3 = .ok (.iload_n 1, 1) := tb_d tk_X8_forgets_1 2 (3, .iload_n 1, 1) rfl
theorem dX8_forgets_4 : decode cX8_forgets 4 = .ok (.bipush 65, 2) := tb_d tk_X8_forgets_1 3 (4, .bipush 65, 2) rfl
theorem dX8_forgets_6 : decode cX8_forgets 6 = .ok (.if_icmp .ge 16, 3) := tb_d tk_X8_forgets_1 4 (6, .if_icmp .ge 16, 3) rfl
theorem dX8_forgets_9 : decode cX8_forgets 9 = .ok (.aload_n 0, 1) := tb_d tk_X8_forgets_1 5 (9, .aload_n 0, 1) rfl
theorem dX8_forgets_10 : decode cX8_forgets 10 = .ok (.getfield 25, 3) := tb_d tk_X8_forgets_1 6 (10, .getfield 25, 3) rfl
theorem dX8_forgets_13 : decode cX8_forgets 13 = .ok (.iload_n 1, 1) := tb_d tk_X8_forgets_1 7 (13, .iload_n 1, 1) rfl
theorem dX8_forgets_14 : decode cX8_forgets 14 = .ok (.iconst 0, 1) := tb_d tk_X8_forgets_1 8 (14, .iconst 0, 1) rfl
theorem dX8_forgets_15 : decode cX8_forgets 15 = .ok (.iastore, 1) := tb_d tk_X8_forgets_1 9 (15, .iastore, 1) rfl
theorem dX8_forgets_16 : decode cX8_forgets 16 = .ok (.iinc 1 1, 3) := tb_d tk_X8_forgets_1 10 (16, .iinc 1 1, 3) rfl
theorem dX8_forgets_19 : decode cX8_forgets 19 = .ok (.goto (-16), 3) := tb_d tk_X8_forgets_1 11 (19, .goto (-16), 3) rfl
theorem dX8_forgets_22 : decode cX8_forgets 22 = .ok (.aload_n 0, 1) := tb_d tk_X8_forgets_1 12 (22, .aload_n 0, 1) rfl
theorem dX8_forgets_23 : decode cX8_forgets 23 = .ok (.getfield 25, 3) := tb_d tk_X8_forgets_1 13 (23, .getfield 25, 3) rfl
theorem dX8_forgets_26 : decode cX8_forgets 26 = .ok (.bipush 7, 2) := tb_d tk_X8_forgets_1 14 (26, .bipush 7, 2) rfl
theorem dX8_forgets_28 : decode cX8_forgets 28 = .ok (.iconst 0, 1) := tb_d tk_X8_forgets_1 15 (28, .iconst 0, 1) rfl
theorem dX8_forgets_29 : decode cX8_forgets 29 = .ok (.iastore, 1) := tb_d tk_X8_forgets_1 16 (29, .iastore, 1) rfl
theorem dX8_forgets_30 : decode cX8_forgets 30 = .ok (.return_, 1) := tb_d tk_X8_forgets_1 17 (30, .return_, 1) rfl
theorem ggX8_nights_X8_isGate : GoodIn wsX8_nights wsX8_isGate := fun w h => ⟨List.mem_cons_of_mem _ (List.mem_append_right _ (List.mem_append_right _ (List.mem_append_right _ (List.mem_append_right _ (List.mem_append_right _ (List.mem_append_right _ (List.mem_append_right _ (List.mem_append_left _ h)))))))), good_of_word (gdX8_isGate w h)⟩
set_option maxRecDepth 20000 in
theorem gX8_nights_X8_isGate : GoodIn wsX8_nights (wsV RX8 180 RX8 yX8_isGate wsX8_isGate) := goodIn_app (a := bkV RX8 180 RX8 yX8_isGate) (fun w h => ⟨List.mem_cons_of_mem _ (List.mem_append_right _ (List.mem_append_left _ h)), good_of_word (gd_bV _ _ _ _ w h)⟩) ggX8_nights_X8_isGate
theorem ggX8_nights_X8_in : GoodIn wsX8_nights wsX8_in := fun w h => ⟨List.mem_cons_of_mem _ (List.mem_append_right _ (List.mem_append_right _ (List.mem_append_right _ (List.mem_append_right _ (List.mem_append_right _ (List.mem_append_right _ (List.mem_append_right _ (List.mem_append_right _ (List.mem_append_left _ h))))))))), good_of_word (gdX8_in w h)⟩
set_option maxRecDepth 20000 in
theorem gX8_nights_X8_in : GoodIn wsX8_nights (va_wsS RX8 56 yX8_in wsX8_in) := goodIn_app (a := bkS RX8 56 yX8_in) (fun w h => ⟨List.mem_cons_of_mem _ (List.mem_append_right _ (List.mem_append_right _ (List.mem_append_left _ h))), good_of_word (gd_bS _ _ _ w h)⟩) ggX8_nights_X8_in
theorem ggX8_nights_X8_notes : GoodIn wsX8_nights wsX8_notes := fun w h => ⟨List.mem_cons_of_mem _ (List.mem_append_right _ (List.mem_append_right _ (List.mem_append_right _ (List.mem_append_right _ (List.mem_append_right _ (List.mem_append_right _ (List.mem_append_right _ (List.mem_append_right _ (List.mem_append_right _ (List.mem_append_left _ h)))))))))), good_of_word (gdX8_notes w h)⟩
set_option maxRecDepth 20000 in
theorem gX8_nights_X8_notes : GoodIn wsX8_nights (wsV RX8 184 RX8 yX8_notes wsX8_notes) := goodIn_app (a := bkV RX8 184 RX8 yX8_notes) (fun w h => ⟨List.mem_cons_of_mem _ (List.mem_append_right _ (List.mem_append_right _ (List.mem_append_right _ (List.mem_append_left _ h)))), good_of_word (gd_bV _ _ _ _ w h)⟩) ggX8_nights_X8_notes
theorem ggX8_nights_X8_forgets : GoodIn wsX8_nights wsX8_forgets := fun w h => ⟨List.mem_cons_of_mem _ (List.mem_append_right _ (List.mem_append_right _ (List.mem_append_right _ (List.mem_append_right _ (List.mem_append_right _ (List.mem_append_right _ (List.mem_append_right _ (List.mem_append_right _ (List.mem_append_right _ (List.mem_append_right _ (List.mem_append_left _ h))))))))))), good_of_word (gdX8_forgets w h)⟩
set_option maxRecDepth 20000 in
theorem gX8_nights_X8_forgets : GoodIn wsX8_nights (wsV RX8 187 RX8 yX8_forgets wsX8_forgets) := goodIn_app (a := bkV RX8 187 RX8 yX8_forgets) (fun w h => ⟨List.mem_cons_of_mem _ (List.mem_append_right _ (List.mem_append_right _ (List.mem_append_right _ (List.mem_append_right _ (List.mem_append_left _ h))))), good_of_word (gd_bV _ _ _ _ w h)⟩) ggX8_nights_X8_forgets
theorem ggX8_nights_X8_secretOf : GoodIn wsX8_nights wsX8_secretOf := fun w h => ⟨List.mem_cons_of_mem _ (List.mem_append_right _ (List.mem_append_right _ (List.mem_append_right _ (List.mem_append_right _ (List.mem_append_right _ (List.mem_append_right _ (List.mem_append_right _ (List.mem_append_right _ (List.mem_append_right _ (List.mem_append_right _ (List.mem_append_right _ (List.mem_append_left _ h)))))))))))), good_of_word (gdX8_secretOf w h)⟩
set_option maxRecDepth 20000 in
theorem gX8_nights_X8_secretOf : GoodIn wsX8_nights (va_wsS RX8 172 yX8_secretOf wsX8_secretOf) := goodIn_app (a := bkS RX8 172 yX8_secretOf) (fun w h => ⟨List.mem_cons_of_mem _ (List.mem_append_right _ (List.mem_append_right _ (List.mem_append_right _ (List.mem_append_right _ (List.mem_append_right _ (List.mem_append_left _ h)))))), good_of_word (gd_bS _ _ _ w h)⟩) ggX8_nights_X8_secretOf
def tb_X8_nights_1 : List (Nat × Instr × Nat) := [(0, .aload_n 0, 1), (1, .invokevirtual 180, 3), (4, .ifCond .ne 6, 3), (7, .ldc 183, 2), (9, .ireturn, 1), (10, .iload_n 1, 1), (11, .iconst 1, 1), (12, .bipush 24, 2), (14, .invokestatic 56, 3), (17, .ifCond .ne 6, 3), (20, .ldc 64, 2), (22, .ireturn, 1), (23, .aload_n 0, 1), (24, .getfield 25, 3), (27, .iconst 5, 1), (28, .iaload, 1), (29, .iload_n 1, 1), (30, .iadd, 1), (31, .sipush 999, 3), (34, .if_icmp .le 6, 3), (37, .ldc 85, 2), (39, .ireturn, 1), (40, .iconst 0, 1), (41, .istore_n 2, 1), (42, .iload_n 2, 1), (43, .iload_n 1, 1), (44, .if_icmp .ge 27, 3), (47, .aload_n 0, 1), (48, .invokevirtual 184, 3), (51, .aload_n 0, 1), (52, .getfield 25, 3), (55, .iconst 5, 1), (56, .dup2, 1), (57, .iaload, 1), (58, .iconst 1, 1), (59, .iadd, 1), (60, .iastore, 1), (61, .aload_n 0, 1), (62, .invokevirtual 187, 3), (65, .iinc 2 1, 3)]
set_option maxRecDepth 100000 in
theorem tk_X8_nights_1 : (tb_X8_nights_1.all fun q => decide (decode cX8_nights q.1 = .ok q.2)) = true := by decide +kernel
theorem dX8_nights_0 : decode cX8_nights 0 = .ok (.aload_n 0, 1) := tb_d tk_X8_nights_1 0 (0, .aload_n 0, 1) rfl
theorem dX8_nights_1 : decode cX8_nights 1 = .ok (.invokevirtual 180, 3) := tb_d tk_X8_nights_1 1 (1, .invokevirtual 180, 3) rfl
theorem dX8_nights_4 : decode cX8_nights 4 = .ok (.ifCond .ne 6, 3) := tb_d tk_X8_nights_1 2 (4, .ifCond .ne 6, 3) rfl
theorem dX8_nights_7 : decode cX8_nights 7 = .ok (.ldc 183, 2) := tb_d tk_X8_nights_1 3 (7, .ldc 183, 2) rfl
theorem dX8_nights_9 : decode cX8_nights 9 = .ok (.ireturn, 1) := tb_d tk_X8_nights_1 4 (9, .ireturn, 1) rfl
theorem dX8_nights_10 : decode cX8_nights 10 = .ok (.iload_n 1, 1) := tb_d tk_X8_nights_1 5 (10, .iload_n 1, 1) rfl
theorem dX8_nights_11 : decode cX8_nights 11 = .ok (.iconst 1, 1) := tb_d tk_X8_nights_1 6 (11, .iconst 1, 1) rfl
theorem dX8_nights_12 : decode cX8_nights 12 = .ok (.bipush 24, 2) := tb_d tk_X8_nights_1 7 (12, .bipush 24, 2) rfl
theorem dX8_nights_14 : decode cX8_nights 14 = .ok (.invokestatic 56, 3) := tb_d tk_X8_nights_1 8 (14, .invokestatic 56, 3) rfl
theorem dX8_nights_17 : decode cX8_nights 17 = .ok (.ifCond .ne 6, 3) := tb_d tk_X8_nights_1 9 (17, .ifCond .ne 6, 3) rfl
theorem dX8_nights_20 : decode cX8_nights 20 = .ok (.ldc 64, 2) := tb_d tk_X8_nights_1 10 (20, .ldc 64, 2) rfl
theorem dX8_nights_22 : decode cX8_nights 22 = .ok (.ireturn, 1) := tb_d tk_X8_nights_1 11 (22, .ireturn, 1) rfl
theorem dX8_nights_23 : decode cX8_nights 23 = .ok (.aload_n 0, 1) := tb_d tk_X8_nights_1 12 (23, .aload_n 0, 1) rfl
theorem dX8_nights_24 : decode cX8_nights 24 = .ok (.getfield 25, 3) := tb_d tk_X8_nights_1 13 (24, .getfield 25, 3) rfl
theorem dX8_nights_27 : decode cX8_nights 27 = .ok (.iconst 5, 1) := tb_d tk_X8_nights_1 14 (27, .iconst 5, 1) rfl
theorem dX8_nights_28 : decode cX8_nights 28 = .ok (.iaload, 1) := tb_d tk_X8_nights_1 15 (28, .iaload, 1) rfl
theorem dX8_nights_29 : decode cX8_nights 29 = .ok (.iload_n 1, 1) := tb_d tk_X8_nights_1 16 (29, .iload_n 1, 1) rfl
theorem dX8_nights_30 : decode cX8_nights 30 = .ok (.iadd, 1) := tb_d tk_X8_nights_1 17 (30, .iadd, 1) rfl
theorem dX8_nights_31 : decode cX8_nights 31 = .ok (.sipush 999, 3) := tb_d tk_X8_nights_1 18 (31, .sipush 999, 3) rfl
theorem dX8_nights_34 : decode cX8_nights 34 = .ok (.if_icmp .le 6, 3) := tb_d tk_X8_nights_1 19 (34, .if_icmp .le 6, 3) rfl
theorem dX8_nights_37 : decode cX8_nights 37 = .ok (.ldc 85, 2) := tb_d tk_X8_nights_1 20 (37, .ldc 85, 2) rfl
theorem dX8_nights_39 : decode cX8_nights 39 = .ok (.ireturn, 1) := tb_d tk_X8_nights_1 21 (39, .ireturn, 1) rfl
theorem dX8_nights_40 : decode cX8_nights 40 = .ok (.iconst 0, 1) := tb_d tk_X8_nights_1 22 (40, .iconst 0, 1) rfl
theorem dX8_nights_41 : decode cX8_nights 41 = .ok (.istore_n 2, 1) := tb_d tk_X8_nights_1 23 (41, .istore_n 2, 1) rfl
theorem dX8_nights_42 : decode cX8_nights 42 = .ok (.iload_n 2, 1) := tb_d tk_X8_nights_1 24 (42, .iload_n 2, 1) rfl
theorem dX8_nights_43 : decode cX8_nights 43 = .ok (.iload_n 1, 1) := tb_d tk_X8_nights_1 25 (43, .iload_n 1, 1) rfl
theorem dX8_nights_44 : decode cX8_nights 44 = .ok (.if_icmp .ge 27, 3) := tb_d tk_X8_nights_1 26 (44, .if_icmp .ge 27, 3) rfl
theorem dX8_nights_47 : decode cX8_nights 47 = .ok (.aload_n 0, 1) := tb_d tk_X8_nights_1 27 (47, .aload_n 0, 1) rfl
theorem dX8_nights_48 : decode cX8_nights 48 = .ok (.invokevirtual 184, 3) := tb_d tk_X8_nights_1 28 (48, .invokevirtual 184, 3) rfl
theorem dX8_nights_51 : decode cX8_nights 51 = .ok (.aload_n 0, 1) := tb_d tk_X8_nights_1 29 (51, .aload_n 0, 1) rfl
theorem dX8_nights_52 : decode cX8_nights 52 = .ok (.getfield 25, 3) := tb_d tk_X8_nights_1 30 (52, .getfield 25, 3) rfl
theorem dX8_nights_55 : decode cX8_nights 55 = .ok (.iconst 5, 1) := tb_d tk_X8_nights_1 31 (55, .iconst 5, 1) rfl
theorem dX8_nights_56 : decode cX8_nights 56 = .ok (.dup2, 1) := tb_d tk_X8_nights_1 32 (56, .dup2, 1) rfl
theorem dX8_nights_57 : decode cX8_nights 57 = .ok (.iaload, 1) := tb_d tk_X8_nights_1 33 (57, .iaload, 1) rfl
theorem dX8_nights_58 : decode cX8_nights 58 = .ok (.iconst 1, 1) := tb_d tk_X8_nights_1 34 (58, .iconst 1, 1) rfl
theorem dX8_nights_59 : decode cX8_nights 59 = .ok (.iadd, 1) := tb_d tk_X8_nights_1 35 (59, .iadd, 1) rfl
theorem dX8_nights_60 : decode cX8_nights 60 = .ok (.iastore, 1) := tb_d tk_X8_nights_1 36 (60, .iastore, 1) rfl
theorem dX8_nights_61 : decode cX8_nights 61 = .ok (.aload_n 0, 1) := tb_d tk_X8_nights_1 37 (61, .aload_n 0, 1) rfl
theorem dX8_nights_62 : decode cX8_nights 62 = .ok (.invokevirtual 187, 3) := tb_d tk_X8_nights_1 38 (62, .invokevirtual 187, 3) rfl
theorem dX8_nights_65 : decode cX8_nights 65 = .ok (.iinc 2 1, 3) := tb_d tk_X8_nights_1 39 (65, .iinc 2 1, 3) rfl
def tb_X8_nights_2 : List (Nat × Instr × Nat) := [(68, .goto (-26), 3), (71, .aload_n 0, 1), (72, .getfield 25, 3), (75, .aload_n 0, 1), (76, .getfield 25, 3), (79, .iconst 5, 1), (80, .iaload, 1), (81, .invokestatic 172, 3), (84, .ireturn, 1)]
set_option maxRecDepth 100000 in
theorem tk_X8_nights_2 : (tb_X8_nights_2.all fun q => decide (decode cX8_nights q.1 = .ok q.2)) = true := by decide +kernel
theorem dX8_nights_68 : decode cX8_nights 68 = .ok (.goto (-26), 3) := tb_d tk_X8_nights_2 0 (68, .goto (-26), 3) rfl
theorem dX8_nights_71 : decode cX8_nights 71 = .ok (.aload_n 0, 1) := tb_d tk_X8_nights_2 1 (71, .aload_n 0, 1) rfl
theorem dX8_nights_72 : decode cX8_nights 72 = .ok (.getfield 25, 3) := tb_d tk_X8_nights_2 2 (72, .getfield 25, 3) rfl
theorem dX8_nights_75 : decode cX8_nights 75 = .ok (.aload_n 0, 1) := tb_d tk_X8_nights_2 3 (75, .aload_n 0, 1) rfl
theorem dX8_nights_76 : decode cX8_nights 76 = .ok (.getfield 25, 3) := tb_d tk_X8_nights_2 4 (76, .getfield 25, 3) rfl
theorem dX8_nights_79 : decode cX8_nights 79 = .ok (.iconst 5, 1) := tb_d tk_X8_nights_2 5 (79, .iconst 5, 1) rfl
theorem dX8_nights_80 : decode cX8_nights 80 = .ok (.iaload, 1) := tb_d tk_X8_nights_2 6 (80, .iaload, 1) rfl
theorem dX8_nights_81 : decode cX8_nights 81 = .ok (.invokestatic 172, 3) := tb_d tk_X8_nights_2 7 (81, .invokestatic 172, 3) rfl
theorem dX8_nights_84 : decode cX8_nights 84 = .ok (.ireturn, 1) := tb_d tk_X8_nights_2 8 (84, .ireturn, 1) rfl
theorem ggX8_say_X8_isWord : GoodIn wsX8_say wsX8_isWord := fun w h => ⟨List.mem_cons_of_mem _ (List.mem_append_right _ (List.mem_append_right _ (List.mem_append_right _ (List.mem_append_right _ (List.mem_append_right _ (List.mem_append_right _ (List.mem_append_right _ (List.mem_append_right _ (List.mem_append_left _ h))))))))), good_of_word (gdX8_isWord w h)⟩
set_option maxRecDepth 20000 in
theorem gX8_say_X8_isWord : GoodIn wsX8_say (wsV RX8 190 RX8 yX8_isWord wsX8_isWord) := goodIn_app (a := bkV RX8 190 RX8 yX8_isWord) (fun w h => ⟨List.mem_cons_of_mem _ (List.mem_append_right _ (List.mem_append_left _ h)), good_of_word (gd_bV _ _ _ _ w h)⟩) ggX8_say_X8_isWord
theorem ggX8_say_X8_isHour : GoodIn wsX8_say wsX8_isHour := fun w h => ⟨List.mem_cons_of_mem _ (List.mem_append_right _ (List.mem_append_right _ (List.mem_append_right _ (List.mem_append_right _ (List.mem_append_right _ (List.mem_append_right _ (List.mem_append_right _ (List.mem_append_right _ (List.mem_append_right _ (List.mem_append_left _ h)))))))))), good_of_word (gdX8_isHour w h)⟩
set_option maxRecDepth 20000 in
theorem gX8_say_X8_isHour : GoodIn wsX8_say (va_wsS RX8 193 yX8_isHour wsX8_isHour) := goodIn_app (a := bkS RX8 193 yX8_isHour) (fun w h => ⟨List.mem_cons_of_mem _ (List.mem_append_right _ (List.mem_append_right _ (List.mem_append_left _ h))), good_of_word (gd_bS _ _ _ w h)⟩) ggX8_say_X8_isHour
theorem ggX8_say_X8_notes : GoodIn wsX8_say wsX8_notes := fun w h => ⟨List.mem_cons_of_mem _ (List.mem_append_right _ (List.mem_append_right _ (List.mem_append_right _ (List.mem_append_right _ (List.mem_append_right _ (List.mem_append_right _ (List.mem_append_right _ (List.mem_append_right _ (List.mem_append_right _ (List.mem_append_right _ (List.mem_append_left _ h))))))))))), good_of_word (gdX8_notes w h)⟩
set_option maxRecDepth 20000 in
theorem gX8_say_X8_notes : GoodIn wsX8_say (wsV RX8 184 RX8 yX8_notes wsX8_notes) := goodIn_app (a := bkV RX8 184 RX8 yX8_notes) (fun w h => ⟨List.mem_cons_of_mem _ (List.mem_append_right _ (List.mem_append_right _ (List.mem_append_right _ (List.mem_append_left _ h)))), good_of_word (gd_bV _ _ _ _ w h)⟩) ggX8_say_X8_notes
theorem ggX8_say_X8_guardOn : GoodIn wsX8_say wsX8_guardOn := fun w h => ⟨List.mem_cons_of_mem _ (List.mem_append_right _ (List.mem_append_right _ (List.mem_append_right _ (List.mem_append_right _ (List.mem_append_right _ (List.mem_append_right _ (List.mem_append_right _ (List.mem_append_right _ (List.mem_append_right _ (List.mem_append_right _ (List.mem_append_right _ (List.mem_append_left _ h)))))))))))), good_of_word (gdX8_guardOn w h)⟩
set_option maxRecDepth 20000 in
theorem gX8_say_X8_guardOn : GoodIn wsX8_say (wsV RX8 158 RX8 yX8_guardOn wsX8_guardOn) := goodIn_app (a := bkV RX8 158 RX8 yX8_guardOn) (fun w h => ⟨List.mem_cons_of_mem _ (List.mem_append_right _ (List.mem_append_right _ (List.mem_append_right _ (List.mem_append_right _ (List.mem_append_left _ h))))), good_of_word (gd_bV _ _ _ _ w h)⟩) ggX8_say_X8_guardOn
theorem ggX8_say_X8_isTakenNow : GoodIn wsX8_say wsX8_isTakenNow := fun w h => ⟨List.mem_cons_of_mem _ (List.mem_append_right _ (List.mem_append_right _ (List.mem_append_right _ (List.mem_append_right _ (List.mem_append_right _ (List.mem_append_right _ (List.mem_append_right _ (List.mem_append_right _ (List.mem_append_right _ (List.mem_append_right _ (List.mem_append_right _ (List.mem_append_right _ (List.mem_append_left _ h))))))))))))), good_of_word (gdX8_isTakenNow w h)⟩
set_option maxRecDepth 20000 in
theorem gX8_say_X8_isTakenNow : GoodIn wsX8_say (wsV RX8 196 RX8 yX8_isTakenNow wsX8_isTakenNow) := goodIn_app (a := bkV RX8 196 RX8 yX8_isTakenNow) (fun w h => ⟨List.mem_cons_of_mem _ (List.mem_append_right _ (List.mem_append_right _ (List.mem_append_right _ (List.mem_append_right _ (List.mem_append_right _ (List.mem_append_left _ h)))))), good_of_word (gd_bV _ _ _ _ w h)⟩) ggX8_say_X8_isTakenNow
theorem ggX8_say_X8_has : GoodIn wsX8_say wsX8_has := fun w h => ⟨List.mem_cons_of_mem _ (List.mem_append_right _ (List.mem_append_right _ (List.mem_append_right _ (List.mem_append_right _ (List.mem_append_right _ (List.mem_append_right _ (List.mem_append_right _ (List.mem_append_right _ (List.mem_append_right _ (List.mem_append_right _ (List.mem_append_right _ (List.mem_append_right _ (List.mem_append_right _ (List.mem_append_left _ h)))))))))))))), good_of_word (gdX8_has w h)⟩
set_option maxRecDepth 20000 in
theorem gX8_say_X8_has : GoodIn wsX8_say (va_wsS RX8 161 yX8_has wsX8_has) := goodIn_app (a := bkS RX8 161 yX8_has) (fun w h => ⟨List.mem_cons_of_mem _ (List.mem_append_right _ (List.mem_append_right _ (List.mem_append_right _ (List.mem_append_right _ (List.mem_append_right _ (List.mem_append_right _ (List.mem_append_left _ h))))))), good_of_word (gd_bS _ _ _ w h)⟩) ggX8_say_X8_has
def tb_X8_say_1 : List (Nat × Instr × Nat) := [(0, .aload_n 0, 1), (1, .iload_n 1, 1), (2, .invokevirtual 190, 3), (5, .ifCond .eq 10, 3), (8, .iload_n 2, 1), (9, .invokestatic 193, 3), (12, .ifCond .ne 6, 3), (15, .ldc 64, 2), (17, .ireturn, 1), (18, .aload_n 0, 1), (19, .getfield 25, 3), (22, .bipush 7, 2), (24, .iaload, 1), (25, .bipush 9, 2), (27, .if_icmp .ne 6, 3), (30, .ldc 85, 2), (32, .ireturn, 1), (33, .aload_n 0, 1), (34, .invokevirtual 184, 3), (37, .aload_n 0, 1), (38, .iload_n 2, 1), (39, .aload_n 0, 1), (40, .getfield 25, 3), (43, .iconst 5, 1), (44, .iaload, 1), (45, .invokevirtual 158, 3), (48, .istore_n 3, 1), (49, .aload_n 0, 1), (50, .iload_n 1, 1), (51, .iload_n 2, 1), (52, .iconst 0, 1), (53, .invokevirtual 196, 3), (56, .ifCond .eq 7, 3), (59, .iconst 1, 1), (60, .goto 4, 3), (63, .iconst 0, 1), (64, .istore 4, 2), (66, .bipush 38, 2), (68, .iconst 3, 1), (69, .aload_n 0, 1)]
set_option maxRecDepth 100000 in
theorem tk_X8_say_1 : (tb_X8_say_1.all fun q => decide (decode cX8_say q.1 = .ok q.2)) = true := by decide +kernel
theorem dX8_say_0 : decode cX8_say 0 = .ok (.aload_n 0, 1) := tb_d tk_X8_say_1 0 (0, .aload_n 0, 1) rfl
theorem dX8_say_1 : decode cX8_say 1 = .ok (.iload_n 1, 1) := tb_d tk_X8_say_1 1 (1, .iload_n 1, 1) rfl
theorem dX8_say_2 : decode cX8_say 2 = .ok (.invokevirtual 190, 3) := tb_d tk_X8_say_1 2 (2, .invokevirtual 190, 3) rfl
theorem dX8_say_5 : decode cX8_say 5 = .ok (.ifCond .eq 10, 3) := tb_d tk_X8_say_1 3 (5, .ifCond .eq 10, 3) rfl
theorem dX8_say_8 : decode cX8_say 8 = .ok (.iload_n 2, 1) := tb_d tk_X8_say_1 4 (8, .iload_n 2, 1) rfl
theorem dX8_say_9 : decode cX8_say 9 = .ok (.invokestatic 193, 3) := tb_d tk_X8_say_1 5 (9, .invokestatic 193, 3) rfl
theorem dX8_say_12 : decode cX8_say 12 = .ok (.ifCond .ne 6, 3) := tb_d tk_X8_say_1 6 (12, .ifCond .ne 6, 3) rfl
theorem dX8_say_15 : decode cX8_say 15 = .ok (.ldc 64, 2) := tb_d tk_X8_say_1 7 (15, .ldc 64, 2) rfl
theorem dX8_say_17 : decode cX8_say 17 = .ok (.ireturn, 1) := tb_d tk_X8_say_1 8 (17, .ireturn, 1) rfl
theorem dX8_say_18 : decode cX8_say 18 = .ok (.aload_n 0, 1) := tb_d tk_X8_say_1 9 (18, .aload_n 0, 1) rfl
theorem dX8_say_19 : decode cX8_say 19 = .ok (.getfield 25, 3) := tb_d tk_X8_say_1 10 (19, .getfield 25, 3) rfl
theorem dX8_say_22 : decode cX8_say 22 = .ok (.bipush 7, 2) := tb_d tk_X8_say_1 11 (22, .bipush 7, 2) rfl
theorem dX8_say_24 : decode cX8_say 24 = .ok (.iaload, 1) := tb_d tk_X8_say_1 12 (24, .iaload, 1) rfl
theorem dX8_say_25 : decode cX8_say 25 = .ok (.bipush 9, 2) := tb_d tk_X8_say_1 13 (25, .bipush 9, 2) rfl
theorem dX8_say_27 : decode cX8_say 27 = .ok (.if_icmp .ne 6, 3) := tb_d tk_X8_say_1 14 (27, .if_icmp .ne 6, 3) rfl
theorem dX8_say_30 : decode cX8_say 30 = .ok (.ldc 85, 2) := tb_d tk_X8_say_1 15 (30, .ldc 85, 2) rfl
theorem dX8_say_32 : decode cX8_say 32 = .ok (.ireturn, 1) := tb_d tk_X8_say_1 16 (32, .ireturn, 1) rfl
theorem dX8_say_33 : decode cX8_say 33 = .ok (.aload_n 0, 1) := tb_d tk_X8_say_1 17 (33, .aload_n 0, 1) rfl
theorem dX8_say_34 : decode cX8_say 34 = .ok (.invokevirtual 184, 3) := tb_d tk_X8_say_1 18 (34, .invokevirtual 184, 3) rfl
theorem dX8_say_37 : decode cX8_say 37 = .ok (.aload_n 0, 1) := tb_d tk_X8_say_1 19 (37, .aload_n 0, 1) rfl
theorem dX8_say_38 : decode cX8_say 38 = .ok (.iload_n 2, 1) := tb_d tk_X8_say_1 20 (38, .iload_n 2, 1) rfl
theorem dX8_say_39 : decode cX8_say 39 = .ok (.aload_n 0, 1) := tb_d tk_X8_say_1 21 (39, .aload_n 0, 1) rfl
theorem dX8_say_40 : decode cX8_say 40 = .ok (.getfield 25, 3) := tb_d tk_X8_say_1 22 (40, .getfield 25, 3) rfl
theorem dX8_say_43 : decode cX8_say 43 = .ok (.iconst 5, 1) := tb_d tk_X8_say_1 23 (43, .iconst 5, 1) rfl
theorem dX8_say_44 : decode cX8_say 44 = .ok (.iaload, 1) := tb_d tk_X8_say_1 24 (44, .iaload, 1) rfl
theorem dX8_say_45 : decode cX8_say 45 = .ok (.invokevirtual 158, 3) := tb_d tk_X8_say_1 25 (45, .invokevirtual 158, 3) rfl
theorem dX8_say_48 : decode cX8_say 48 = .ok (.istore_n 3, 1) := tb_d tk_X8_say_1 26 (48, .istore_n 3, 1) rfl
theorem dX8_say_49 : decode cX8_say 49 = .ok (.aload_n 0, 1) := tb_d tk_X8_say_1 27 (49, .aload_n 0, 1) rfl
theorem dX8_say_50 : decode cX8_say 50 = .ok (.iload_n 1, 1) := tb_d tk_X8_say_1 28 (50, .iload_n 1, 1) rfl
theorem dX8_say_51 : decode cX8_say 51 = .ok (.iload_n 2, 1) := tb_d tk_X8_say_1 29 (51, .iload_n 2, 1) rfl
theorem dX8_say_52 : decode cX8_say 52 = .ok (.iconst 0, 1) := tb_d tk_X8_say_1 30 (52, .iconst 0, 1) rfl
theorem dX8_say_53 : decode cX8_say 53 = .ok (.invokevirtual 196, 3) := tb_d tk_X8_say_1 31 (53, .invokevirtual 196, 3) rfl
theorem dX8_say_56 : decode cX8_say 56 = .ok (.ifCond .eq 7, 3) := tb_d tk_X8_say_1 32 (56, .ifCond .eq 7, 3) rfl
theorem dX8_say_59 : decode cX8_say 59 = .ok (.iconst 1, 1) := tb_d tk_X8_say_1 33 (59, .iconst 1, 1) rfl
theorem dX8_say_60 : decode cX8_say 60 = .ok (.goto 4, 3) := tb_d tk_X8_say_1 34 (60, .goto 4, 3) rfl
theorem dX8_say_63 : decode cX8_say 63 = .ok (.iconst 0, 1) := tb_d tk_X8_say_1 35 (63, .iconst 0, 1) rfl
theorem dX8_say_64 : decode cX8_say 64 = .ok (.istore 4, 2) := tb_d tk_X8_say_1 36 (64, .istore 4, 2) rfl
theorem dX8_say_66 : decode cX8_say 66 = .ok (.bipush 38, 2) := tb_d tk_X8_say_1 37 (66, .bipush 38, 2) rfl
theorem dX8_say_68 : decode cX8_say 68 = .ok (.iconst 3, 1) := tb_d tk_X8_say_1 38 (68, .iconst 3, 1) rfl
theorem dX8_say_69 : decode cX8_say 69 = .ok (.aload_n 0, 1) := tb_d tk_X8_say_1 39 (69, .aload_n 0, 1) rfl
def tb_X8_say_2 : List (Nat × Instr × Nat) := [(70, .getfield 25, 3), (73, .bipush 7, 2), (75, .iaload, 1), (76, .imul, 1), (77, .iadd, 1), (78, .istore 5, 2), (80, .aload_n 0, 1), (81, .getfield 25, 3), (84, .iload 5, 2), (86, .iload_n 1, 1), (87, .iastore, 1), (88, .aload_n 0, 1), (89, .getfield 25, 3), (92, .iload 5, 2), (94, .iconst 1, 1), (95, .iadd, 1), (96, .aload_n 0, 1), (97, .getfield 25, 3), (100, .bipush 6, 2), (102, .iaload, 1), (103, .iload_n 3, 1), (104, .invokestatic 161, 3), (107, .ifCond .eq 9, 3), (110, .iload_n 3, 1), (111, .iconst 1, 1), (112, .iadd, 1), (113, .goto 4, 3), (116, .iconst 0, 1), (117, .iastore, 1), (118, .aload_n 0, 1), (119, .getfield 25, 3), (122, .iload 5, 2), (124, .iconst 2, 1), (125, .iadd, 1), (126, .iload 4, 2), (128, .iastore, 1), (129, .aload_n 0, 1), (130, .getfield 25, 3), (133, .bipush 7, 2), (135, .dup2, 1)]
set_option maxRecDepth 100000 in
theorem tk_X8_say_2 : (tb_X8_say_2.all fun q => decide (decode cX8_say q.1 = .ok q.2)) = true := by decide +kernel
theorem dX8_say_70 : decode cX8_say 70 = .ok (.getfield 25, 3) := tb_d tk_X8_say_2 0 (70, .getfield 25, 3) rfl
theorem dX8_say_73 : decode cX8_say 73 = .ok (.bipush 7, 2) := tb_d tk_X8_say_2 1 (73, .bipush 7, 2) rfl
theorem dX8_say_75 : decode cX8_say 75 = .ok (.iaload, 1) := tb_d tk_X8_say_2 2 (75, .iaload, 1) rfl
theorem dX8_say_76 : decode cX8_say 76 = .ok (.imul, 1) := tb_d tk_X8_say_2 3 (76, .imul, 1) rfl
theorem dX8_say_77 : decode cX8_say 77 = .ok (.iadd, 1) := tb_d tk_X8_say_2 4 (77, .iadd, 1) rfl
theorem dX8_say_78 : decode cX8_say 78 = .ok (.istore 5, 2) := tb_d tk_X8_say_2 5 (78, .istore 5, 2) rfl
theorem dX8_say_80 : decode cX8_say 80 = .ok (.aload_n 0, 1) := tb_d tk_X8_say_2 6 (80, .aload_n 0, 1) rfl
theorem dX8_say_81 : decode cX8_say 81 = .ok (.getfield 25, 3) := tb_d tk_X8_say_2 7 (81, .getfield 25, 3) rfl
theorem dX8_say_84 : decode cX8_say 84 = .ok (.iload 5, 2) := tb_d tk_X8_say_2 8 (84, .iload 5, 2) rfl
theorem dX8_say_86 : decode cX8_say 86 = .ok (.iload_n 1, 1) := tb_d tk_X8_say_2 9 (86, .iload_n 1, 1) rfl
theorem dX8_say_87 : decode cX8_say 87 = .ok (.iastore, 1) := tb_d tk_X8_say_2 10 (87, .iastore, 1) rfl
theorem dX8_say_88 : decode cX8_say 88 = .ok (.aload_n 0, 1) := tb_d tk_X8_say_2 11 (88, .aload_n 0, 1) rfl
theorem dX8_say_89 : decode cX8_say 89 = .ok (.getfield 25, 3) := tb_d tk_X8_say_2 12 (89, .getfield 25, 3) rfl
theorem dX8_say_92 : decode cX8_say 92 = .ok (.iload 5, 2) := tb_d tk_X8_say_2 13 (92, .iload 5, 2) rfl
theorem dX8_say_94 : decode cX8_say 94 = .ok (.iconst 1, 1) := tb_d tk_X8_say_2 14 (94, .iconst 1, 1) rfl
theorem dX8_say_95 : decode cX8_say 95 = .ok (.iadd, 1) := tb_d tk_X8_say_2 15 (95, .iadd, 1) rfl
theorem dX8_say_96 : decode cX8_say 96 = .ok (.aload_n 0, 1) := tb_d tk_X8_say_2 16 (96, .aload_n 0, 1) rfl
theorem dX8_say_97 : decode cX8_say 97 = .ok (.getfield 25, 3) := tb_d tk_X8_say_2 17 (97, .getfield 25, 3) rfl
theorem dX8_say_100 : decode cX8_say 100 = .ok (.bipush 6, 2) := tb_d tk_X8_say_2 18 (100, .bipush 6, 2) rfl
theorem dX8_say_102 : decode cX8_say 102 = .ok (.iaload, 1) := tb_d tk_X8_say_2 19 (102, .iaload, 1) rfl
theorem dX8_say_103 : decode cX8_say 103 = .ok (.iload_n 3, 1) := tb_d tk_X8_say_2 20 (103, .iload_n 3, 1) rfl
theorem dX8_say_104 : decode cX8_say 104 = .ok (.invokestatic 161, 3) := tb_d tk_X8_say_2 21 (104, .invokestatic 161, 3) rfl
theorem dX8_say_107 : decode cX8_say 107 = .ok (.ifCond .eq 9, 3) := tb_d tk_X8_say_2 22 (107, .ifCond .eq 9, 3) rfl
theorem dX8_say_110 : decode cX8_say 110 = .ok (.iload_n 3, 1) := tb_d tk_X8_say_2 23 (110, .iload_n 3, 1) rfl
theorem dX8_say_111 : decode cX8_say 111 = .ok (.iconst 1, 1) := tb_d tk_X8_say_2 24 (111, .iconst 1, 1) rfl
theorem dX8_say_112 : decode cX8_say 112 = .ok (.iadd, 1) := tb_d tk_X8_say_2 25 (112, .iadd, 1) rfl
theorem dX8_say_113 : decode cX8_say 113 = .ok (.goto 4, 3) := tb_d tk_X8_say_2 26 (113, .goto 4, 3) rfl
theorem dX8_say_116 : decode cX8_say 116 = .ok (.iconst 0, 1) := tb_d tk_X8_say_2 27 (116, .iconst 0, 1) rfl
theorem dX8_say_117 : decode cX8_say 117 = .ok (.iastore, 1) := tb_d tk_X8_say_2 28 (117, .iastore, 1) rfl
theorem dX8_say_118 : decode cX8_say 118 = .ok (.aload_n 0, 1) := tb_d tk_X8_say_2 29 (118, .aload_n 0, 1) rfl
theorem dX8_say_119 : decode cX8_say 119 = .ok (.getfield 25, 3) := tb_d tk_X8_say_2 30 (119, .getfield 25, 3) rfl
theorem dX8_say_122 : decode cX8_say 122 = .ok (.iload 5, 2) := tb_d tk_X8_say_2 31 (122, .iload 5, 2) rfl
theorem dX8_say_124 : decode cX8_say 124 = .ok (.iconst 2, 1) := tb_d tk_X8_say_2 32 (124, .iconst 2, 1) rfl
theorem dX8_say_125 : decode cX8_say 125 = .ok (.iadd, 1) := tb_d tk_X8_say_2 33 (125, .iadd, 1) rfl
theorem dX8_say_126 : decode cX8_say 126 = .ok (.iload 4, 2) := tb_d tk_X8_say_2 34 (126, .iload 4, 2) rfl
theorem dX8_say_128 : decode cX8_say 128 = .ok (.iastore, 1) := tb_d tk_X8_say_2 35 (128, .iastore, 1) rfl
theorem dX8_say_129 : decode cX8_say 129 = .ok (.aload_n 0, 1) := tb_d tk_X8_say_2 36 (129, .aload_n 0, 1) rfl
theorem dX8_say_130 : decode cX8_say 130 = .ok (.getfield 25, 3) := tb_d tk_X8_say_2 37 (130, .getfield 25, 3) rfl
theorem dX8_say_133 : decode cX8_say 133 = .ok (.bipush 7, 2) := tb_d tk_X8_say_2 38 (133, .bipush 7, 2) rfl
theorem dX8_say_135 : decode cX8_say 135 = .ok (.dup2, 1) := tb_d tk_X8_say_2 39 (135, .dup2, 1) rfl
def tb_X8_say_3 : List (Nat × Instr × Nat) := [(136, .iaload, 1), (137, .iconst 1, 1), (138, .iadd, 1), (139, .iastore, 1), (140, .aload_n 0, 1), (141, .getfield 25, 3), (144, .bipush 26, 2), (146, .iconst 3, 1), (147, .iload_n 3, 1), (148, .imul, 1), (149, .iadd, 1), (150, .iconst 2, 1), (151, .iadd, 1), (152, .dup2, 1), (153, .iaload, 1), (154, .iload 4, 2), (156, .iadd, 1), (157, .iastore, 1), (158, .iload 4, 2), (160, .ireturn, 1)]
set_option maxRecDepth 100000 in
theorem tk_X8_say_3 : (tb_X8_say_3.all fun q => decide (decode cX8_say q.1 = .ok q.2)) = true := by decide +kernel
theorem dX8_say_136 : decode cX8_say 136 = .ok (.iaload, 1) := tb_d tk_X8_say_3 0 (136, .iaload, 1) rfl
theorem dX8_say_137 : decode cX8_say 137 = .ok (.iconst 1, 1) := tb_d tk_X8_say_3 1 (137, .iconst 1, 1) rfl
theorem dX8_say_138 : decode cX8_say 138 = .ok (.iadd, 1) := tb_d tk_X8_say_3 2 (138, .iadd, 1) rfl
theorem dX8_say_139 : decode cX8_say 139 = .ok (.iastore, 1) := tb_d tk_X8_say_3 3 (139, .iastore, 1) rfl
theorem dX8_say_140 : decode cX8_say 140 = .ok (.aload_n 0, 1) := tb_d tk_X8_say_3 4 (140, .aload_n 0, 1) rfl
theorem dX8_say_141 : decode cX8_say 141 = .ok (.getfield 25, 3) := tb_d tk_X8_say_3 5 (141, .getfield 25, 3) rfl
theorem dX8_say_144 : decode cX8_say 144 = .ok (.bipush 26, 2) := tb_d tk_X8_say_3 6 (144, .bipush 26, 2) rfl
theorem dX8_say_146 : decode cX8_say 146 = .ok (.iconst 3, 1) := tb_d tk_X8_say_3 7 (146, .iconst 3, 1) rfl
theorem dX8_say_147 : decode cX8_say 147 = .ok (.iload_n 3, 1) := tb_d tk_X8_say_3 8 (147, .iload_n 3, 1) rfl
theorem dX8_say_148 : decode cX8_say 148 = .ok (.imul, 1) := tb_d tk_X8_say_3 9 (148, .imul, 1) rfl
theorem dX8_say_149 : decode cX8_say 149 = .ok (.iadd, 1) := tb_d tk_X8_say_3 10 (149, .iadd, 1) rfl
theorem dX8_say_150 : decode cX8_say 150 = .ok (.iconst 2, 1) := tb_d tk_X8_say_3 11 (150, .iconst 2, 1) rfl
theorem dX8_say_151 : decode cX8_say 151 = .ok (.iadd, 1) := tb_d tk_X8_say_3 12 (151, .iadd, 1) rfl
theorem dX8_say_152 : decode cX8_say 152 = .ok (.dup2, 1) := tb_d tk_X8_say_3 13 (152, .dup2, 1) rfl
theorem dX8_say_153 : decode cX8_say 153 = .ok (.iaload, 1) := tb_d tk_X8_say_3 14 (153, .iaload, 1) rfl
theorem dX8_say_154 : decode cX8_say 154 = .ok (.iload 4, 2) := tb_d tk_X8_say_3 15 (154, .iload 4, 2) rfl
theorem dX8_say_156 : decode cX8_say 156 = .ok (.iadd, 1) := tb_d tk_X8_say_3 16 (156, .iadd, 1) rfl
theorem dX8_say_157 : decode cX8_say 157 = .ok (.iastore, 1) := tb_d tk_X8_say_3 17 (157, .iastore, 1) rfl
theorem dX8_say_158 : decode cX8_say 158 = .ok (.iload 4, 2) := tb_d tk_X8_say_3 18 (158, .iload 4, 2) rfl
theorem dX8_say_160 : decode cX8_say 160 = .ok (.ireturn, 1) := tb_d tk_X8_say_3 19 (160, .ireturn, 1) rfl
theorem ggX8_start_X8_isGate : GoodIn wsX8_start wsX8_isGate := fun w h => ⟨List.mem_cons_of_mem _ (List.mem_append_right _ (List.mem_append_right _ (List.mem_append_right _ (List.mem_append_right _ (List.mem_append_right _ (List.mem_append_left _ h)))))), good_of_word (gdX8_isGate w h)⟩
set_option maxRecDepth 20000 in
theorem gX8_start_X8_isGate : GoodIn wsX8_start (wsV RX8 180 RX8 yX8_isGate wsX8_isGate) := goodIn_app (a := bkV RX8 180 RX8 yX8_isGate) (fun w h => ⟨List.mem_cons_of_mem _ (List.mem_append_right _ (List.mem_append_left _ h)), good_of_word (gd_bV _ _ _ _ w h)⟩) ggX8_start_X8_isGate
theorem ggX8_start_X8_in : GoodIn wsX8_start wsX8_in := fun w h => ⟨List.mem_cons_of_mem _ (List.mem_append_right _ (List.mem_append_right _ (List.mem_append_right _ (List.mem_append_right _ (List.mem_append_right _ (List.mem_append_right _ (List.mem_append_left _ h))))))), good_of_word (gdX8_in w h)⟩
set_option maxRecDepth 20000 in
theorem gX8_start_X8_in : GoodIn wsX8_start (va_wsS RX8 56 yX8_in wsX8_in) := goodIn_app (a := bkS RX8 56 yX8_in) (fun w h => ⟨List.mem_cons_of_mem _ (List.mem_append_right _ (List.mem_append_right _ (List.mem_append_left _ h))), good_of_word (gd_bS _ _ _ w h)⟩) ggX8_start_X8_in
theorem ggX8_start_X8_notes : GoodIn wsX8_start wsX8_notes := fun w h => ⟨List.mem_cons_of_mem _ (List.mem_append_right _ (List.mem_append_right _ (List.mem_append_right _ (List.mem_append_right _ (List.mem_append_right _ (List.mem_append_right _ (List.mem_append_right _ (List.mem_append_left _ h)))))))), good_of_word (gdX8_notes w h)⟩
set_option maxRecDepth 20000 in
theorem gX8_start_X8_notes : GoodIn wsX8_start (wsV RX8 184 RX8 yX8_notes wsX8_notes) := goodIn_app (a := bkV RX8 184 RX8 yX8_notes) (fun w h => ⟨List.mem_cons_of_mem _ (List.mem_append_right _ (List.mem_append_right _ (List.mem_append_right _ (List.mem_append_left _ h)))), good_of_word (gd_bV _ _ _ _ w h)⟩) ggX8_start_X8_notes
def tb_X8_start_1 : List (Nat × Instr × Nat) := [(0, .aload_n 0, 1), (1, .invokevirtual 180, 3), (4, .ifCond .ne 6, 3), (7, .ldc 183, 2), (9, .ireturn, 1), (10, .iload_n 1, 1), (11, .iconst 0, 1), (12, .bipush 9, 2), (14, .invokestatic 56, 3), (17, .ifCond .ne 6, 3), (20, .ldc 64, 2), (22, .ireturn, 1), (23, .aload_n 0, 1), (24, .invokevirtual 184, 3), (27, .aload_n 0, 1), (28, .getfield 25, 3), (31, .iconst 0, 1), (32, .iaload, 1), (33, .istore_n 2, 1), (34, .aload_n 0, 1), (35, .getfield 25, 3), (38, .iconst 0, 1), (39, .iload_n 1, 1), (40, .iastore, 1), (41, .iload_n 2, 1), (42, .ireturn, 1)]
set_option maxRecDepth 100000 in
theorem tk_X8_start_1 : (tb_X8_start_1.all fun q => decide (decode cX8_start q.1 = .ok q.2)) = true := by decide +kernel
theorem dX8_start_0 : decode cX8_start 0 = .ok (.aload_n 0, 1) := tb_d tk_X8_start_1 0 (0, .aload_n 0, 1) rfl
theorem dX8_start_1 : decode cX8_start 1 = .ok (.invokevirtual 180, 3) := tb_d tk_X8_start_1 1 (1, .invokevirtual 180, 3) rfl
theorem dX8_start_4 : decode cX8_start 4 = .ok (.ifCond .ne 6, 3) := tb_d tk_X8_start_1 2 (4, .ifCond .ne 6, 3) rfl
theorem dX8_start_7 : decode cX8_start 7 = .ok (.ldc 183, 2) := tb_d tk_X8_start_1 3 (7, .ldc 183, 2) rfl
theorem dX8_start_9 : decode cX8_start 9 = .ok (.ireturn, 1) := tb_d tk_X8_start_1 4 (9, .ireturn, 1) rfl
theorem dX8_start_10 : decode cX8_start 10 = .ok (.iload_n 1, 1) := tb_d tk_X8_start_1 5 (10, .iload_n 1, 1) rfl
theorem dX8_start_11 : decode cX8_start 11 = .ok (.iconst 0, 1) := tb_d tk_X8_start_1 6 (11, .iconst 0, 1) rfl
theorem dX8_start_12 : decode cX8_start 12 = .ok (.bipush 9, 2) := tb_d tk_X8_start_1 7 (12, .bipush 9, 2) rfl
theorem dX8_start_14 : decode cX8_start 14 = .ok (.invokestatic 56, 3) := tb_d tk_X8_start_1 8 (14, .invokestatic 56, 3) rfl
theorem dX8_start_17 : decode cX8_start 17 = .ok (.ifCond .ne 6, 3) := tb_d tk_X8_start_1 9 (17, .ifCond .ne 6, 3) rfl
theorem dX8_start_20 : decode cX8_start 20 = .ok (.ldc 64, 2) := tb_d tk_X8_start_1 10 (20, .ldc 64, 2) rfl
theorem dX8_start_22 : decode cX8_start 22 = .ok (.ireturn, 1) := tb_d tk_X8_start_1 11 (22, .ireturn, 1) rfl
theorem dX8_start_23 : decode cX8_start 23 = .ok (.aload_n 0, 1) := tb_d tk_X8_start_1 12 (23, .aload_n 0, 1) rfl
theorem dX8_start_24 : decode cX8_start 24 = .ok (.invokevirtual 184, 3) := tb_d tk_X8_start_1 13 (24, .invokevirtual 184, 3) rfl
theorem dX8_start_27 : decode cX8_start 27 = .ok (.aload_n 0, 1) := tb_d tk_X8_start_1 14 (27, .aload_n 0, 1) rfl
theorem dX8_start_28 : decode cX8_start 28 = .ok (.getfield 25, 3) := tb_d tk_X8_start_1 15 (28, .getfield 25, 3) rfl
theorem dX8_start_31 : decode cX8_start 31 = .ok (.iconst 0, 1) := tb_d tk_X8_start_1 16 (31, .iconst 0, 1) rfl
theorem dX8_start_32 : decode cX8_start 32 = .ok (.iaload, 1) := tb_d tk_X8_start_1 17 (32, .iaload, 1) rfl
theorem dX8_start_33 : decode cX8_start 33 = .ok (.istore_n 2, 1) := tb_d tk_X8_start_1 18 (33, .istore_n 2, 1) rfl
theorem dX8_start_34 : decode cX8_start 34 = .ok (.aload_n 0, 1) := tb_d tk_X8_start_1 19 (34, .aload_n 0, 1) rfl
theorem dX8_start_35 : decode cX8_start 35 = .ok (.getfield 25, 3) := tb_d tk_X8_start_1 20 (35, .getfield 25, 3) rfl
theorem dX8_start_38 : decode cX8_start 38 = .ok (.iconst 0, 1) := tb_d tk_X8_start_1 21 (38, .iconst 0, 1) rfl
theorem dX8_start_39 : decode cX8_start 39 = .ok (.iload_n 1, 1) := tb_d tk_X8_start_1 22 (39, .iload_n 1, 1) rfl
theorem dX8_start_40 : decode cX8_start 40 = .ok (.iastore, 1) := tb_d tk_X8_start_1 23 (40, .iastore, 1) rfl
theorem dX8_start_41 : decode cX8_start 41 = .ok (.iload_n 2, 1) := tb_d tk_X8_start_1 24 (41, .iload_n 2, 1) rfl
theorem dX8_start_42 : decode cX8_start 42 = .ok (.ireturn, 1) := tb_d tk_X8_start_1 25 (42, .ireturn, 1) rfl
theorem ggX8_dismiss_X8_isGuard : GoodIn wsX8_dismiss wsX8_isGuard := fun w h => ⟨List.mem_cons_of_mem _ (List.mem_append_right _ (List.mem_append_right _ (List.mem_append_right _ (List.mem_append_right _ (List.mem_append_right _ (List.mem_append_left _ h)))))), good_of_word (gdX8_isGuard w h)⟩
set_option maxRecDepth 20000 in
theorem gX8_dismiss_X8_isGuard : GoodIn wsX8_dismiss (wsV RX8 199 RX8 yX8_isGuard wsX8_isGuard) := goodIn_app (a := bkV RX8 199 RX8 yX8_isGuard) (fun w h => ⟨List.mem_cons_of_mem _ (List.mem_append_right _ (List.mem_append_left _ h)), good_of_word (gd_bV _ _ _ _ w h)⟩) ggX8_dismiss_X8_isGuard
theorem ggX8_dismiss_X8_in : GoodIn wsX8_dismiss wsX8_in := fun w h => ⟨List.mem_cons_of_mem _ (List.mem_append_right _ (List.mem_append_right _ (List.mem_append_right _ (List.mem_append_right _ (List.mem_append_right _ (List.mem_append_right _ (List.mem_append_left _ h))))))), good_of_word (gdX8_in w h)⟩
set_option maxRecDepth 20000 in
theorem gX8_dismiss_X8_in : GoodIn wsX8_dismiss (va_wsS RX8 56 yX8_in wsX8_in) := goodIn_app (a := bkS RX8 56 yX8_in) (fun w h => ⟨List.mem_cons_of_mem _ (List.mem_append_right _ (List.mem_append_right _ (List.mem_append_left _ h))), good_of_word (gd_bS _ _ _ w h)⟩) ggX8_dismiss_X8_in
theorem ggX8_dismiss_X8_notes : GoodIn wsX8_dismiss wsX8_notes := fun w h => ⟨List.mem_cons_of_mem _ (List.mem_append_right _ (List.mem_append_right _ (List.mem_append_right _ (List.mem_append_right _ (List.mem_append_right _ (List.mem_append_right _ (List.mem_append_right _ (List.mem_append_left _ h)))))))), good_of_word (gdX8_notes w h)⟩
set_option maxRecDepth 20000 in
theorem gX8_dismiss_X8_notes : GoodIn wsX8_dismiss (wsV RX8 184 RX8 yX8_notes wsX8_notes) := goodIn_app (a := bkV RX8 184 RX8 yX8_notes) (fun w h => ⟨List.mem_cons_of_mem _ (List.mem_append_right _ (List.mem_append_right _ (List.mem_append_right _ (List.mem_append_left _ h)))), good_of_word (gd_bV _ _ _ _ w h)⟩) ggX8_dismiss_X8_notes
def tb_X8_dismiss_1 : List (Nat × Instr × Nat) := [(0, .aload_n 0, 1), (1, .iload_n 1, 1), (2, .invokevirtual 199, 3), (5, .ifCond .eq 12, 3), (8, .iload_n 2, 1), (9, .iconst 0, 1), (10, .iconst 1, 1), (11, .invokestatic 56, 3), (14, .ifCond .ne 6, 3), (17, .ldc 64, 2), (19, .ireturn, 1), (20, .aload_n 0, 1), (21, .getfield 25, 3), (24, .bipush 6, 2), (26, .iaload, 1), (27, .iload_n 1, 1), (28, .ishr, 1), (29, .iconst 1, 1), (30, .iand, 1), (31, .iload_n 2, 1), (32, .if_icmp .ne 6, 3), (35, .ldc 183, 2), (37, .ireturn, 1), (38, .aload_n 0, 1), (39, .invokevirtual 184, 3), (42, .aload_n 0, 1), (43, .getfield 25, 3), (46, .bipush 6, 2), (48, .dup2, 1), (49, .iaload, 1), (50, .iconst 1, 1), (51, .iload_n 1, 1), (52, .ishl, 1), (53, .ixor, 1), (54, .iastore, 1), (55, .aload_n 0, 1), (56, .getfield 25, 3), (59, .bipush 6, 2), (61, .iaload, 1), (62, .ireturn, 1)]
set_option maxRecDepth 100000 in
theorem tk_X8_dismiss_1 : (tb_X8_dismiss_1.all fun q => decide (decode cX8_dismiss q.1 = .ok q.2)) = true := by decide +kernel
theorem dX8_dismiss_0 : decode cX8_dismiss 0 = .ok (.aload_n 0, 1) := tb_d tk_X8_dismiss_1 0 (0, .aload_n 0, 1) rfl
theorem dX8_dismiss_1 : decode cX8_dismiss 1 = .ok (.iload_n 1, 1) := tb_d tk_X8_dismiss_1 1 (1, .iload_n 1, 1) rfl
theorem dX8_dismiss_2 : decode cX8_dismiss 2 = .ok (.invokevirtual 199, 3) := tb_d tk_X8_dismiss_1 2 (2, .invokevirtual 199, 3) rfl
theorem dX8_dismiss_5 : decode cX8_dismiss 5 = .ok (.ifCond .eq 12, 3) := tb_d tk_X8_dismiss_1 3 (5, .ifCond .eq 12, 3) rfl
theorem dX8_dismiss_8 : decode cX8_dismiss 8 = .ok (.iload_n 2, 1) := tb_d tk_X8_dismiss_1 4 (8, .iload_n 2, 1) rfl
theorem dX8_dismiss_9 : decode cX8_dismiss 9 = .ok (.iconst 0, 1) := tb_d tk_X8_dismiss_1 5 (9, .iconst 0, 1) rfl
theorem dX8_dismiss_10 : decode cX8_dismiss 10 = .ok (.iconst 1, 1) := tb_d tk_X8_dismiss_1 6 (10, .iconst 1, 1) rfl
theorem dX8_dismiss_11 : decode cX8_dismiss 11 = .ok (.invokestatic 56, 3) := tb_d tk_X8_dismiss_1 7 (11, .invokestatic 56, 3) rfl
theorem dX8_dismiss_14 : decode cX8_dismiss 14 = .ok (.ifCond .ne 6, 3) := tb_d tk_X8_dismiss_1 8 (14, .ifCond .ne 6, 3) rfl
theorem dX8_dismiss_17 : decode cX8_dismiss 17 = .ok (.ldc 64, 2) := tb_d tk_X8_dismiss_1 9 (17, .ldc 64, 2) rfl
theorem dX8_dismiss_19 : decode cX8_dismiss 19 = .ok (.ireturn, 1) := tb_d tk_X8_dismiss_1 10 (19, .ireturn, 1) rfl
theorem dX8_dismiss_20 : decode cX8_dismiss 20 = .ok (.aload_n 0, 1) := tb_d tk_X8_dismiss_1 11 (20, .aload_n 0, 1) rfl
theorem dX8_dismiss_21 : decode cX8_dismiss 21 = .ok (.getfield 25, 3) := tb_d tk_X8_dismiss_1 12 (21, .getfield 25, 3) rfl
theorem dX8_dismiss_24 : decode cX8_dismiss 24 = .ok (.bipush 6, 2) := tb_d tk_X8_dismiss_1 13 (24, .bipush 6, 2) rfl
theorem dX8_dismiss_26 : decode cX8_dismiss 26 = .ok (.iaload, 1) := tb_d tk_X8_dismiss_1 14 (26, .iaload, 1) rfl
theorem dX8_dismiss_27 : decode cX8_dismiss 27 = .ok (.iload_n 1, 1) := tb_d tk_X8_dismiss_1 15 (27, .iload_n 1, 1) rfl
theorem dX8_dismiss_28 : decode cX8_dismiss 28 = .ok (.ishr, 1) := tb_d tk_X8_dismiss_1 16 (28, .ishr, 1) rfl
theorem dX8_dismiss_29 : decode cX8_dismiss 29 = .ok (.iconst 1, 1) := tb_d tk_X8_dismiss_1 17 (29, .iconst 1, 1) rfl
theorem dX8_dismiss_30 : decode cX8_dismiss 30 = .ok (.iand, 1) := tb_d tk_X8_dismiss_1 18 (30, .iand, 1) rfl
theorem dX8_dismiss_31 : decode cX8_dismiss 31 = .ok (.iload_n 2, 1) := tb_d tk_X8_dismiss_1 19 (31, .iload_n 2, 1) rfl
theorem dX8_dismiss_32 : decode cX8_dismiss 32 = .ok (.if_icmp .ne 6, 3) := tb_d tk_X8_dismiss_1 20 (32, .if_icmp .ne 6, 3) rfl
theorem dX8_dismiss_35 : decode cX8_dismiss 35 = .ok (.ldc 183, 2) := tb_d tk_X8_dismiss_1 21 (35, .ldc 183, 2) rfl
theorem dX8_dismiss_37 : decode cX8_dismiss 37 = .ok (.ireturn, 1) := tb_d tk_X8_dismiss_1 22 (37, .ireturn, 1) rfl
theorem dX8_dismiss_38 : decode cX8_dismiss 38 = .ok (.aload_n 0, 1) := tb_d tk_X8_dismiss_1 23 (38, .aload_n 0, 1) rfl
theorem dX8_dismiss_39 : decode cX8_dismiss 39 = .ok (.invokevirtual 184, 3) := tb_d tk_X8_dismiss_1 24 (39, .invokevirtual 184, 3) rfl
theorem dX8_dismiss_42 : decode cX8_dismiss 42 = .ok (.aload_n 0, 1) := tb_d tk_X8_dismiss_1 25 (42, .aload_n 0, 1) rfl
theorem dX8_dismiss_43 : decode cX8_dismiss 43 = .ok (.getfield 25, 3) := tb_d tk_X8_dismiss_1 26 (43, .getfield 25, 3) rfl
theorem dX8_dismiss_46 : decode cX8_dismiss 46 = .ok (.bipush 6, 2) := tb_d tk_X8_dismiss_1 27 (46, .bipush 6, 2) rfl
theorem dX8_dismiss_48 : decode cX8_dismiss 48 = .ok (.dup2, 1) := tb_d tk_X8_dismiss_1 28 (48, .dup2, 1) rfl
theorem dX8_dismiss_49 : decode cX8_dismiss 49 = .ok (.iaload, 1) := tb_d tk_X8_dismiss_1 29 (49, .iaload, 1) rfl
theorem dX8_dismiss_50 : decode cX8_dismiss 50 = .ok (.iconst 1, 1) := tb_d tk_X8_dismiss_1 30 (50, .iconst 1, 1) rfl
theorem dX8_dismiss_51 : decode cX8_dismiss 51 = .ok (.iload_n 1, 1) := tb_d tk_X8_dismiss_1 31 (51, .iload_n 1, 1) rfl
theorem dX8_dismiss_52 : decode cX8_dismiss 52 = .ok (.ishl, 1) := tb_d tk_X8_dismiss_1 32 (52, .ishl, 1) rfl
theorem dX8_dismiss_53 : decode cX8_dismiss 53 = .ok (.ixor, 1) := tb_d tk_X8_dismiss_1 33 (53, .ixor, 1) rfl
theorem dX8_dismiss_54 : decode cX8_dismiss 54 = .ok (.iastore, 1) := tb_d tk_X8_dismiss_1 34 (54, .iastore, 1) rfl
theorem dX8_dismiss_55 : decode cX8_dismiss 55 = .ok (.aload_n 0, 1) := tb_d tk_X8_dismiss_1 35 (55, .aload_n 0, 1) rfl
theorem dX8_dismiss_56 : decode cX8_dismiss 56 = .ok (.getfield 25, 3) := tb_d tk_X8_dismiss_1 36 (56, .getfield 25, 3) rfl
theorem dX8_dismiss_59 : decode cX8_dismiss 59 = .ok (.bipush 6, 2) := tb_d tk_X8_dismiss_1 37 (59, .bipush 6, 2) rfl
theorem dX8_dismiss_61 : decode cX8_dismiss 61 = .ok (.iaload, 1) := tb_d tk_X8_dismiss_1 38 (61, .iaload, 1) rfl
theorem dX8_dismiss_62 : decode cX8_dismiss 62 = .ok (.ireturn, 1) := tb_d tk_X8_dismiss_1 39 (62, .ireturn, 1) rfl
theorem ggX8_undo_X8_copies : GoodIn wsX8_undo wsX8_copies := fun w h => ⟨List.mem_cons_of_mem _ (List.mem_append_right _ (List.mem_append_right _ (List.mem_append_right _ (List.mem_append_left _ h)))), good_of_word (gdX8_copies w h)⟩
set_option maxRecDepth 20000 in
theorem gX8_undo_X8_copies : GoodIn wsX8_undo (va_wsS RX8 145 yX8_copies wsX8_copies) := goodIn_app (a := bkS RX8 145 yX8_copies) (fun w h => ⟨List.mem_cons_of_mem _ (List.mem_append_right _ (List.mem_append_left _ h)), good_of_word (gd_bS _ _ _ w h)⟩) ggX8_undo_X8_copies
def tb_X8_undo_1 : List (Nat × Instr × Nat) := [(0, .aload_n 0, 1), (1, .getfield 149, 3), (4, .ifCond .ne 6, 3), (7, .ldc 183, 2), (9, .ireturn, 1), (10, .aload_n 0, 1), (11, .dup, 1), (12, .getfield 149, 3), (15, .iconst 1, 1), (16, .isub, 1), (17, .putfield 149, 3), (20, .aload_n 0, 1), (21, .getfield 34, 3), (24, .bipush 65, 2), (26, .aload_n 0, 1), (27, .getfield 149, 3), (30, .imul, 1), (31, .aload_n 0, 1), (32, .getfield 25, 3), (35, .iconst 0, 1), (36, .invokestatic 145, 3), (39, .aload_n 0, 1), (40, .getfield 149, 3), (43, .ireturn, 1)]
set_option maxRecDepth 100000 in
theorem tk_X8_undo_1 : (tb_X8_undo_1.all fun q => decide (decode cX8_undo q.1 = .ok q.2)) = true := by decide +kernel
theorem dX8_undo_0 : decode cX8_undo 0 = .ok (.aload_n 0, 1) := tb_d tk_X8_undo_1 0 (0, .aload_n 0, 1) rfl
theorem dX8_undo_1 : decode cX8_undo 1 = .ok (.getfield 149, 3) := tb_d tk_X8_undo_1 1 (1, .getfield 149, 3) rfl
theorem dX8_undo_4 : decode cX8_undo 4 = .ok (.ifCond .ne 6, 3) := tb_d tk_X8_undo_1 2 (4, .ifCond .ne 6, 3) rfl
theorem dX8_undo_7 : decode cX8_undo 7 = .ok (.ldc 183, 2) := tb_d tk_X8_undo_1 3 (7, .ldc 183, 2) rfl
theorem dX8_undo_9 : decode cX8_undo 9 = .ok (.ireturn, 1) := tb_d tk_X8_undo_1 4 (9, .ireturn, 1) rfl
theorem dX8_undo_10 : decode cX8_undo 10 = .ok (.aload_n 0, 1) := tb_d tk_X8_undo_1 5 (10, .aload_n 0, 1) rfl
theorem dX8_undo_11 : decode cX8_undo 11 = .ok (.dup, 1) := tb_d tk_X8_undo_1 6 (11, .dup, 1) rfl
theorem dX8_undo_12 : decode cX8_undo 12 = .ok (.getfield 149, 3) := tb_d tk_X8_undo_1 7 (12, .getfield 149, 3) rfl
theorem dX8_undo_15 : decode cX8_undo 15 = .ok (.iconst 1, 1) := tb_d tk_X8_undo_1 8 (15, .iconst 1, 1) rfl
theorem dX8_undo_16 : decode cX8_undo 16 = .ok (.isub, 1) := tb_d tk_X8_undo_1 9 (16, .isub, 1) rfl
theorem dX8_undo_17 : decode cX8_undo 17 = .ok (.putfield 149, 3) := tb_d tk_X8_undo_1 10 (17, .putfield 149, 3) rfl
theorem dX8_undo_20 : decode cX8_undo 20 = .ok (.aload_n 0, 1) := tb_d tk_X8_undo_1 11 (20, .aload_n 0, 1) rfl
theorem dX8_undo_21 : decode cX8_undo 21 = .ok (.getfield 34, 3) := tb_d tk_X8_undo_1 12 (21, .getfield 34, 3) rfl
theorem dX8_undo_24 : decode cX8_undo 24 = .ok (.bipush 65, 2) := tb_d tk_X8_undo_1 13 (24, .bipush 65, 2) rfl
theorem dX8_undo_26 : decode cX8_undo 26 = .ok (.aload_n 0, 1) := tb_d tk_X8_undo_1 14 (26, .aload_n 0, 1) rfl
theorem dX8_undo_27 : decode cX8_undo 27 = .ok (.getfield 149, 3) := tb_d tk_X8_undo_1 15 (27, .getfield 149, 3) rfl
theorem dX8_undo_30 : decode cX8_undo 30 = .ok (.imul, 1) := tb_d tk_X8_undo_1 16 (30, .imul, 1) rfl
theorem dX8_undo_31 : decode cX8_undo 31 = .ok (.aload_n 0, 1) := tb_d tk_X8_undo_1 17 (31, .aload_n 0, 1) rfl
theorem dX8_undo_32 : decode cX8_undo 32 = .ok (.getfield 25, 3) := tb_d tk_X8_undo_1 18 (32, .getfield 25, 3) rfl
theorem dX8_undo_35 : decode cX8_undo 35 = .ok (.iconst 0, 1) := tb_d tk_X8_undo_1 19 (35, .iconst 0, 1) rfl
theorem dX8_undo_36 : decode cX8_undo 36 = .ok (.invokestatic 145, 3) := tb_d tk_X8_undo_1 20 (36, .invokestatic 145, 3) rfl
theorem dX8_undo_39 : decode cX8_undo 39 = .ok (.aload_n 0, 1) := tb_d tk_X8_undo_1 21 (39, .aload_n 0, 1) rfl
theorem dX8_undo_40 : decode cX8_undo 40 = .ok (.getfield 149, 3) := tb_d tk_X8_undo_1 22 (40, .getfield 149, 3) rfl
theorem dX8_undo_43 : decode cX8_undo 43 = .ok (.ireturn, 1) := tb_d tk_X8_undo_1 23 (43, .ireturn, 1) rfl
theorem ggX8_letter_X8_isWord : GoodIn wsX8_letter wsX8_isWord := fun w h => ⟨List.mem_cons_of_mem _ (List.mem_append_right _ (List.mem_append_right _ (List.mem_append_right _ (List.mem_append_right _ (List.mem_append_left _ h))))), good_of_word (gdX8_isWord w h)⟩
set_option maxRecDepth 20000 in
theorem gX8_letter_X8_isWord : GoodIn wsX8_letter (wsV RX8 190 RX8 yX8_isWord wsX8_isWord) := goodIn_app (a := bkV RX8 190 RX8 yX8_isWord) (fun w h => ⟨List.mem_cons_of_mem _ (List.mem_append_right _ (List.mem_append_left _ h)), good_of_word (gd_bV _ _ _ _ w h)⟩) ggX8_letter_X8_isWord
theorem ggX8_letter_X8_in : GoodIn wsX8_letter wsX8_in := fun w h => ⟨List.mem_cons_of_mem _ (List.mem_append_right _ (List.mem_append_right _ (List.mem_append_right _ (List.mem_append_right _ (List.mem_append_right _ (List.mem_append_left _ h)))))), good_of_word (gdX8_in w h)⟩
set_option maxRecDepth 20000 in
theorem gX8_letter_X8_in : GoodIn wsX8_letter (va_wsS RX8 56 yX8_in wsX8_in) := goodIn_app (a := bkS RX8 56 yX8_in) (fun w h => ⟨List.mem_cons_of_mem _ (List.mem_append_right _ (List.mem_append_right _ (List.mem_append_left _ h))), good_of_word (gd_bS _ _ _ w h)⟩) ggX8_letter_X8_in
def tb_X8_letter_1 : List (Nat × Instr × Nat) := [(0, .aload_n 0, 1), (1, .iload_n 1, 1), (2, .invokevirtual 190, 3), (5, .ifCond .eq 28, 3), (8, .iload_n 2, 1), (9, .iconst 0, 1), (10, .iconst 2, 1), (11, .invokestatic 56, 3), (14, .ifCond .eq 19, 3), (17, .aload_n 0, 1), (18, .getfield 25, 3), (21, .bipush 8, 2), (23, .iconst 3, 1), (24, .iload_n 1, 1), (25, .imul, 1), (26, .iadd, 1), (27, .iload_n 2, 1), (28, .iadd, 1), (29, .iaload, 1), (30, .goto 5, 3), (33, .ldc 64, 2), (35, .ireturn, 1)]
set_option maxRecDepth 100000 in
theorem tk_X8_letter_1 : (tb_X8_letter_1.all fun q => decide (decode cX8_letter q.1 = .ok q.2)) = true := by decide +kernel
theorem dX8_letter_0 : decode cX8_letter 0 = .ok (.aload_n 0, 1) := tb_d tk_X8_letter_1 0 (0, .aload_n 0, 1) rfl
theorem dX8_letter_1 : decode cX8_letter 1 = .ok (.iload_n 1, 1) := tb_d tk_X8_letter_1 1 (1, .iload_n 1, 1) rfl
theorem dX8_letter_2 : decode cX8_letter 2 = .ok (.invokevirtual 190, 3) := tb_d tk_X8_letter_1 2 (2, .invokevirtual 190, 3) rfl
theorem dX8_letter_5 : decode cX8_letter 5 = .ok (.ifCond .eq 28, 3) := tb_d tk_X8_letter_1 3 (5, .ifCond .eq 28, 3) rfl
theorem dX8_letter_8 : decode cX8_letter 8 = .ok (.iload_n 2, 1) := tb_d tk_X8_letter_1 4 (8, .iload_n 2, 1) rfl
theorem dX8_letter_9 : decode cX8_letter 9 = .ok (.iconst 0, 1) := tb_d tk_X8_letter_1 5 (9, .iconst 0, 1) rfl
theorem dX8_letter_10 : decode cX8_letter 10 = .ok (.iconst 2, 1) := tb_d tk_X8_letter_1 6 (10, .iconst 2, 1) rfl
theorem dX8_letter_11 : decode cX8_letter 11 = .ok (.invokestatic 56, 3) := tb_d tk_X8_letter_1 7 (11, .invokestatic 56, 3) rfl
theorem dX8_letter_14 : decode cX8_letter 14 = .ok (.ifCond .eq 19, 3) := tb_d tk_X8_letter_1 8 (14, .ifCond .eq 19, 3) rfl
theorem dX8_letter_17 : decode cX8_letter 17 = .ok (.aload_n 0, 1) := tb_d tk_X8_letter_1 9 (17, .aload_n 0, 1) rfl
theorem dX8_letter_18 : decode cX8_letter 18 = .ok (.getfield 25, 3) := tb_d tk_X8_letter_1 10 (18, .getfield 25, 3) rfl
theorem dX8_letter_21 : decode cX8_letter 21 = .ok (.bipush 8, 2) := tb_d tk_X8_letter_1 11 (21, .bipush 8, 2) rfl
theorem dX8_letter_23 : decode cX8_letter 23 = .ok (.iconst 3, 1) := tb_d tk_X8_letter_1 12 (23, .iconst 3, 1) rfl
theorem dX8_letter_24 : decode cX8_letter 24 = .ok (.iload_n 1, 1) := tb_d tk_X8_letter_1 13 (24, .iload_n 1, 1) rfl
theorem dX8_letter_25 : decode cX8_letter 25 = .ok (.imul, 1) := tb_d tk_X8_letter_1 14 (25, .imul, 1) rfl
theorem dX8_letter_26 : decode cX8_letter 26 = .ok (.iadd, 1) := tb_d tk_X8_letter_1 15 (26, .iadd, 1) rfl
theorem dX8_letter_27 : decode cX8_letter 27 = .ok (.iload_n 2, 1) := tb_d tk_X8_letter_1 16 (27, .iload_n 2, 1) rfl
theorem dX8_letter_28 : decode cX8_letter 28 = .ok (.iadd, 1) := tb_d tk_X8_letter_1 17 (28, .iadd, 1) rfl
theorem dX8_letter_29 : decode cX8_letter 29 = .ok (.iaload, 1) := tb_d tk_X8_letter_1 18 (29, .iaload, 1) rfl
theorem dX8_letter_30 : decode cX8_letter 30 = .ok (.goto 5, 3) := tb_d tk_X8_letter_1 19 (30, .goto 5, 3) rfl
theorem dX8_letter_33 : decode cX8_letter 33 = .ok (.ldc 64, 2) := tb_d tk_X8_letter_1 20 (33, .ldc 64, 2) rfl
theorem dX8_letter_35 : decode cX8_letter 35 = .ok (.ireturn, 1) := tb_d tk_X8_letter_1 21 (35, .ireturn, 1) rfl
theorem ggX8_like_X8_isWord : GoodIn wsX8_like wsX8_isWord := fun w h => ⟨List.mem_cons_of_mem _ (List.mem_append_right _ (List.mem_append_right _ (List.mem_append_right _ (List.mem_append_right _ (List.mem_append_right _ (List.mem_append_right _ (List.mem_append_left _ h))))))), good_of_word (gdX8_isWord w h)⟩
set_option maxRecDepth 20000 in
theorem gX8_like_X8_isWord : GoodIn wsX8_like (wsV RX8 190 RX8 yX8_isWord wsX8_isWord) := goodIn_app (a := bkV RX8 190 RX8 yX8_isWord) (fun w h => ⟨List.mem_cons_of_mem _ (List.mem_append_right _ (List.mem_append_left _ h)), good_of_word (gd_bV _ _ _ _ w h)⟩) ggX8_like_X8_isWord
theorem ggX8_like_X8_in : GoodIn wsX8_like wsX8_in := fun w h => ⟨List.mem_cons_of_mem _ (List.mem_append_right _ (List.mem_append_right _ (List.mem_append_right _ (List.mem_append_right _ (List.mem_append_right _ (List.mem_append_right _ (List.mem_append_right _ (List.mem_append_left _ h)))))))), good_of_word (gdX8_in w h)⟩
set_option maxRecDepth 20000 in
theorem gX8_like_X8_in : GoodIn wsX8_like (va_wsS RX8 56 yX8_in wsX8_in) := goodIn_app (a := bkS RX8 56 yX8_in) (fun w h => ⟨List.mem_cons_of_mem _ (List.mem_append_right _ (List.mem_append_right _ (List.mem_append_left _ h))), good_of_word (gd_bS _ _ _ w h)⟩) ggX8_like_X8_in
theorem ggX8_like_X8_distance : GoodIn wsX8_like wsX8_distance := fun w h => ⟨List.mem_cons_of_mem _ (List.mem_append_right _ (List.mem_append_right _ (List.mem_append_right _ (List.mem_append_right _ (List.mem_append_right _ (List.mem_append_right _ (List.mem_append_right _ (List.mem_append_right _ (List.mem_append_left _ h))))))))), good_of_word (gdX8_distance w h)⟩
set_option maxRecDepth 20000 in
theorem gX8_like_X8_distance : GoodIn wsX8_like (wsV RX8 152 RX8 yX8_distance wsX8_distance) := goodIn_app (a := bkV RX8 152 RX8 yX8_distance) (fun w h => ⟨List.mem_cons_of_mem _ (List.mem_append_right _ (List.mem_append_right _ (List.mem_append_right _ (List.mem_append_left _ h)))), good_of_word (gd_bV _ _ _ _ w h)⟩) ggX8_like_X8_distance
theorem ggX8_like_X8_lips : GoodIn wsX8_like wsX8_lips := fun w h => ⟨List.mem_cons_of_mem _ (List.mem_append_right _ (List.mem_append_right _ (List.mem_append_right _ (List.mem_append_right _ (List.mem_append_right _ (List.mem_append_right _ (List.mem_append_right _ (List.mem_append_right _ (List.mem_append_right _ (List.mem_append_left _ h)))))))))), good_of_word (gdX8_lips w h)⟩
set_option maxRecDepth 20000 in
theorem gX8_like_X8_lips : GoodIn wsX8_like (wsV RX8 155 RX8 yX8_lips wsX8_lips) := goodIn_app (a := bkV RX8 155 RX8 yX8_lips) (fun w h => ⟨List.mem_cons_of_mem _ (List.mem_append_right _ (List.mem_append_right _ (List.mem_append_right _ (List.mem_append_right _ (List.mem_append_left _ h))))), good_of_word (gd_bV _ _ _ _ w h)⟩) ggX8_like_X8_lips
def tb_X8_like_1 : List (Nat × Instr × Nat) := [(0, .aload_n 0, 1), (1, .iload_n 1, 1), (2, .invokevirtual 190, 3), (5, .ifCond .eq 20, 3), (8, .aload_n 0, 1), (9, .iload_n 2, 1), (10, .invokevirtual 190, 3), (13, .ifCond .eq 12, 3), (16, .iload_n 3, 1), (17, .iconst 0, 1), (18, .iconst 1, 1), (19, .invokestatic 56, 3), (22, .ifCond .ne 6, 3), (25, .ldc 64, 2), (27, .ireturn, 1), (28, .iload_n 3, 1), (29, .ifCond .ne 12, 3), (32, .aload_n 0, 1), (33, .iload_n 1, 1), (34, .iload_n 2, 1), (35, .invokevirtual 152, 3), (38, .goto 9, 3), (41, .aload_n 0, 1), (42, .iload_n 1, 1), (43, .iload_n 2, 1), (44, .invokevirtual 155, 3), (47, .ireturn, 1)]
set_option maxRecDepth 100000 in
theorem tk_X8_like_1 : (tb_X8_like_1.all fun q => decide (decode cX8_like q.1 = .ok q.2)) = true := by decide +kernel
theorem dX8_like_0 : decode cX8_like 0 = .ok (.aload_n 0, 1) := tb_d tk_X8_like_1 0 (0, .aload_n 0, 1) rfl
theorem dX8_like_1 : decode cX8_like 1 = .ok (.iload_n 1, 1) := tb_d tk_X8_like_1 1 (1, .iload_n 1, 1) rfl
theorem dX8_like_2 : decode cX8_like 2 = .ok (.invokevirtual 190, 3) := tb_d tk_X8_like_1 2 (2, .invokevirtual 190, 3) rfl
theorem dX8_like_5 : decode cX8_like 5 = .ok (.ifCond .eq 20, 3) := tb_d tk_X8_like_1 3 (5, .ifCond .eq 20, 3) rfl
theorem dX8_like_8 : decode cX8_like 8 = .ok (.aload_n 0, 1) := tb_d tk_X8_like_1 4 (8, .aload_n 0, 1) rfl
theorem dX8_like_9 : decode cX8_like 9 = .ok (.iload_n 2, 1) := tb_d tk_X8_like_1 5 (9, .iload_n 2, 1) rfl
theorem dX8_like_10 : decode cX8_like 10 = .ok (.invokevirtual 190, 3) := tb_d tk_X8_like_1 6 (10, .invokevirtual 190, 3) rfl
theorem dX8_like_13 : decode cX8_like 13 = .ok (.ifCond .eq 12, 3) := tb_d tk_X8_like_1 7 (13, .ifCond .eq 12, 3) rfl
theorem dX8_like_16 : decode cX8_like 16 = .ok (.iload_n 3, 1) := tb_d tk_X8_like_1 8 (16, .iload_n 3, 1) rfl
theorem dX8_like_17 : decode cX8_like 17 = .ok (.iconst 0, 1) := tb_d tk_X8_like_1 9 (17, .iconst 0, 1) rfl
theorem dX8_like_18 : decode cX8_like 18 = .ok (.iconst 1, 1) := tb_d tk_X8_like_1 10 (18, .iconst 1, 1) rfl
theorem dX8_like_19 : decode cX8_like 19 = .ok (.invokestatic 56, 3) := tb_d tk_X8_like_1 11 (19, .invokestatic 56, 3) rfl
theorem dX8_like_22 : decode cX8_like 22 = .ok (.ifCond .ne 6, 3) := tb_d tk_X8_like_1 12 (22, .ifCond .ne 6, 3) rfl
theorem dX8_like_25 : decode cX8_like 25 = .ok (.ldc 64, 2) := tb_d tk_X8_like_1 13 (25, .ldc 64, 2) rfl
theorem dX8_like_27 : decode cX8_like 27 = .ok (.ireturn, 1) := tb_d tk_X8_like_1 14 (27, .ireturn, 1) rfl
theorem dX8_like_28 : decode cX8_like 28 = .ok (.iload_n 3, 1) := tb_d tk_X8_like_1 15 (28, .iload_n 3, 1) rfl
theorem dX8_like_29 : decode cX8_like 29 = .ok (.ifCond .ne 12, 3) := tb_d tk_X8_like_1 16 (29, .ifCond .ne 12, 3) rfl
theorem dX8_like_32 : decode cX8_like 32 = .ok (.aload_n 0, 1) := tb_d tk_X8_like_1 17 (32, .aload_n 0, 1) rfl
theorem dX8_like_33 : decode cX8_like 33 = .ok (.iload_n 1, 1) := tb_d tk_X8_like_1 18 (33, .iload_n 1, 1) rfl
theorem dX8_like_34 : decode cX8_like 34 = .ok (.iload_n 2, 1) := tb_d tk_X8_like_1 19 (34, .iload_n 2, 1) rfl
theorem dX8_like_35 : decode cX8_like 35 = .ok (.invokevirtual 152, 3) := tb_d tk_X8_like_1 20 (35, .invokevirtual 152, 3) rfl
theorem dX8_like_38 : decode cX8_like 38 = .ok (.goto 9, 3) := tb_d tk_X8_like_1 21 (38, .goto 9, 3) rfl
theorem dX8_like_41 : decode cX8_like 41 = .ok (.aload_n 0, 1) := tb_d tk_X8_like_1 22 (41, .aload_n 0, 1) rfl
theorem dX8_like_42 : decode cX8_like 42 = .ok (.iload_n 1, 1) := tb_d tk_X8_like_1 23 (42, .iload_n 1, 1) rfl
theorem dX8_like_43 : decode cX8_like 43 = .ok (.iload_n 2, 1) := tb_d tk_X8_like_1 24 (43, .iload_n 2, 1) rfl
theorem dX8_like_44 : decode cX8_like 44 = .ok (.invokevirtual 155, 3) := tb_d tk_X8_like_1 25 (44, .invokevirtual 155, 3) rfl
theorem dX8_like_47 : decode cX8_like 47 = .ok (.ireturn, 1) := tb_d tk_X8_like_1 26 (47, .ireturn, 1) rfl
theorem ggX8_hoursOf_X8_guardOn : GoodIn wsX8_hoursOf wsX8_guardOn := fun w h => ⟨List.mem_cons_of_mem _ (List.mem_append_right _ (List.mem_append_right _ (List.mem_append_right _ (List.mem_append_left _ h)))), good_of_word (gdX8_guardOn w h)⟩
set_option maxRecDepth 20000 in
theorem gX8_hoursOf_X8_guardOn : GoodIn wsX8_hoursOf (wsV RX8 158 RX8 yX8_guardOn wsX8_guardOn) := goodIn_app (a := bkV RX8 158 RX8 yX8_guardOn) (fun w h => ⟨List.mem_cons_of_mem _ (List.mem_append_right _ (List.mem_append_left _ h)), good_of_word (gd_bV _ _ _ _ w h)⟩) ggX8_hoursOf_X8_guardOn
def tb_X8_hoursOf_1 : List (Nat × Instr × Nat) := [(0, .iconst 0, 1), (1, .istore_n 2, 1), (2, .iconst 0, 1), (3, .istore_n 3, 1), (4, .iload_n 3, 1), (5, .bipush 6, 2), (7, .if_icmp .ge 34, 3), (10, .iload_n 2, 1), (11, .aload_n 0, 1), (12, .iload_n 3, 1), (13, .aload_n 0, 1), (14, .getfield 25, 3), (17, .iconst 5, 1), (18, .iaload, 1), (19, .invokevirtual 158, 3), (22, .iload_n 1, 1), (23, .if_icmp .ne 9, 3), (26, .iconst 1, 1), (27, .iload_n 3, 1), (28, .ishl, 1), (29, .goto 4, 3), (32, .iconst 0, 1), (33, .ior, 1), (34, .istore_n 2, 1), (35, .iinc 3 1, 3), (38, .goto (-34), 3), (41, .iload_n 2, 1), (42, .ireturn, 1)]
set_option maxRecDepth 100000 in
theorem tk_X8_hoursOf_1 : (tb_X8_hoursOf_1.all fun q => decide (decode cX8_hoursOf q.1 = .ok q.2)) = true := by decide +kernel
theorem dX8_hoursOf_0 : decode cX8_hoursOf 0 = .ok (.iconst 0, 1) := tb_d tk_X8_hoursOf_1 0 (0, .iconst 0, 1) rfl
theorem dX8_hoursOf_1 : decode cX8_hoursOf 1 = .ok (.istore_n 2, 1) := tb_d tk_X8_hoursOf_1 1 (1, .istore_n 2, 1) rfl
theorem dX8_hoursOf_2 : decode cX8_hoursOf 2 = .ok (.iconst 0, 1) := tb_d tk_X8_hoursOf_1 2 (2, .iconst 0, 1) rfl
theorem dX8_hoursOf_3 : decode cX8_hoursOf 3 = .ok (.istore_n 3, 1) := tb_d tk_X8_hoursOf_1 3 (3, .istore_n 3, 1) rfl
theorem dX8_hoursOf_4 : decode cX8_hoursOf 4 = .ok (.iload_n 3, 1) := tb_d tk_X8_hoursOf_1 4 (4, .iload_n 3, 1) rfl
theorem dX8_hoursOf_5 : decode cX8_hoursOf 5 = .ok (.bipush 6, 2) := tb_d tk_X8_hoursOf_1 5 (5, .bipush 6, 2) rfl
theorem dX8_hoursOf_7 : decode cX8_hoursOf 7 = .ok (.if_icmp .ge 34, 3) := tb_d tk_X8_hoursOf_1 6 (7, .if_icmp .ge 34, 3) rfl
theorem dX8_hoursOf_10 : decode cX8_hoursOf 10 = .ok (.iload_n 2, 1) := tb_d tk_X8_hoursOf_1 7 (10, .iload_n 2, 1) rfl
theorem dX8_hoursOf_11 : decode cX8_hoursOf 11 = .ok (.aload_n 0, 1) := tb_d tk_X8_hoursOf_1 8 (11, .aload_n 0, 1) rfl
theorem dX8_hoursOf_12 : decode cX8_hoursOf 12 = .ok (.iload_n 3, 1) := tb_d tk_X8_hoursOf_1 9 (12, .iload_n 3, 1) rfl
theorem dX8_hoursOf_13 : decode cX8_hoursOf 13 = .ok (.aload_n 0, 1) := tb_d tk_X8_hoursOf_1 10 (13, .aload_n 0, 1) rfl
theorem dX8_hoursOf_14 : decode cX8_hoursOf 14 = .ok (.getfield 25, 3) := tb_d tk_X8_hoursOf_1 11 (14, .getfield 25, 3) rfl
theorem dX8_hoursOf_17 : decode cX8_hoursOf 17 = .ok (.iconst 5, 1) := tb_d tk_X8_hoursOf_1 12 (17, .iconst 5, 1) rfl
theorem dX8_hoursOf_18 : decode cX8_hoursOf 18 = .ok (.iaload, 1) := tb_d tk_X8_hoursOf_1 13 (18, .iaload, 1) rfl
theorem dX8_hoursOf_19 : decode cX8_hoursOf 19 = .ok (.invokevirtual 158, 3) := tb_d tk_X8_hoursOf_1 14 (19, .invokevirtual 158, 3) rfl
theorem dX8_hoursOf_22 : decode cX8_hoursOf 22 = .ok (.iload_n 1, 1) := tb_d tk_X8_hoursOf_1 15 (22, .iload_n 1, 1) rfl
theorem dX8_hoursOf_23 : decode cX8_hoursOf 23 = .ok (.if_icmp .ne 9, 3) := tb_d tk_X8_hoursOf_1 16 (23, .if_icmp .ne 9, 3) rfl
theorem dX8_hoursOf_26 : decode cX8_hoursOf 26 = .ok (.iconst 1, 1) := tb_d tk_X8_hoursOf_1 17 (26, .iconst 1, 1) rfl
theorem dX8_hoursOf_27 : decode cX8_hoursOf 27 = .ok (.iload_n 3, 1) := tb_d tk_X8_hoursOf_1 18 (27, .iload_n 3, 1) rfl
theorem dX8_hoursOf_28 : decode cX8_hoursOf 28 = .ok (.ishl, 1) := tb_d tk_X8_hoursOf_1 19 (28, .ishl, 1) rfl
theorem dX8_hoursOf_29 : decode cX8_hoursOf 29 = .ok (.goto 4, 3) := tb_d tk_X8_hoursOf_1 20 (29, .goto 4, 3) rfl
theorem dX8_hoursOf_32 : decode cX8_hoursOf 32 = .ok (.iconst 0, 1) := tb_d tk_X8_hoursOf_1 21 (32, .iconst 0, 1) rfl
theorem dX8_hoursOf_33 : decode cX8_hoursOf 33 = .ok (.ior, 1) := tb_d tk_X8_hoursOf_1 22 (33, .ior, 1) rfl
theorem dX8_hoursOf_34 : decode cX8_hoursOf 34 = .ok (.istore_n 2, 1) := tb_d tk_X8_hoursOf_1 23 (34, .istore_n 2, 1) rfl
theorem dX8_hoursOf_35 : decode cX8_hoursOf 35 = .ok (.iinc 3 1, 3) := tb_d tk_X8_hoursOf_1 24 (35, .iinc 3 1, 3) rfl
theorem dX8_hoursOf_38 : decode cX8_hoursOf 38 = .ok (.goto (-34), 3) := tb_d tk_X8_hoursOf_1 25 (38, .goto (-34), 3) rfl
theorem dX8_hoursOf_41 : decode cX8_hoursOf 41 = .ok (.iload_n 2, 1) := tb_d tk_X8_hoursOf_1 26 (41, .iload_n 2, 1) rfl
theorem dX8_hoursOf_42 : decode cX8_hoursOf 42 = .ok (.ireturn, 1) := tb_d tk_X8_hoursOf_1 27 (42, .ireturn, 1) rfl
theorem ggX8_guard_X8_isGuard : GoodIn wsX8_guard wsX8_isGuard := fun w h => ⟨List.mem_cons_of_mem _ (List.mem_append_right _ (List.mem_append_right _ (List.mem_append_right _ (List.mem_append_right _ (List.mem_append_left _ h))))), good_of_word (gdX8_isGuard w h)⟩
set_option maxRecDepth 20000 in
theorem gX8_guard_X8_isGuard : GoodIn wsX8_guard (wsV RX8 199 RX8 yX8_isGuard wsX8_isGuard) := goodIn_app (a := bkV RX8 199 RX8 yX8_isGuard) (fun w h => ⟨List.mem_cons_of_mem _ (List.mem_append_right _ (List.mem_append_left _ h)), good_of_word (gd_bV _ _ _ _ w h)⟩) ggX8_guard_X8_isGuard
theorem ggX8_guard_X8_hoursOf : GoodIn wsX8_guard wsX8_hoursOf := fun w h => ⟨List.mem_cons_of_mem _ (List.mem_append_right _ (List.mem_append_right _ (List.mem_append_right _ (List.mem_append_right _ (List.mem_append_right _ (List.mem_append_left _ h)))))), good_of_word (gdX8_hoursOf w h)⟩
set_option maxRecDepth 20000 in
theorem gX8_guard_X8_hoursOf : GoodIn wsX8_guard (wsV RX8 202 RX8 yX8_hoursOf wsX8_hoursOf) := goodIn_app (a := bkV RX8 202 RX8 yX8_hoursOf) (fun w h => ⟨List.mem_cons_of_mem _ (List.mem_append_right _ (List.mem_append_right _ (List.mem_append_left _ h))), good_of_word (gd_bV _ _ _ _ w h)⟩) ggX8_guard_X8_hoursOf
def tb_X8_guard_1 : List (Nat × Instr × Nat) := [(0, .aload_n 0, 1), (1, .iload_n 1, 1), (2, .invokevirtual 199, 3), (5, .ifCond .ne 6, 3), (8, .ldc 64, 2), (10, .ireturn, 1), (11, .iload_n 2, 1), (12, .tableswitch 78 0 3 #[32, 46, 60, 72], 32), (44, .aload_n 0, 1), (45, .getfield 25, 3), (48, .bipush 26, 2), (50, .iconst 3, 1), (51, .iload_n 1, 1), (52, .imul, 1), (53, .iadd, 1), (54, .iconst 1, 1), (55, .iadd, 1), (56, .iaload, 1), (57, .ireturn, 1), (58, .aload_n 0, 1), (59, .getfield 25, 3), (62, .bipush 26, 2), (64, .iconst 3, 1), (65, .iload_n 1, 1), (66, .imul, 1), (67, .iadd, 1), (68, .iconst 2, 1), (69, .iadd, 1), (70, .iaload, 1), (71, .ireturn, 1), (72, .aload_n 0, 1), (73, .getfield 25, 3), (76, .bipush 6, 2), (78, .iaload, 1), (79, .iload_n 1, 1), (80, .ishr, 1), (81, .iconst 1, 1), (82, .iand, 1), (83, .ireturn, 1), (84, .aload_n 0, 1)]
set_option maxRecDepth 100000 in
theorem tk_X8_guard_1 : (tb_X8_guard_1.all fun q => decide (decode cX8_guard q.1 = .ok q.2)) = true := by decide +kernel
theorem dX8_guard_0 : decode cX8_guard 0 = .ok (.aload_n 0, 1) := tb_d tk_X8_guard_1 0 (0, .aload_n 0, 1) rfl
theorem dX8_guard_1 : decode cX8_guard 1 = .ok (.iload_n 1, 1) := tb_d tk_X8_guard_1 1 (1, .iload_n 1, 1) rfl
theorem dX8_guard_2 : decode cX8_guard 2 = .ok (.invokevirtual 199, 3) := tb_d tk_X8_guard_1 2 (2, .invokevirtual 199, 3) rfl
theorem dX8_guard_5 : decode cX8_guard 5 = .ok (.ifCond .ne 6, 3) := tb_d tk_X8_guard_1 3 (5, .ifCond .ne 6, 3) rfl
theorem dX8_guard_8 : decode cX8_guard 8 = .ok (.ldc 64, 2) := tb_d tk_X8_guard_1 4 (8, .ldc 64, 2) rfl
theorem dX8_guard_10 : decode cX8_guard 10 = .ok (.ireturn, 1) := tb_d tk_X8_guard_1 5 (10, .ireturn, 1) rfl
theorem dX8_guard_11 : decode cX8_guard 11 = .ok (.iload_n 2, 1) := tb_d tk_X8_guard_1 6 (11, .iload_n 2, 1) rfl
theorem dX8_guard_12 : decode cX8_guard 12 = .ok (.tableswitch 78 0 3 #[32, 46, 60, 72], 32) := tb_d tk_X8_guard_1 7 (12, .tableswitch 78 0 3 #[32, 46, 60, 72], 32) rfl
theorem dX8_guard_44 : decode cX8_guard 44 = .ok (.aload_n 0, 1) := tb_d tk_X8_guard_1 8 (44, .aload_n 0, 1) rfl
theorem dX8_guard_45 : decode cX8_guard 45 = .ok (.getfield 25, 3) := tb_d tk_X8_guard_1 9 (45, .getfield 25, 3) rfl
theorem dX8_guard_48 : decode cX8_guard 48 = .ok (.bipush 26, 2) := tb_d tk_X8_guard_1 10 (48, .bipush 26, 2) rfl
theorem dX8_guard_50 : decode cX8_guard 50 = .ok (.iconst 3, 1) := tb_d tk_X8_guard_1 11 (50, .iconst 3, 1) rfl
theorem dX8_guard_51 : decode cX8_guard 51 = .ok (.iload_n 1, 1) := tb_d tk_X8_guard_1 12 (51, .iload_n 1, 1) rfl
theorem dX8_guard_52 : decode cX8_guard 52 = .ok (.imul, 1) := tb_d tk_X8_guard_1 13 (52, .imul, 1) rfl
theorem dX8_guard_53 : decode cX8_guard 53 = .ok (.iadd, 1) := tb_d tk_X8_guard_1 14 (53, .iadd, 1) rfl
theorem dX8_guard_54 : decode cX8_guard 54 = .ok (.iconst 1, 1) := tb_d tk_X8_guard_1 15 (54, .iconst 1, 1) rfl
theorem dX8_guard_55 : decode cX8_guard 55 = .ok (.iadd, 1) := tb_d tk_X8_guard_1 16 (55, .iadd, 1) rfl
theorem dX8_guard_56 : decode cX8_guard 56 = .ok (.iaload, 1) := tb_d tk_X8_guard_1 17 (56, .iaload, 1) rfl
theorem dX8_guard_57 : decode cX8_guard 57 = .ok (.ireturn, 1) := tb_d tk_X8_guard_1 18 (57, .ireturn, 1) rfl
theorem dX8_guard_58 : decode cX8_guard 58 = .ok (.aload_n 0, 1) := tb_d tk_X8_guard_1 19 (58, .aload_n 0, 1) rfl
theorem dX8_guard_59 : decode cX8_guard 59 = .ok (.getfield 25, 3) := tb_d tk_X8_guard_1 20 (59, .getfield 25, 3) rfl
theorem dX8_guard_62 : decode cX8_guard 62 = .ok (.bipush 26, 2) := tb_d tk_X8_guard_1 21 (62, .bipush 26, 2) rfl
theorem dX8_guard_64 : decode cX8_guard 64 = .ok (.iconst 3, 1) := tb_d tk_X8_guard_1 22 (64, .iconst 3, 1) rfl
theorem dX8_guard_65 : decode cX8_guard 65 = .ok (.iload_n 1, 1) := tb_d tk_X8_guard_1 23 (65, .iload_n 1, 1) rfl
theorem dX8_guard_66 : decode cX8_guard 66 = .ok (.imul, 1) := tb_d tk_X8_guard_1 24 (66, .imul, 1) rfl
theorem dX8_guard_67 : decode cX8_guard 67 = .ok (.iadd, 1) := tb_d tk_X8_guard_1 25 (67, .iadd, 1) rfl
theorem dX8_guard_68 : decode cX8_guard 68 = .ok (.iconst 2, 1) := tb_d tk_X8_guard_1 26 (68, .iconst 2, 1) rfl
theorem dX8_guard_69 : decode cX8_guard 69 = .ok (.iadd, 1) := tb_d tk_X8_guard_1 27 (69, .iadd, 1) rfl
theorem dX8_guard_70 : decode cX8_guard 70 = .ok (.iaload, 1) := tb_d tk_X8_guard_1 28 (70, .iaload, 1) rfl
theorem dX8_guard_71 : decode cX8_guard 71 = .ok (.ireturn, 1) := tb_d tk_X8_guard_1 29 (71, .ireturn, 1) rfl
theorem dX8_guard_72 : decode cX8_guard 72 = .ok (.aload_n 0, 1) := tb_d tk_X8_guard_1 30 (72, .aload_n 0, 1) rfl
theorem dX8_guard_73 : decode cX8_guard 73 = .ok (.getfield 25, 3) := tb_d tk_X8_guard_1 31 (73, .getfield 25, 3) rfl
theorem dX8_guard_76 : decode cX8_guard 76 = .ok (.bipush 6, 2) := tb_d tk_X8_guard_1 32 (76, .bipush 6, 2) rfl
theorem dX8_guard_78 : decode cX8_guard 78 = .ok (.iaload, 1) := tb_d tk_X8_guard_1 33 (78, .iaload, 1) rfl
theorem dX8_guard_79 : decode cX8_guard 79 = .ok (.iload_n 1, 1) := tb_d tk_X8_guard_1 34 (79, .iload_n 1, 1) rfl
theorem dX8_guard_80 : decode cX8_guard 80 = .ok (.ishr, 1) := tb_d tk_X8_guard_1 35 (80, .ishr, 1) rfl
theorem dX8_guard_81 : decode cX8_guard 81 = .ok (.iconst 1, 1) := tb_d tk_X8_guard_1 36 (81, .iconst 1, 1) rfl
theorem dX8_guard_82 : decode cX8_guard 82 = .ok (.iand, 1) := tb_d tk_X8_guard_1 37 (82, .iand, 1) rfl
theorem dX8_guard_83 : decode cX8_guard 83 = .ok (.ireturn, 1) := tb_d tk_X8_guard_1 38 (83, .ireturn, 1) rfl
theorem dX8_guard_84 : decode cX8_guard 84 = .ok (.aload_n 0, 1) := tb_d tk_X8_guard_1 39 (84, .aload_n 0, 1) rfl
def tb_X8_guard_2 : List (Nat × Instr × Nat) := [(85, .iload_n 1, 1), (86, .invokevirtual 202, 3), (89, .ireturn, 1), (90, .ldc 64, 2), (92, .ireturn, 1)]
set_option maxRecDepth 100000 in
theorem tk_X8_guard_2 : (tb_X8_guard_2.all fun q => decide (decode cX8_guard q.1 = .ok q.2)) = true := by decide +kernel
theorem dX8_guard_85 : decode cX8_guard 85 = .ok (.iload_n 1, 1) := tb_d tk_X8_guard_2 0 (85, .iload_n 1, 1) rfl
theorem dX8_guard_86 : decode cX8_guard 86 = .ok (.invokevirtual 202, 3) := tb_d tk_X8_guard_2 1 (86, .invokevirtual 202, 3) rfl
theorem dX8_guard_89 : decode cX8_guard 89 = .ok (.ireturn, 1) := tb_d tk_X8_guard_2 2 (89, .ireturn, 1) rfl
theorem dX8_guard_90 : decode cX8_guard 90 = .ok (.ldc 64, 2) := tb_d tk_X8_guard_2 3 (90, .ldc 64, 2) rfl
theorem dX8_guard_92 : decode cX8_guard 92 = .ok (.ireturn, 1) := tb_d tk_X8_guard_2 4 (92, .ireturn, 1) rfl
theorem ggX8_tried_X8_in : GoodIn wsX8_tried wsX8_in := fun w h => ⟨List.mem_cons_of_mem _ (List.mem_append_right _ (List.mem_append_right _ (List.mem_append_right _ (List.mem_append_left _ h)))), good_of_word (gdX8_in w h)⟩
set_option maxRecDepth 20000 in
theorem gX8_tried_X8_in : GoodIn wsX8_tried (va_wsS RX8 56 yX8_in wsX8_in) := goodIn_app (a := bkS RX8 56 yX8_in) (fun w h => ⟨List.mem_cons_of_mem _ (List.mem_append_right _ (List.mem_append_left _ h)), good_of_word (gd_bS _ _ _ w h)⟩) ggX8_tried_X8_in
def tb_X8_tried_1 : List (Nat × Instr × Nat) := [(0, .iload_n 1, 1), (1, .iconst 0, 1), (2, .aload_n 0, 1), (3, .getfield 25, 3), (6, .bipush 7, 2), (8, .iaload, 1), (9, .iconst 1, 1), (10, .isub, 1), (11, .invokestatic 56, 3), (14, .ifCond .eq 12, 3), (17, .iload_n 2, 1), (18, .iconst 0, 1), (19, .iconst 2, 1), (20, .invokestatic 56, 3), (23, .ifCond .ne 6, 3), (26, .ldc 64, 2), (28, .ireturn, 1), (29, .aload_n 0, 1), (30, .getfield 25, 3), (33, .bipush 38, 2), (35, .iconst 3, 1), (36, .iload_n 1, 1), (37, .imul, 1), (38, .iadd, 1), (39, .iload_n 2, 1), (40, .iadd, 1), (41, .iaload, 1), (42, .istore_n 3, 1), (43, .iload_n 2, 1), (44, .iconst 1, 1), (45, .if_icmp .eq 7, 3), (48, .iload_n 3, 1), (49, .goto 15, 3), (52, .iload_n 3, 1), (53, .ifCond .ne 8, 3), (56, .ldc 50, 2), (58, .goto 6, 3), (61, .iload_n 3, 1), (62, .iconst 1, 1), (63, .isub, 1)]
set_option maxRecDepth 100000 in
theorem tk_X8_tried_1 : (tb_X8_tried_1.all fun q => decide (decode cX8_tried q.1 = .ok q.2)) = true := by decide +kernel
theorem dX8_tried_0 : decode cX8_tried 0 = .ok (.iload_n 1, 1) := tb_d tk_X8_tried_1 0 (0, .iload_n 1, 1) rfl
theorem dX8_tried_1 : decode cX8_tried 1 = .ok (.iconst 0, 1) := tb_d tk_X8_tried_1 1 (1, .iconst 0, 1) rfl
theorem dX8_tried_2 : decode cX8_tried 2 = .ok (.aload_n 0, 1) := tb_d tk_X8_tried_1 2 (2, .aload_n 0, 1) rfl
theorem dX8_tried_3 : decode cX8_tried 3 = .ok (.getfield 25, 3) := tb_d tk_X8_tried_1 3 (3, .getfield 25, 3) rfl
theorem dX8_tried_6 : decode cX8_tried 6 = .ok (.bipush 7, 2) := tb_d tk_X8_tried_1 4 (6, .bipush 7, 2) rfl
theorem dX8_tried_8 : decode cX8_tried 8 = .ok (.iaload, 1) := tb_d tk_X8_tried_1 5 (8, .iaload, 1) rfl
theorem dX8_tried_9 : decode cX8_tried 9 = .ok (.iconst 1, 1) := tb_d tk_X8_tried_1 6 (9, .iconst 1, 1) rfl
theorem dX8_tried_10 : decode cX8_tried 10 = .ok (.isub, 1) := tb_d tk_X8_tried_1 7 (10, .isub, 1) rfl
theorem dX8_tried_11 : decode cX8_tried 11 = .ok (.invokestatic 56, 3) := tb_d tk_X8_tried_1 8 (11, .invokestatic 56, 3) rfl
theorem dX8_tried_14 : decode cX8_tried 14 = .ok (.ifCond .eq 12, 3) := tb_d tk_X8_tried_1 9 (14, .ifCond .eq 12, 3) rfl
theorem dX8_tried_17 : decode cX8_tried 17 = .ok (.iload_n 2, 1) := tb_d tk_X8_tried_1 10 (17, .iload_n 2, 1) rfl
theorem dX8_tried_18 : decode cX8_tried 18 = .ok (.iconst 0, 1) := tb_d tk_X8_tried_1 11 (18, .iconst 0, 1) rfl
theorem dX8_tried_19 : decode cX8_tried 19 = .ok (.iconst 2, 1) := tb_d tk_X8_tried_1 12 (19, .iconst 2, 1) rfl
theorem dX8_tried_20 : decode cX8_tried 20 = .ok (.invokestatic 56, 3) := tb_d tk_X8_tried_1 13 (20, .invokestatic 56, 3) rfl
theorem dX8_tried_23 : decode cX8_tried 23 = .ok (.ifCond .ne 6, 3) := tb_d tk_X8_tried_1 14 (23, .ifCond .ne 6, 3) rfl
theorem dX8_tried_26 : decode cX8_tried 26 = .ok (.ldc 64, 2) := tb_d tk_X8_tried_1 15 (26, .ldc 64, 2) rfl
theorem dX8_tried_28 : decode cX8_tried 28 = .ok (.ireturn, 1) := tb_d tk_X8_tried_1 16 (28, .ireturn, 1) rfl
theorem dX8_tried_29 : decode cX8_tried 29 = .ok (.aload_n 0, 1) := tb_d tk_X8_tried_1 17 (29, .aload_n 0, 1) rfl
theorem dX8_tried_30 : decode cX8_tried 30 = .ok (.getfield 25, 3) := tb_d tk_X8_tried_1 18 (30, .getfield 25, 3) rfl
theorem dX8_tried_33 : decode cX8_tried 33 = .ok (.bipush 38, 2) := tb_d tk_X8_tried_1 19 (33, .bipush 38, 2) rfl
theorem dX8_tried_35 : decode cX8_tried 35 = .ok (.iconst 3, 1) := tb_d tk_X8_tried_1 20 (35, .iconst 3, 1) rfl
theorem dX8_tried_36 : decode cX8_tried 36 = .ok (.iload_n 1, 1) := tb_d tk_X8_tried_1 21 (36, .iload_n 1, 1) rfl
theorem dX8_tried_37 : decode cX8_tried 37 = .ok (.imul, 1) := tb_d tk_X8_tried_1 22 (37, .imul, 1) rfl
theorem dX8_tried_38 : decode cX8_tried 38 = .ok (.iadd, 1) := tb_d tk_X8_tried_1 23 (38, .iadd, 1) rfl
theorem dX8_tried_39 : decode cX8_tried 39 = .ok (.iload_n 2, 1) := tb_d tk_X8_tried_1 24 (39, .iload_n 2, 1) rfl
theorem dX8_tried_40 : decode cX8_tried 40 = .ok (.iadd, 1) := tb_d tk_X8_tried_1 25 (40, .iadd, 1) rfl
theorem dX8_tried_41 : decode cX8_tried 41 = .ok (.iaload, 1) := tb_d tk_X8_tried_1 26 (41, .iaload, 1) rfl
theorem dX8_tried_42 : decode cX8_tried 42 = .ok (.istore_n 3, 1) := tb_d tk_X8_tried_1 27 (42, .istore_n 3, 1) rfl
theorem dX8_tried_43 : decode cX8_tried 43 = .ok (.iload_n 2, 1) := tb_d tk_X8_tried_1 28 (43, .iload_n 2, 1) rfl
theorem dX8_tried_44 : decode cX8_tried 44 = .ok (.iconst 1, 1) := tb_d tk_X8_tried_1 29 (44, .iconst 1, 1) rfl
theorem dX8_tried_45 : decode cX8_tried 45 = .ok (.if_icmp .eq 7, 3) := tb_d tk_X8_tried_1 30 (45, .if_icmp .eq 7, 3) rfl
theorem dX8_tried_48 : decode cX8_tried 48 = .ok (.iload_n 3, 1) := tb_d tk_X8_tried_1 31 (48, .iload_n 3, 1) rfl
theorem dX8_tried_49 : decode cX8_tried 49 = .ok (.goto 15, 3) := tb_d tk_X8_tried_1 32 (49, .goto 15, 3) rfl
theorem dX8_tried_52 : decode cX8_tried 52 = .ok (.iload_n 3, 1) := tb_d tk_X8_tried_1 33 (52, .iload_n 3, 1) rfl
theorem dX8_tried_53 : decode cX8_tried 53 = .ok (.ifCond .ne 8, 3) := tb_d tk_X8_tried_1 34 (53, .ifCond .ne 8, 3) rfl
theorem dX8_tried_56 : decode cX8_tried 56 = .ok (.ldc 50, 2) := tb_d tk_X8_tried_1 35 (56, .ldc 50, 2) rfl
theorem dX8_tried_58 : decode cX8_tried 58 = .ok (.goto 6, 3) := tb_d tk_X8_tried_1 36 (58, .goto 6, 3) rfl
theorem dX8_tried_61 : decode cX8_tried 61 = .ok (.iload_n 3, 1) := tb_d tk_X8_tried_1 37 (61, .iload_n 3, 1) rfl
theorem dX8_tried_62 : decode cX8_tried 62 = .ok (.iconst 1, 1) := tb_d tk_X8_tried_1 38 (62, .iconst 1, 1) rfl
theorem dX8_tried_63 : decode cX8_tried 63 = .ok (.isub, 1) := tb_d tk_X8_tried_1 39 (63, .isub, 1) rfl
def tb_X8_tried_2 : List (Nat × Instr × Nat) := [(64, .ireturn, 1)]
set_option maxRecDepth 100000 in
theorem tk_X8_tried_2 : (tb_X8_tried_2.all fun q => decide (decode cX8_tried q.1 = .ok q.2)) = true := by decide +kernel
theorem dX8_tried_64 : decode cX8_tried 64 = .ok (.ireturn, 1) := tb_d tk_X8_tried_2 0 (64, .ireturn, 1) rfl
theorem ggX8_secret_X8_isGate : GoodIn wsX8_secret wsX8_isGate := fun w h => ⟨List.mem_cons_of_mem _ (List.mem_append_right _ (List.mem_append_right _ (List.mem_append_right _ (List.mem_append_right _ (List.mem_append_right _ (List.mem_append_left _ h)))))), good_of_word (gdX8_isGate w h)⟩
set_option maxRecDepth 20000 in
theorem gX8_secret_X8_isGate : GoodIn wsX8_secret (wsV RX8 180 RX8 yX8_isGate wsX8_isGate) := goodIn_app (a := bkV RX8 180 RX8 yX8_isGate) (fun w h => ⟨List.mem_cons_of_mem _ (List.mem_append_right _ (List.mem_append_left _ h)), good_of_word (gd_bV _ _ _ _ w h)⟩) ggX8_secret_X8_isGate
theorem ggX8_secret_X8_isFar : GoodIn wsX8_secret wsX8_isFar := fun w h => ⟨List.mem_cons_of_mem _ (List.mem_append_right _ (List.mem_append_right _ (List.mem_append_right _ (List.mem_append_right _ (List.mem_append_right _ (List.mem_append_right _ (List.mem_append_left _ h))))))), good_of_word (gdX8_isFar w h)⟩
set_option maxRecDepth 20000 in
theorem gX8_secret_X8_isFar : GoodIn wsX8_secret (va_wsS RX8 205 yX8_isFar wsX8_isFar) := goodIn_app (a := bkS RX8 205 yX8_isFar) (fun w h => ⟨List.mem_cons_of_mem _ (List.mem_append_right _ (List.mem_append_right _ (List.mem_append_left _ h))), good_of_word (gd_bS _ _ _ w h)⟩) ggX8_secret_X8_isFar
theorem ggX8_secret_X8_secretOf : GoodIn wsX8_secret wsX8_secretOf := fun w h => ⟨List.mem_cons_of_mem _ (List.mem_append_right _ (List.mem_append_right _ (List.mem_append_right _ (List.mem_append_right _ (List.mem_append_right _ (List.mem_append_right _ (List.mem_append_right _ (List.mem_append_left _ h)))))))), good_of_word (gdX8_secretOf w h)⟩
set_option maxRecDepth 20000 in
theorem gX8_secret_X8_secretOf : GoodIn wsX8_secret (va_wsS RX8 172 yX8_secretOf wsX8_secretOf) := goodIn_app (a := bkS RX8 172 yX8_secretOf) (fun w h => ⟨List.mem_cons_of_mem _ (List.mem_append_right _ (List.mem_append_right _ (List.mem_append_right _ (List.mem_append_left _ h)))), good_of_word (gd_bS _ _ _ w h)⟩) ggX8_secret_X8_secretOf
def tb_X8_secret_1 : List (Nat × Instr × Nat) := [(0, .aload_n 0, 1), (1, .invokevirtual 180, 3), (4, .ifCond .ne 6, 3), (7, .ldc 183, 2), (9, .ireturn, 1), (10, .iload_n 1, 1), (11, .invokestatic 205, 3), (14, .ifCond .eq 21, 3), (17, .aload_n 0, 1), (18, .getfield 25, 3), (21, .aload_n 0, 1), (22, .getfield 25, 3), (25, .iconst 5, 1), (26, .iaload, 1), (27, .iload_n 1, 1), (28, .iadd, 1), (29, .invokestatic 172, 3), (32, .goto 5, 3), (35, .ldc 64, 2), (37, .ireturn, 1)]
set_option maxRecDepth 100000 in
theorem tk_X8_secret_1 : (tb_X8_secret_1.all fun q => decide (decode cX8_secret q.1 = .ok q.2)) = true := by decide +kernel
theorem dX8_secret_0 : decode cX8_secret 0 = .ok (.aload_n 0, 1) := tb_d tk_X8_secret_1 0 (0, .aload_n 0, 1) rfl
theorem dX8_secret_1 : decode cX8_secret 1 = .ok (.invokevirtual 180, 3) := tb_d tk_X8_secret_1 1 (1, .invokevirtual 180, 3) rfl
theorem dX8_secret_4 : decode cX8_secret 4 = .ok (.ifCond .ne 6, 3) := tb_d tk_X8_secret_1 2 (4, .ifCond .ne 6, 3) rfl
theorem dX8_secret_7 : decode cX8_secret 7 = .ok (.ldc 183, 2) := tb_d tk_X8_secret_1 3 (7, .ldc 183, 2) rfl
theorem dX8_secret_9 : decode cX8_secret 9 = .ok (.ireturn, 1) := tb_d tk_X8_secret_1 4 (9, .ireturn, 1) rfl
theorem dX8_secret_10 : decode cX8_secret 10 = .ok (.iload_n 1, 1) := tb_d tk_X8_secret_1 5 (10, .iload_n 1, 1) rfl
theorem dX8_secret_11 : decode cX8_secret 11 = .ok (.invokestatic 205, 3) := tb_d tk_X8_secret_1 6 (11, .invokestatic 205, 3) rfl
theorem dX8_secret_14 : decode cX8_secret 14 = .ok (.ifCond .eq 21, 3) := tb_d tk_X8_secret_1 7 (14, .ifCond .eq 21, 3) rfl
theorem dX8_secret_17 : decode cX8_secret 17 = .ok (.aload_n 0, 1) := tb_d tk_X8_secret_1 8 (17, .aload_n 0, 1) rfl
theorem dX8_secret_18 : decode cX8_secret 18 = .ok (.getfield 25, 3) := tb_d tk_X8_secret_1 9 (18, .getfield 25, 3) rfl
theorem dX8_secret_21 : decode cX8_secret 21 = .ok (.aload_n 0, 1) := tb_d tk_X8_secret_1 10 (21, .aload_n 0, 1) rfl
theorem dX8_secret_22 : decode cX8_secret 22 = .ok (.getfield 25, 3) := tb_d tk_X8_secret_1 11 (22, .getfield 25, 3) rfl
theorem dX8_secret_25 : decode cX8_secret 25 = .ok (.iconst 5, 1) := tb_d tk_X8_secret_1 12 (25, .iconst 5, 1) rfl
theorem dX8_secret_26 : decode cX8_secret 26 = .ok (.iaload, 1) := tb_d tk_X8_secret_1 13 (26, .iaload, 1) rfl
theorem dX8_secret_27 : decode cX8_secret 27 = .ok (.iload_n 1, 1) := tb_d tk_X8_secret_1 14 (27, .iload_n 1, 1) rfl
theorem dX8_secret_28 : decode cX8_secret 28 = .ok (.iadd, 1) := tb_d tk_X8_secret_1 15 (28, .iadd, 1) rfl
theorem dX8_secret_29 : decode cX8_secret 29 = .ok (.invokestatic 172, 3) := tb_d tk_X8_secret_1 16 (29, .invokestatic 172, 3) rfl
theorem dX8_secret_32 : decode cX8_secret 32 = .ok (.goto 5, 3) := tb_d tk_X8_secret_1 17 (32, .goto 5, 3) rfl
theorem dX8_secret_35 : decode cX8_secret 35 = .ok (.ldc 64, 2) := tb_d tk_X8_secret_1 18 (35, .ldc 64, 2) rfl
theorem dX8_secret_37 : decode cX8_secret 37 = .ok (.ireturn, 1) := tb_d tk_X8_secret_1 19 (37, .ireturn, 1) rfl
theorem ggX8_taken_X8_isWord : GoodIn wsX8_taken wsX8_isWord := fun w h => ⟨List.mem_cons_of_mem _ (List.mem_append_right _ (List.mem_append_right _ (List.mem_append_right _ (List.mem_append_right _ (List.mem_append_right _ (List.mem_append_right _ (List.mem_append_left _ h))))))), good_of_word (gdX8_isWord w h)⟩
set_option maxRecDepth 20000 in
theorem gX8_taken_X8_isWord : GoodIn wsX8_taken (wsV RX8 190 RX8 yX8_isWord wsX8_isWord) := goodIn_app (a := bkV RX8 190 RX8 yX8_isWord) (fun w h => ⟨List.mem_cons_of_mem _ (List.mem_append_right _ (List.mem_append_left _ h)), good_of_word (gd_bV _ _ _ _ w h)⟩) ggX8_taken_X8_isWord
theorem ggX8_taken_X8_isHour : GoodIn wsX8_taken wsX8_isHour := fun w h => ⟨List.mem_cons_of_mem _ (List.mem_append_right _ (List.mem_append_right _ (List.mem_append_right _ (List.mem_append_right _ (List.mem_append_right _ (List.mem_append_right _ (List.mem_append_right _ (List.mem_append_left _ h)))))))), good_of_word (gdX8_isHour w h)⟩
set_option maxRecDepth 20000 in
theorem gX8_taken_X8_isHour : GoodIn wsX8_taken (va_wsS RX8 193 yX8_isHour wsX8_isHour) := goodIn_app (a := bkS RX8 193 yX8_isHour) (fun w h => ⟨List.mem_cons_of_mem _ (List.mem_append_right _ (List.mem_append_right _ (List.mem_append_left _ h))), good_of_word (gd_bS _ _ _ w h)⟩) ggX8_taken_X8_isHour
theorem ggX8_taken_X8_isFar : GoodIn wsX8_taken wsX8_isFar := fun w h => ⟨List.mem_cons_of_mem _ (List.mem_append_right _ (List.mem_append_right _ (List.mem_append_right _ (List.mem_append_right _ (List.mem_append_right _ (List.mem_append_right _ (List.mem_append_right _ (List.mem_append_right _ (List.mem_append_left _ h))))))))), good_of_word (gdX8_isFar w h)⟩
set_option maxRecDepth 20000 in
theorem gX8_taken_X8_isFar : GoodIn wsX8_taken (va_wsS RX8 205 yX8_isFar wsX8_isFar) := goodIn_app (a := bkS RX8 205 yX8_isFar) (fun w h => ⟨List.mem_cons_of_mem _ (List.mem_append_right _ (List.mem_append_right _ (List.mem_append_right _ (List.mem_append_left _ h)))), good_of_word (gd_bS _ _ _ w h)⟩) ggX8_taken_X8_isFar
theorem ggX8_taken_X8_isTakenNow : GoodIn wsX8_taken wsX8_isTakenNow := fun w h => ⟨List.mem_cons_of_mem _ (List.mem_append_right _ (List.mem_append_right _ (List.mem_append_right _ (List.mem_append_right _ (List.mem_append_right _ (List.mem_append_right _ (List.mem_append_right _ (List.mem_append_right _ (List.mem_append_right _ (List.mem_append_left _ h)))))))))), good_of_word (gdX8_isTakenNow w h)⟩
set_option maxRecDepth 20000 in
theorem gX8_taken_X8_isTakenNow : GoodIn wsX8_taken (wsV RX8 196 RX8 yX8_isTakenNow wsX8_isTakenNow) := goodIn_app (a := bkV RX8 196 RX8 yX8_isTakenNow) (fun w h => ⟨List.mem_cons_of_mem _ (List.mem_append_right _ (List.mem_append_right _ (List.mem_append_right _ (List.mem_append_right _ (List.mem_append_left _ h))))), good_of_word (gd_bV _ _ _ _ w h)⟩) ggX8_taken_X8_isTakenNow
def tb_X8_taken_1 : List (Nat × Instr × Nat) := [(0, .aload_n 0, 1), (1, .iload_n 1, 1), (2, .invokevirtual 190, 3), (5, .ifCond .eq 17, 3), (8, .iload_n 2, 1), (9, .invokestatic 193, 3), (12, .ifCond .eq 10, 3), (15, .iload_n 3, 1), (16, .invokestatic 205, 3), (19, .ifCond .ne 6, 3), (22, .ldc 64, 2), (24, .ireturn, 1), (25, .aload_n 0, 1), (26, .iload_n 1, 1), (27, .iload_n 2, 1), (28, .iload_n 3, 1), (29, .invokevirtual 196, 3), (32, .ifCond .eq 7, 3), (35, .iconst 1, 1), (36, .goto 4, 3), (39, .iconst 0, 1), (40, .ireturn, 1)]
set_option maxRecDepth 100000 in
theorem tk_X8_taken_1 : (tb_X8_taken_1.all fun q => decide (decode cX8_taken q.1 = .ok q.2)) = true := by decide +kernel
theorem dX8_taken_0 : decode cX8_taken 0 = .ok (.aload_n 0, 1) := tb_d tk_X8_taken_1 0 (0, .aload_n 0, 1) rfl
theorem dX8_taken_1 : decode cX8_taken 1 = .ok (.iload_n 1, 1) := tb_d tk_X8_taken_1 1 (1, .iload_n 1, 1) rfl
theorem dX8_taken_2 : decode cX8_taken 2 = .ok (.invokevirtual 190, 3) := tb_d tk_X8_taken_1 2 (2, .invokevirtual 190, 3) rfl
theorem dX8_taken_5 : decode cX8_taken 5 = .ok (.ifCond .eq 17, 3) := tb_d tk_X8_taken_1 3 (5, .ifCond .eq 17, 3) rfl
theorem dX8_taken_8 : decode cX8_taken 8 = .ok (.iload_n 2, 1) := tb_d tk_X8_taken_1 4 (8, .iload_n 2, 1) rfl
theorem dX8_taken_9 : decode cX8_taken 9 = .ok (.invokestatic 193, 3) := tb_d tk_X8_taken_1 5 (9, .invokestatic 193, 3) rfl
theorem dX8_taken_12 : decode cX8_taken 12 = .ok (.ifCond .eq 10, 3) := tb_d tk_X8_taken_1 6 (12, .ifCond .eq 10, 3) rfl
theorem dX8_taken_15 : decode cX8_taken 15 = .ok (.iload_n 3, 1) := tb_d tk_X8_taken_1 7 (15, .iload_n 3, 1) rfl
theorem dX8_taken_16 : decode cX8_taken 16 = .ok (.invokestatic 205, 3) := tb_d tk_X8_taken_1 8 (16, .invokestatic 205, 3) rfl
theorem dX8_taken_19 : decode cX8_taken 19 = .ok (.ifCond .ne 6, 3) := tb_d tk_X8_taken_1 9 (19, .ifCond .ne 6, 3) rfl
theorem dX8_taken_22 : decode cX8_taken 22 = .ok (.ldc 64, 2) := tb_d tk_X8_taken_1 10 (22, .ldc 64, 2) rfl
theorem dX8_taken_24 : decode cX8_taken 24 = .ok (.ireturn, 1) := tb_d tk_X8_taken_1 11 (24, .ireturn, 1) rfl
theorem dX8_taken_25 : decode cX8_taken 25 = .ok (.aload_n 0, 1) := tb_d tk_X8_taken_1 12 (25, .aload_n 0, 1) rfl
theorem dX8_taken_26 : decode cX8_taken 26 = .ok (.iload_n 1, 1) := tb_d tk_X8_taken_1 13 (26, .iload_n 1, 1) rfl
theorem dX8_taken_27 : decode cX8_taken 27 = .ok (.iload_n 2, 1) := tb_d tk_X8_taken_1 14 (27, .iload_n 2, 1) rfl
theorem dX8_taken_28 : decode cX8_taken 28 = .ok (.iload_n 3, 1) := tb_d tk_X8_taken_1 15 (28, .iload_n 3, 1) rfl
theorem dX8_taken_29 : decode cX8_taken 29 = .ok (.invokevirtual 196, 3) := tb_d tk_X8_taken_1 16 (29, .invokevirtual 196, 3) rfl
theorem dX8_taken_32 : decode cX8_taken 32 = .ok (.ifCond .eq 7, 3) := tb_d tk_X8_taken_1 17 (32, .ifCond .eq 7, 3) rfl
theorem dX8_taken_35 : decode cX8_taken 35 = .ok (.iconst 1, 1) := tb_d tk_X8_taken_1 18 (35, .iconst 1, 1) rfl
theorem dX8_taken_36 : decode cX8_taken 36 = .ok (.goto 4, 3) := tb_d tk_X8_taken_1 19 (36, .goto 4, 3) rfl
theorem dX8_taken_39 : decode cX8_taken 39 = .ok (.iconst 0, 1) := tb_d tk_X8_taken_1 20 (39, .iconst 0, 1) rfl
theorem dX8_taken_40 : decode cX8_taken 40 = .ok (.ireturn, 1) := tb_d tk_X8_taken_1 21 (40, .ireturn, 1) rfl
theorem ggX8_safe_X8_isGate : GoodIn wsX8_safe wsX8_isGate := fun w h => ⟨List.mem_cons_of_mem _ (List.mem_append_right _ (List.mem_append_right _ (List.mem_append_right _ (List.mem_append_right _ (List.mem_append_right _ (List.mem_append_right _ (List.mem_append_left _ h))))))), good_of_word (gdX8_isGate w h)⟩
set_option maxRecDepth 20000 in
theorem gX8_safe_X8_isGate : GoodIn wsX8_safe (wsV RX8 180 RX8 yX8_isGate wsX8_isGate) := goodIn_app (a := bkV RX8 180 RX8 yX8_isGate) (fun w h => ⟨List.mem_cons_of_mem _ (List.mem_append_right _ (List.mem_append_left _ h)), good_of_word (gd_bV _ _ _ _ w h)⟩) ggX8_safe_X8_isGate
theorem ggX8_safe_X8_isHour : GoodIn wsX8_safe wsX8_isHour := fun w h => ⟨List.mem_cons_of_mem _ (List.mem_append_right _ (List.mem_append_right _ (List.mem_append_right _ (List.mem_append_right _ (List.mem_append_right _ (List.mem_append_right _ (List.mem_append_right _ (List.mem_append_left _ h)))))))), good_of_word (gdX8_isHour w h)⟩
set_option maxRecDepth 20000 in
theorem gX8_safe_X8_isHour : GoodIn wsX8_safe (va_wsS RX8 193 yX8_isHour wsX8_isHour) := goodIn_app (a := bkS RX8 193 yX8_isHour) (fun w h => ⟨List.mem_cons_of_mem _ (List.mem_append_right _ (List.mem_append_right _ (List.mem_append_left _ h))), good_of_word (gd_bS _ _ _ w h)⟩) ggX8_safe_X8_isHour
theorem ggX8_safe_X8_isFar : GoodIn wsX8_safe wsX8_isFar := fun w h => ⟨List.mem_cons_of_mem _ (List.mem_append_right _ (List.mem_append_right _ (List.mem_append_right _ (List.mem_append_right _ (List.mem_append_right _ (List.mem_append_right _ (List.mem_append_right _ (List.mem_append_right _ (List.mem_append_left _ h))))))))), good_of_word (gdX8_isFar w h)⟩
set_option maxRecDepth 20000 in
theorem gX8_safe_X8_isFar : GoodIn wsX8_safe (va_wsS RX8 205 yX8_isFar wsX8_isFar) := goodIn_app (a := bkS RX8 205 yX8_isFar) (fun w h => ⟨List.mem_cons_of_mem _ (List.mem_append_right _ (List.mem_append_right _ (List.mem_append_right _ (List.mem_append_left _ h)))), good_of_word (gd_bS _ _ _ w h)⟩) ggX8_safe_X8_isFar
theorem ggX8_safe_X8_isTakenNow : GoodIn wsX8_safe wsX8_isTakenNow := fun w h => ⟨List.mem_cons_of_mem _ (List.mem_append_right _ (List.mem_append_right _ (List.mem_append_right _ (List.mem_append_right _ (List.mem_append_right _ (List.mem_append_right _ (List.mem_append_right _ (List.mem_append_right _ (List.mem_append_right _ (List.mem_append_left _ h)))))))))), good_of_word (gdX8_isTakenNow w h)⟩
set_option maxRecDepth 20000 in
theorem gX8_safe_X8_isTakenNow : GoodIn wsX8_safe (wsV RX8 196 RX8 yX8_isTakenNow wsX8_isTakenNow) := goodIn_app (a := bkV RX8 196 RX8 yX8_isTakenNow) (fun w h => ⟨List.mem_cons_of_mem _ (List.mem_append_right _ (List.mem_append_right _ (List.mem_append_right _ (List.mem_append_right _ (List.mem_append_left _ h))))), good_of_word (gd_bV _ _ _ _ w h)⟩) ggX8_safe_X8_isTakenNow
def tb_X8_safe_1 : List (Nat × Instr × Nat) := [(0, .aload_n 0, 1), (1, .invokevirtual 180, 3), (4, .ifCond .ne 6, 3), (7, .ldc 183, 2), (9, .ireturn, 1), (10, .iload_n 1, 1), (11, .invokestatic 193, 3), (14, .ifCond .eq 10, 3), (17, .iload_n 2, 1), (18, .invokestatic 205, 3), (21, .ifCond .ne 6, 3), (24, .ldc 64, 2), (26, .ireturn, 1), (27, .iconst 0, 1), (28, .istore_n 3, 1), (29, .iconst 0, 1), (30, .istore 4, 2), (32, .iload 4, 2), (34, .aload_n 0, 1), (35, .getfield 25, 3), (38, .iconst 3, 1), (39, .iaload, 1), (40, .if_icmp .ge 31, 3), (43, .iload_n 3, 1), (44, .aload_n 0, 1), (45, .iload 4, 2), (47, .iload_n 1, 1), (48, .iload_n 2, 1), (49, .invokevirtual 196, 3), (52, .ifCond .eq 7, 3), (55, .iconst 0, 1), (56, .goto 7, 3), (59, .iconst 1, 1), (60, .iload 4, 2), (62, .ishl, 1), (63, .ior, 1), (64, .istore_n 3, 1), (65, .iinc 4 1, 3), (68, .goto (-36), 3), (71, .iload_n 3, 1)]
set_option maxRecDepth 100000 in
theorem tk_X8_safe_1 : (tb_X8_safe_1.all fun q => decide (decode cX8_safe q.1 = .ok q.2)) = true := by decide +kernel
theorem dX8_safe_0 : decode cX8_safe 0 = .ok (.aload_n 0, 1) := tb_d tk_X8_safe_1 0 (0, .aload_n 0, 1) rfl
theorem dX8_safe_1 : decode cX8_safe 1 = .ok (.invokevirtual 180, 3) := tb_d tk_X8_safe_1 1 (1, .invokevirtual 180, 3) rfl
theorem dX8_safe_4 : decode cX8_safe 4 = .ok (.ifCond .ne 6, 3) := tb_d tk_X8_safe_1 2 (4, .ifCond .ne 6, 3) rfl
theorem dX8_safe_7 : decode cX8_safe 7 = .ok (.ldc 183, 2) := tb_d tk_X8_safe_1 3 (7, .ldc 183, 2) rfl
theorem dX8_safe_9 : decode cX8_safe 9 = .ok (.ireturn, 1) := tb_d tk_X8_safe_1 4 (9, .ireturn, 1) rfl
theorem dX8_safe_10 : decode cX8_safe 10 = .ok (.iload_n 1, 1) := tb_d tk_X8_safe_1 5 (10, .iload_n 1, 1) rfl
theorem dX8_safe_11 : decode cX8_safe 11 = .ok (.invokestatic 193, 3) := tb_d tk_X8_safe_1 6 (11, .invokestatic 193, 3) rfl
theorem dX8_safe_14 : decode cX8_safe 14 = .ok (.ifCond .eq 10, 3) := tb_d tk_X8_safe_1 7 (14, .ifCond .eq 10, 3) rfl
theorem dX8_safe_17 : decode cX8_safe 17 = .ok (.iload_n 2, 1) := tb_d tk_X8_safe_1 8 (17, .iload_n 2, 1) rfl
theorem dX8_safe_18 : decode cX8_safe 18 = .ok (.invokestatic 205, 3) := tb_d tk_X8_safe_1 9 (18, .invokestatic 205, 3) rfl
theorem dX8_safe_21 : decode cX8_safe 21 = .ok (.ifCond .ne 6, 3) := tb_d tk_X8_safe_1 10 (21, .ifCond .ne 6, 3) rfl
theorem dX8_safe_24 : decode cX8_safe 24 = .ok (.ldc 64, 2) := tb_d tk_X8_safe_1 11 (24, .ldc 64, 2) rfl
theorem dX8_safe_26 : decode cX8_safe 26 = .ok (.ireturn, 1) := tb_d tk_X8_safe_1 12 (26, .ireturn, 1) rfl
theorem dX8_safe_27 : decode cX8_safe 27 = .ok (.iconst 0, 1) := tb_d tk_X8_safe_1 13 (27, .iconst 0, 1) rfl
theorem dX8_safe_28 : decode cX8_safe 28 = .ok (.istore_n 3, 1) := tb_d tk_X8_safe_1 14 (28, .istore_n 3, 1) rfl
theorem dX8_safe_29 : decode cX8_safe 29 = .ok (.iconst 0, 1) := tb_d tk_X8_safe_1 15 (29, .iconst 0, 1) rfl
theorem dX8_safe_30 : decode cX8_safe 30 = .ok (.istore 4, 2) := tb_d tk_X8_safe_1 16 (30, .istore 4, 2) rfl
theorem dX8_safe_32 : decode cX8_safe 32 = .ok (.iload 4, 2) := tb_d tk_X8_safe_1 17 (32, .iload 4, 2) rfl
theorem dX8_safe_34 : decode cX8_safe 34 = .ok (.aload_n 0, 1) := tb_d tk_X8_safe_1 18 (34, .aload_n 0, 1) rfl
theorem dX8_safe_35 : decode cX8_safe 35 = .ok (.getfield 25, 3) := tb_d tk_X8_safe_1 19 (35, .getfield 25, 3) rfl
theorem dX8_safe_38 : decode cX8_safe 38 = .ok (.iconst 3, 1) := tb_d tk_X8_safe_1 20 (38, .iconst 3, 1) rfl
theorem dX8_safe_39 : decode cX8_safe 39 = .ok (.iaload, 1) := tb_d tk_X8_safe_1 21 (39, .iaload, 1) rfl
theorem dX8_safe_40 : decode cX8_safe 40 = .ok (.if_icmp .ge 31, 3) := tb_d tk_X8_safe_1 22 (40, .if_icmp .ge 31, 3) rfl
theorem dX8_safe_43 : decode cX8_safe 43 = .ok (.iload_n 3, 1) := tb_d tk_X8_safe_1 23 (43, .iload_n 3, 1) rfl
theorem dX8_safe_44 : decode cX8_safe 44 = .ok (.aload_n 0, 1) := tb_d tk_X8_safe_1 24 (44, .aload_n 0, 1) rfl
theorem dX8_safe_45 : decode cX8_safe 45 = .ok (.iload 4, 2) := tb_d tk_X8_safe_1 25 (45, .iload 4, 2) rfl
theorem dX8_safe_47 : decode cX8_safe 47 = .ok (.iload_n 1, 1) := tb_d tk_X8_safe_1 26 (47, .iload_n 1, 1) rfl
theorem dX8_safe_48 : decode cX8_safe 48 = .ok (.iload_n 2, 1) := tb_d tk_X8_safe_1 27 (48, .iload_n 2, 1) rfl
theorem dX8_safe_49 : decode cX8_safe 49 = .ok (.invokevirtual 196, 3) := tb_d tk_X8_safe_1 28 (49, .invokevirtual 196, 3) rfl
theorem dX8_safe_52 : decode cX8_safe 52 = .ok (.ifCond .eq 7, 3) := tb_d tk_X8_safe_1 29 (52, .ifCond .eq 7, 3) rfl
theorem dX8_safe_55 : decode cX8_safe 55 = .ok (.iconst 0, 1) := tb_d tk_X8_safe_1 30 (55, .iconst 0, 1) rfl
theorem dX8_safe_56 : decode cX8_safe 56 = .ok (.goto 7, 3) := tb_d tk_X8_safe_1 31 (56, .goto 7, 3) rfl
theorem dX8_safe_59 : decode cX8_safe 59 = .ok (.iconst 1, 1) := tb_d tk_X8_safe_1 32 (59, .iconst 1, 1) rfl
theorem dX8_safe_60 : decode cX8_safe 60 = .ok (.iload 4, 2) := tb_d tk_X8_safe_1 33 (60, .iload 4, 2) rfl
theorem dX8_safe_62 : decode cX8_safe 62 = .ok (.ishl, 1) := tb_d tk_X8_safe_1 34 (62, .ishl, 1) rfl
theorem dX8_safe_63 : decode cX8_safe 63 = .ok (.ior, 1) := tb_d tk_X8_safe_1 35 (63, .ior, 1) rfl
theorem dX8_safe_64 : decode cX8_safe 64 = .ok (.istore_n 3, 1) := tb_d tk_X8_safe_1 36 (64, .istore_n 3, 1) rfl
theorem dX8_safe_65 : decode cX8_safe 65 = .ok (.iinc 4 1, 3) := tb_d tk_X8_safe_1 37 (65, .iinc 4 1, 3) rfl
theorem dX8_safe_68 : decode cX8_safe 68 = .ok (.goto (-36), 3) := tb_d tk_X8_safe_1 38 (68, .goto (-36), 3) rfl
theorem dX8_safe_71 : decode cX8_safe 71 = .ok (.iload_n 3, 1) := tb_d tk_X8_safe_1 39 (71, .iload_n 3, 1) rfl
def tb_X8_safe_2 : List (Nat × Instr × Nat) := [(72, .ireturn, 1)]
set_option maxRecDepth 100000 in
theorem tk_X8_safe_2 : (tb_X8_safe_2.all fun q => decide (decode cX8_safe q.1 = .ok q.2)) = true := by decide +kernel
theorem dX8_safe_72 : decode cX8_safe 72 = .ok (.ireturn, 1) := tb_d tk_X8_safe_2 0 (72, .ireturn, 1) rfl
theorem ggX8_areIn_X8_has : GoodIn wsX8_areIn wsX8_has := fun w h => ⟨List.mem_cons_of_mem _ (List.mem_append_right _ (List.mem_append_right _ (List.mem_append_right _ (List.mem_append_right _ (List.mem_append_right _ (List.mem_append_left _ h)))))), good_of_word (gdX8_has w h)⟩
set_option maxRecDepth 20000 in
theorem gX8_areIn_X8_has : GoodIn wsX8_areIn (va_wsS RX8 161 yX8_has wsX8_has) := goodIn_app (a := bkS RX8 161 yX8_has) (fun w h => ⟨List.mem_cons_of_mem _ (List.mem_append_right _ (List.mem_append_left _ h)), good_of_word (gd_bS _ _ _ w h)⟩) ggX8_areIn_X8_has
theorem ggX8_areIn_X8_secretOf : GoodIn wsX8_areIn wsX8_secretOf := fun w h => ⟨List.mem_cons_of_mem _ (List.mem_append_right _ (List.mem_append_right _ (List.mem_append_right _ (List.mem_append_right _ (List.mem_append_right _ (List.mem_append_right _ (List.mem_append_left _ h))))))), good_of_word (gdX8_secretOf w h)⟩
set_option maxRecDepth 20000 in
theorem gX8_areIn_X8_secretOf : GoodIn wsX8_areIn (va_wsS RX8 172 yX8_secretOf wsX8_secretOf) := goodIn_app (a := bkS RX8 172 yX8_secretOf) (fun w h => ⟨List.mem_cons_of_mem _ (List.mem_append_right _ (List.mem_append_right _ (List.mem_append_left _ h))), good_of_word (gd_bS _ _ _ w h)⟩) ggX8_areIn_X8_secretOf
theorem ggX8_areIn_X8_isTaken : GoodIn wsX8_areIn wsX8_isTaken := fun w h => ⟨List.mem_cons_of_mem _ (List.mem_append_right _ (List.mem_append_right _ (List.mem_append_right _ (List.mem_append_right _ (List.mem_append_right _ (List.mem_append_right _ (List.mem_append_right _ (List.mem_append_left _ h)))))))), good_of_word (gdX8_isTaken w h)⟩
set_option maxRecDepth 20000 in
theorem gX8_areIn_X8_isTaken : GoodIn wsX8_areIn (wsV RX8 176 RX8 yX8_isTaken wsX8_isTaken) := goodIn_app (a := bkV RX8 176 RX8 yX8_isTaken) (fun w h => ⟨List.mem_cons_of_mem _ (List.mem_append_right _ (List.mem_append_right _ (List.mem_append_right _ (List.mem_append_left _ h)))), good_of_word (gd_bV _ _ _ _ w h)⟩) ggX8_areIn_X8_isTaken
def tb_X8_areIn_1 : List (Nat × Instr × Nat) := [(0, .aload_n 0, 1), (1, .getfield 25, 3), (4, .iconst 5, 1), (5, .iaload, 1), (6, .iload_n 3, 1), (7, .iadd, 1), (8, .istore 5, 2), (10, .iconst 1, 1), (11, .istore 6, 2), (13, .iconst 0, 1), (14, .istore 7, 2), (16, .iload 7, 2), (18, .aload_n 0, 1), (19, .getfield 25, 3), (22, .iconst 3, 1), (23, .iaload, 1), (24, .if_icmp .ge 53, 3), (27, .iload 6, 2), (29, .ifCond .eq 39, 3), (32, .iload_n 1, 1), (33, .iload 7, 2), (35, .invokestatic 161, 3), (38, .ifCond .eq 26, 3), (41, .aload_n 0, 1), (42, .iload 7, 2), (44, .iload_n 2, 1), (45, .iload 5, 2), (47, .iload 4, 2), (49, .aload_n 0, 1), (50, .getfield 25, 3), (53, .iload 5, 2), (55, .invokestatic 172, 3), (58, .invokevirtual 176, 3), (61, .ifCond .ne 7, 3), (64, .iconst 1, 1), (65, .goto 4, 3), (68, .iconst 0, 1), (69, .istore 6, 2), (71, .iinc 7 1, 3), (74, .goto (-58), 3)]
set_option maxRecDepth 100000 in
theorem tk_X8_areIn_1 : (tb_X8_areIn_1.all fun q => decide (decode cX8_areIn q.1 = .ok q.2)) = true := by decide +kernel
theorem dX8_areIn_0 : decode cX8_areIn 0 = .ok (.aload_n 0, 1) := tb_d tk_X8_areIn_1 0 (0, .aload_n 0, 1) rfl
theorem dX8_areIn_1 : decode cX8_areIn 1 = .ok (.getfield 25, 3) := tb_d tk_X8_areIn_1 1 (1, .getfield 25, 3) rfl
theorem dX8_areIn_4 : decode cX8_areIn 4 = .ok (.iconst 5, 1) := tb_d tk_X8_areIn_1 2 (4, .iconst 5, 1) rfl
theorem dX8_areIn_5 : decode cX8_areIn 5 = .ok (.iaload, 1) := tb_d tk_X8_areIn_1 3 (5, .iaload, 1) rfl
theorem dX8_areIn_6 : decode cX8_areIn 6 = .ok (.iload_n 3, 1) := tb_d tk_X8_areIn_1 4 (6, .iload_n 3, 1) rfl
theorem dX8_areIn_7 : decode cX8_areIn 7 = .ok (.iadd, 1) := tb_d tk_X8_areIn_1 5 (7, .iadd, 1) rfl
theorem dX8_areIn_8 : decode cX8_areIn 8 = .ok (.istore 5, 2) := tb_d tk_X8_areIn_1 6 (8, .istore 5, 2) rfl
theorem dX8_areIn_10 : decode cX8_areIn 10 = .ok (.iconst 1, 1) := tb_d tk_X8_areIn_1 7 (10, .iconst 1, 1) rfl
theorem dX8_areIn_11 : decode cX8_areIn 11 = .ok (.istore 6, 2) := tb_d tk_X8_areIn_1 8 (11, .istore 6, 2) rfl
theorem dX8_areIn_13 : decode cX8_areIn 13 = .ok (.iconst 0, 1) := tb_d tk_X8_areIn_1 9 (13, .iconst 0, 1) rfl
theorem dX8_areIn_14 : decode cX8_areIn 14 = .ok (.istore 7, 2) := tb_d tk_X8_areIn_1 10 (14, .istore 7, 2) rfl
theorem dX8_areIn_16 : decode cX8_areIn 16 = .ok (.iload 7, 2) := tb_d tk_X8_areIn_1 11 (16, .iload 7, 2) rfl
theorem dX8_areIn_18 : decode cX8_areIn 18 = .ok (.aload_n 0, 1) := tb_d tk_X8_areIn_1 12 (18, .aload_n 0, 1) rfl
theorem dX8_areIn_19 : decode cX8_areIn 19 = .ok (.getfield 25, 3) := tb_d tk_X8_areIn_1 13 (19, .getfield 25, 3) rfl
theorem dX8_areIn_22 : decode cX8_areIn 22 = .ok (.iconst 3, 1) := tb_d tk_X8_areIn_1 14 (22, .iconst 3, 1) rfl
theorem dX8_areIn_23 : decode cX8_areIn 23 = .ok (.iaload, 1) := tb_d tk_X8_areIn_1 15 (23, .iaload, 1) rfl
theorem dX8_areIn_24 : decode cX8_areIn 24 = .ok (.if_icmp .ge 53, 3) := tb_d tk_X8_areIn_1 16 (24, .if_icmp .ge 53, 3) rfl
theorem dX8_areIn_27 : decode cX8_areIn 27 = .ok (.iload 6, 2) := tb_d tk_X8_areIn_1 17 (27, .iload 6, 2) rfl
theorem dX8_areIn_29 : decode cX8_areIn 29 = .ok (.ifCond .eq 39, 3) := tb_d tk_X8_areIn_1 18 (29, .ifCond .eq 39, 3) rfl
theorem dX8_areIn_32 : decode cX8_areIn 32 = .ok (.iload_n 1, 1) := tb_d tk_X8_areIn_1 19 (32, .iload_n 1, 1) rfl
theorem dX8_areIn_33 : decode cX8_areIn 33 = .ok (.iload 7, 2) := tb_d tk_X8_areIn_1 20 (33, .iload 7, 2) rfl
theorem dX8_areIn_35 : decode cX8_areIn 35 = .ok (.invokestatic 161, 3) := tb_d tk_X8_areIn_1 21 (35, .invokestatic 161, 3) rfl
theorem dX8_areIn_38 : decode cX8_areIn 38 = .ok (.ifCond .eq 26, 3) := tb_d tk_X8_areIn_1 22 (38, .ifCond .eq 26, 3) rfl
theorem dX8_areIn_41 : decode cX8_areIn 41 = .ok (.aload_n 0, 1) := tb_d tk_X8_areIn_1 23 (41, .aload_n 0, 1) rfl
theorem dX8_areIn_42 : decode cX8_areIn 42 = .ok (.iload 7, 2) := tb_d tk_X8_areIn_1 24 (42, .iload 7, 2) rfl
theorem dX8_areIn_44 : decode cX8_areIn 44 = .ok (.iload_n 2, 1) := tb_d tk_X8_areIn_1 25 (44, .iload_n 2, 1) rfl
theorem dX8_areIn_45 : decode cX8_areIn 45 = .ok (.iload 5, 2) := tb_d tk_X8_areIn_1 26 (45, .iload 5, 2) rfl
theorem dX8_areIn_47 : decode cX8_areIn 47 = .ok (.iload 4, 2) := tb_d tk_X8_areIn_1 27 (47, .iload 4, 2) rfl
theorem dX8_areIn_49 : decode cX8_areIn 49 = .ok (.aload_n 0, 1) := tb_d tk_X8_areIn_1 28 (49, .aload_n 0, 1) rfl
theorem dX8_areIn_50 : decode cX8_areIn 50 = .ok (.getfield 25, 3) := tb_d tk_X8_areIn_1 29 (50, .getfield 25, 3) rfl
theorem dX8_areIn_53 : decode cX8_areIn 53 = .ok (.iload 5, 2) := tb_d tk_X8_areIn_1 30 (53, .iload 5, 2) rfl
theorem dX8_areIn_55 : decode cX8_areIn 55 = .ok (.invokestatic 172, 3) := tb_d tk_X8_areIn_1 31 (55, .invokestatic 172, 3) rfl
theorem dX8_areIn_58 : decode cX8_areIn 58 = .ok (.invokevirtual 176, 3) := tb_d tk_X8_areIn_1 32 (58, .invokevirtual 176, 3) rfl
theorem dX8_areIn_61 : decode cX8_areIn 61 = .ok (.ifCond .ne 7, 3) := tb_d tk_X8_areIn_1 33 (61, .ifCond .ne 7, 3) rfl
theorem dX8_areIn_64 : decode cX8_areIn 64 = .ok (.iconst 1, 1) := tb_d tk_X8_areIn_1 34 (64, .iconst 1, 1) rfl
theorem dX8_areIn_65 : decode cX8_areIn 65 = .ok (.goto 4, 3) := tb_d tk_X8_areIn_1 35 (65, .goto 4, 3) rfl
theorem dX8_areIn_68 : decode cX8_areIn 68 = .ok (.iconst 0, 1) := tb_d tk_X8_areIn_1 36 (68, .iconst 0, 1) rfl
theorem dX8_areIn_69 : decode cX8_areIn 69 = .ok (.istore 6, 2) := tb_d tk_X8_areIn_1 37 (69, .istore 6, 2) rfl
theorem dX8_areIn_71 : decode cX8_areIn 71 = .ok (.iinc 7 1, 3) := tb_d tk_X8_areIn_1 38 (71, .iinc 7 1, 3) rfl
theorem dX8_areIn_74 : decode cX8_areIn 74 = .ok (.goto (-58), 3) := tb_d tk_X8_areIn_1 39 (74, .goto (-58), 3) rfl
def tb_X8_areIn_2 : List (Nat × Instr × Nat) := [(77, .iload 6, 2), (79, .ireturn, 1)]
set_option maxRecDepth 100000 in
theorem tk_X8_areIn_2 : (tb_X8_areIn_2.all fun q => decide (decode cX8_areIn q.1 = .ok q.2)) = true := by decide +kernel
theorem dX8_areIn_77 : decode cX8_areIn 77 = .ok (.iload 6, 2) := tb_d tk_X8_areIn_2 0 (77, .iload 6, 2) rfl
theorem dX8_areIn_79 : decode cX8_areIn 79 = .ok (.ireturn, 1) := tb_d tk_X8_areIn_2 1 (79, .ireturn, 1) rfl
theorem ggX8_open_X8_isGate : GoodIn wsX8_open wsX8_isGate := fun w h => ⟨List.mem_cons_of_mem _ (List.mem_append_right _ (List.mem_append_right _ (List.mem_append_right _ (List.mem_append_right _ (List.mem_append_right _ (List.mem_append_right _ (List.mem_append_left _ h))))))), good_of_word (gdX8_isGate w h)⟩
set_option maxRecDepth 20000 in
theorem gX8_open_X8_isGate : GoodIn wsX8_open (wsV RX8 180 RX8 yX8_isGate wsX8_isGate) := goodIn_app (a := bkV RX8 180 RX8 yX8_isGate) (fun w h => ⟨List.mem_cons_of_mem _ (List.mem_append_right _ (List.mem_append_left _ h)), good_of_word (gd_bV _ _ _ _ w h)⟩) ggX8_open_X8_isGate
theorem ggX8_open_X8_areWords : GoodIn wsX8_open wsX8_areWords := fun w h => ⟨List.mem_cons_of_mem _ (List.mem_append_right _ (List.mem_append_right _ (List.mem_append_right _ (List.mem_append_right _ (List.mem_append_right _ (List.mem_append_right _ (List.mem_append_right _ (List.mem_append_left _ h)))))))), good_of_word (gdX8_areWords w h)⟩
set_option maxRecDepth 20000 in
theorem gX8_open_X8_areWords : GoodIn wsX8_open (wsV RX8 208 RX8 yX8_areWords wsX8_areWords) := goodIn_app (a := bkV RX8 208 RX8 yX8_areWords) (fun w h => ⟨List.mem_cons_of_mem _ (List.mem_append_right _ (List.mem_append_right _ (List.mem_append_left _ h))), good_of_word (gd_bV _ _ _ _ w h)⟩) ggX8_open_X8_areWords
theorem ggX8_open_X8_isFar : GoodIn wsX8_open wsX8_isFar := fun w h => ⟨List.mem_cons_of_mem _ (List.mem_append_right _ (List.mem_append_right _ (List.mem_append_right _ (List.mem_append_right _ (List.mem_append_right _ (List.mem_append_right _ (List.mem_append_right _ (List.mem_append_right _ (List.mem_append_left _ h))))))))), good_of_word (gdX8_isFar w h)⟩
set_option maxRecDepth 20000 in
theorem gX8_open_X8_isFar : GoodIn wsX8_open (va_wsS RX8 205 yX8_isFar wsX8_isFar) := goodIn_app (a := bkS RX8 205 yX8_isFar) (fun w h => ⟨List.mem_cons_of_mem _ (List.mem_append_right _ (List.mem_append_right _ (List.mem_append_right _ (List.mem_append_left _ h)))), good_of_word (gd_bS _ _ _ w h)⟩) ggX8_open_X8_isFar
theorem ggX8_open_X8_areIn : GoodIn wsX8_open wsX8_areIn := fun w h => ⟨List.mem_cons_of_mem _ (List.mem_append_right _ (List.mem_append_right _ (List.mem_append_right _ (List.mem_append_right _ (List.mem_append_right _ (List.mem_append_right _ (List.mem_append_right _ (List.mem_append_right _ (List.mem_append_right _ (List.mem_append_left _ h)))))))))), good_of_word (gdX8_areIn w h)⟩
set_option maxRecDepth 20000 in
theorem gX8_open_X8_areIn : GoodIn wsX8_open (wsV RX8 211 RX8 yX8_areIn wsX8_areIn) := goodIn_app (a := bkV RX8 211 RX8 yX8_areIn) (fun w h => ⟨List.mem_cons_of_mem _ (List.mem_append_right _ (List.mem_append_right _ (List.mem_append_right _ (List.mem_append_right _ (List.mem_append_left _ h))))), good_of_word (gd_bV _ _ _ _ w h)⟩) ggX8_open_X8_areIn
def tb_X8_open_1 : List (Nat × Instr × Nat) := [(0, .aload_n 0, 1), (1, .invokevirtual 180, 3), (4, .ifCond .ne 6, 3), (7, .ldc 183, 2), (9, .ireturn, 1), (10, .aload_n 0, 1), (11, .iload_n 1, 1), (12, .invokevirtual 208, 3), (15, .ifCond .eq 10, 3), (18, .iload_n 2, 1), (19, .invokestatic 205, 3), (22, .ifCond .ne 6, 3), (25, .ldc 64, 2), (27, .ireturn, 1), (28, .iconst 0, 1), (29, .istore_n 3, 1), (30, .iconst 0, 1), (31, .istore 4, 2), (33, .iload 4, 2), (35, .bipush 6, 2), (37, .if_icmp .ge 38, 3), (40, .iload_n 3, 1), (41, .aload_n 0, 1), (42, .iload_n 1, 1), (43, .iload 4, 2), (45, .iload_n 2, 1), (46, .aload_n 0, 1), (47, .getfield 25, 3), (50, .bipush 6, 2), (52, .iaload, 1), (53, .invokevirtual 211, 3), (56, .ifCond .eq 10, 3), (59, .iconst 1, 1), (60, .iload 4, 2), (62, .ishl, 1), (63, .goto 4, 3), (66, .iconst 0, 1), (67, .ior, 1), (68, .istore_n 3, 1), (69, .iinc 4 1, 3)]
set_option maxRecDepth 100000 in
theorem tk_X8_open_1 : (tb_X8_open_1.all fun q => decide (decode cX8_open q.1 = .ok q.2)) = true := by decide +kernel
theorem dX8_open_0 : decode cX8_open 0 = .ok (.aload_n 0, 1) := tb_d tk_X8_open_1 0 (0, .aload_n 0, 1) rfl
theorem dX8_open_1 : decode cX8_open 1 = .ok (.invokevirtual 180, 3) := tb_d tk_X8_open_1 1 (1, .invokevirtual 180, 3) rfl
theorem dX8_open_4 : decode cX8_open 4 = .ok (.ifCond .ne 6, 3) := tb_d tk_X8_open_1 2 (4, .ifCond .ne 6, 3) rfl
theorem dX8_open_7 : decode cX8_open 7 = .ok (.ldc 183, 2) := tb_d tk_X8_open_1 3 (7, .ldc 183, 2) rfl
theorem dX8_open_9 : decode cX8_open 9 = .ok (.ireturn, 1) := tb_d tk_X8_open_1 4 (9, .ireturn, 1) rfl
theorem dX8_open_10 : decode cX8_open 10 = .ok (.aload_n 0, 1) := tb_d tk_X8_open_1 5 (10, .aload_n 0, 1) rfl
theorem dX8_open_11 : decode cX8_open 11 = .ok (.iload_n 1, 1) := tb_d tk_X8_open_1 6 (11, .iload_n 1, 1) rfl
theorem dX8_open_12 : decode cX8_open 12 = .ok (.invokevirtual 208, 3) := tb_d tk_X8_open_1 7 (12, .invokevirtual 208, 3) rfl
theorem dX8_open_15 : decode cX8_open 15 = .ok (.ifCond .eq 10, 3) := tb_d tk_X8_open_1 8 (15, .ifCond .eq 10, 3) rfl
theorem dX8_open_18 : decode cX8_open 18 = .ok (.iload_n 2, 1) := tb_d tk_X8_open_1 9 (18, .iload_n 2, 1) rfl
theorem dX8_open_19 : decode cX8_open 19 = .ok (.invokestatic 205, 3) := tb_d tk_X8_open_1 10 (19, .invokestatic 205, 3) rfl
theorem dX8_open_22 : decode cX8_open 22 = .ok (.ifCond .ne 6, 3) := tb_d tk_X8_open_1 11 (22, .ifCond .ne 6, 3) rfl
theorem dX8_open_25 : decode cX8_open 25 = .ok (.ldc 64, 2) := tb_d tk_X8_open_1 12 (25, .ldc 64, 2) rfl
theorem dX8_open_27 : decode cX8_open 27 = .ok (.ireturn, 1) := tb_d tk_X8_open_1 13 (27, .ireturn, 1) rfl
theorem dX8_open_28 : decode cX8_open 28 = .ok (.iconst 0, 1) := tb_d tk_X8_open_1 14 (28, .iconst 0, 1) rfl
theorem dX8_open_29 : decode cX8_open 29 = .ok (.istore_n 3, 1) := tb_d tk_X8_open_1 15 (29, .istore_n 3, 1) rfl
theorem dX8_open_30 : decode cX8_open 30 = .ok (.iconst 0, 1) := tb_d tk_X8_open_1 16 (30, .iconst 0, 1) rfl
theorem dX8_open_31 : decode cX8_open 31 = .ok (.istore 4, 2) := tb_d tk_X8_open_1 17 (31, .istore 4, 2) rfl
theorem dX8_open_33 : decode cX8_open 33 = .ok (.iload 4, 2) := tb_d tk_X8_open_1 18 (33, .iload 4, 2) rfl
theorem dX8_open_35 : decode cX8_open 35 = .ok (.bipush 6, 2) := tb_d tk_X8_open_1 19 (35, .bipush 6, 2) rfl
theorem dX8_open_37 : decode cX8_open 37 = .ok (.if_icmp .ge 38, 3) := tb_d tk_X8_open_1 20 (37, .if_icmp .ge 38, 3) rfl
theorem dX8_open_40 : decode cX8_open 40 = .ok (.iload_n 3, 1) := tb_d tk_X8_open_1 21 (40, .iload_n 3, 1) rfl
theorem dX8_open_41 : decode cX8_open 41 = .ok (.aload_n 0, 1) := tb_d tk_X8_open_1 22 (41, .aload_n 0, 1) rfl
theorem dX8_open_42 : decode cX8_open 42 = .ok (.iload_n 1, 1) := tb_d tk_X8_open_1 23 (42, .iload_n 1, 1) rfl
theorem dX8_open_43 : decode cX8_open 43 = .ok (.iload 4, 2) := tb_d tk_X8_open_1 24 (43, .iload 4, 2) rfl
theorem dX8_open_45 : decode cX8_open 45 = .ok (.iload_n 2, 1) := tb_d tk_X8_open_1 25 (45, .iload_n 2, 1) rfl
theorem dX8_open_46 : decode cX8_open 46 = .ok (.aload_n 0, 1) := tb_d tk_X8_open_1 26 (46, .aload_n 0, 1) rfl
theorem dX8_open_47 : decode cX8_open 47 = .ok (.getfield 25, 3) := tb_d tk_X8_open_1 27 (47, .getfield 25, 3) rfl
theorem dX8_open_50 : decode cX8_open 50 = .ok (.bipush 6, 2) := tb_d tk_X8_open_1 28 (50, .bipush 6, 2) rfl
theorem dX8_open_52 : decode cX8_open 52 = .ok (.iaload, 1) := tb_d tk_X8_open_1 29 (52, .iaload, 1) rfl
theorem dX8_open_53 : decode cX8_open 53 = .ok (.invokevirtual 211, 3) := tb_d tk_X8_open_1 30 (53, .invokevirtual 211, 3) rfl
theorem dX8_open_56 : decode cX8_open 56 = .ok (.ifCond .eq 10, 3) := tb_d tk_X8_open_1 31 (56, .ifCond .eq 10, 3) rfl
theorem dX8_open_59 : decode cX8_open 59 = .ok (.iconst 1, 1) := tb_d tk_X8_open_1 32 (59, .iconst 1, 1) rfl
theorem dX8_open_60 : decode cX8_open 60 = .ok (.iload 4, 2) := tb_d tk_X8_open_1 33 (60, .iload 4, 2) rfl
theorem dX8_open_62 : decode cX8_open 62 = .ok (.ishl, 1) := tb_d tk_X8_open_1 34 (62, .ishl, 1) rfl
theorem dX8_open_63 : decode cX8_open 63 = .ok (.goto 4, 3) := tb_d tk_X8_open_1 35 (63, .goto 4, 3) rfl
theorem dX8_open_66 : decode cX8_open 66 = .ok (.iconst 0, 1) := tb_d tk_X8_open_1 36 (66, .iconst 0, 1) rfl
theorem dX8_open_67 : decode cX8_open 67 = .ok (.ior, 1) := tb_d tk_X8_open_1 37 (67, .ior, 1) rfl
theorem dX8_open_68 : decode cX8_open 68 = .ok (.istore_n 3, 1) := tb_d tk_X8_open_1 38 (68, .istore_n 3, 1) rfl
theorem dX8_open_69 : decode cX8_open 69 = .ok (.iinc 4 1, 3) := tb_d tk_X8_open_1 39 (69, .iinc 4 1, 3) rfl
def tb_X8_open_2 : List (Nat × Instr × Nat) := [(72, .goto (-39), 3), (75, .iload_n 3, 1), (76, .ireturn, 1)]
set_option maxRecDepth 100000 in
theorem tk_X8_open_2 : (tb_X8_open_2.all fun q => decide (decode cX8_open q.1 = .ok q.2)) = true := by decide +kernel
theorem dX8_open_72 : decode cX8_open 72 = .ok (.goto (-39), 3) := tb_d tk_X8_open_2 0 (72, .goto (-39), 3) rfl
theorem dX8_open_75 : decode cX8_open 75 = .ok (.iload_n 3, 1) := tb_d tk_X8_open_2 1 (75, .iload_n 3, 1) rfl
theorem dX8_open_76 : decode cX8_open 76 = .ok (.ireturn, 1) := tb_d tk_X8_open_2 2 (76, .ireturn, 1) rfl
theorem ggX8_next_X8_isWord : GoodIn wsX8_next wsX8_isWord := fun w h => ⟨List.mem_cons_of_mem _ (List.mem_append_right _ (List.mem_append_right _ (List.mem_append_right _ (List.mem_append_right _ (List.mem_append_left _ h))))), good_of_word (gdX8_isWord w h)⟩
set_option maxRecDepth 20000 in
theorem gX8_next_X8_isWord : GoodIn wsX8_next (wsV RX8 190 RX8 yX8_isWord wsX8_isWord) := goodIn_app (a := bkV RX8 190 RX8 yX8_isWord) (fun w h => ⟨List.mem_cons_of_mem _ (List.mem_append_right _ (List.mem_append_left _ h)), good_of_word (gd_bV _ _ _ _ w h)⟩) ggX8_next_X8_isWord
theorem ggX8_next_X8_secretOf : GoodIn wsX8_next wsX8_secretOf := fun w h => ⟨List.mem_cons_of_mem _ (List.mem_append_right _ (List.mem_append_right _ (List.mem_append_right _ (List.mem_append_right _ (List.mem_append_right _ (List.mem_append_left _ h)))))), good_of_word (gdX8_secretOf w h)⟩
set_option maxRecDepth 20000 in
theorem gX8_next_X8_secretOf : GoodIn wsX8_next (va_wsS RX8 172 yX8_secretOf wsX8_secretOf) := goodIn_app (a := bkS RX8 172 yX8_secretOf) (fun w h => ⟨List.mem_cons_of_mem _ (List.mem_append_right _ (List.mem_append_right _ (List.mem_append_left _ h))), good_of_word (gd_bS _ _ _ w h)⟩) ggX8_next_X8_secretOf
def tb_X8_next_1 : List (Nat × Instr × Nat) := [(0, .aload_n 0, 1), (1, .iload_n 1, 1), (2, .invokevirtual 190, 3), (5, .ifCond .ne 6, 3), (8, .ldc 64, 2), (10, .ireturn, 1), (11, .iconst 0, 1), (12, .istore_n 2, 1), (13, .iload_n 2, 1), (14, .bipush 61, 2), (16, .if_icmp .ge 30, 3), (19, .aload_n 0, 1), (20, .getfield 25, 3), (23, .aload_n 0, 1), (24, .getfield 25, 3), (27, .iconst 5, 1), (28, .iaload, 1), (29, .iload_n 2, 1), (30, .iadd, 1), (31, .invokestatic 172, 3), (34, .iload_n 1, 1), (35, .if_icmp .ne 5, 3), (38, .iload_n 2, 1), (39, .ireturn, 1), (40, .iinc 2 1, 3), (43, .goto (-30), 3), (46, .ldc 50, 2), (48, .ireturn, 1)]
set_option maxRecDepth 100000 in
theorem tk_X8_next_1 : (tb_X8_next_1.all fun q => decide (decode cX8_next q.1 = .ok q.2)) = true := by decide +kernel
theorem dX8_next_0 : decode cX8_next 0 = .ok (.aload_n 0, 1) := tb_d tk_X8_next_1 0 (0, .aload_n 0, 1) rfl
theorem dX8_next_1 : decode cX8_next 1 = .ok (.iload_n 1, 1) := tb_d tk_X8_next_1 1 (1, .iload_n 1, 1) rfl
theorem dX8_next_2 : decode cX8_next 2 = .ok (.invokevirtual 190, 3) := tb_d tk_X8_next_1 2 (2, .invokevirtual 190, 3) rfl
theorem dX8_next_5 : decode cX8_next 5 = .ok (.ifCond .ne 6, 3) := tb_d tk_X8_next_1 3 (5, .ifCond .ne 6, 3) rfl
theorem dX8_next_8 : decode cX8_next 8 = .ok (.ldc 64, 2) := tb_d tk_X8_next_1 4 (8, .ldc 64, 2) rfl
theorem dX8_next_10 : decode cX8_next 10 = .ok (.ireturn, 1) := tb_d tk_X8_next_1 5 (10, .ireturn, 1) rfl
theorem dX8_next_11 : decode cX8_next 11 = .ok (.iconst 0, 1) := tb_d tk_X8_next_1 6 (11, .iconst 0, 1) rfl
theorem dX8_next_12 : decode cX8_next 12 = .ok (.istore_n 2, 1) := tb_d tk_X8_next_1 7 (12, .istore_n 2, 1) rfl
theorem dX8_next_13 : decode cX8_next 13 = .ok (.iload_n 2, 1) := tb_d tk_X8_next_1 8 (13, .iload_n 2, 1) rfl
theorem dX8_next_14 : decode cX8_next 14 = .ok (.bipush 61, 2) := tb_d tk_X8_next_1 9 (14, .bipush 61, 2) rfl
theorem dX8_next_16 : decode cX8_next 16 = .ok (.if_icmp .ge 30, 3) := tb_d tk_X8_next_1 10 (16, .if_icmp .ge 30, 3) rfl
theorem dX8_next_19 : decode cX8_next 19 = .ok (.aload_n 0, 1) := tb_d tk_X8_next_1 11 (19, .aload_n 0, 1) rfl
theorem dX8_next_20 : decode cX8_next 20 = .ok (.getfield 25, 3) := tb_d tk_X8_next_1 12 (20, .getfield 25, 3) rfl
theorem dX8_next_23 : decode cX8_next 23 = .ok (.aload_n 0, 1) := tb_d tk_X8_next_1 13 (23, .aload_n 0, 1) rfl
theorem dX8_next_24 : decode cX8_next 24 = .ok (.getfield 25, 3) := tb_d tk_X8_next_1 14 (24, .getfield 25, 3) rfl
theorem dX8_next_27 : decode cX8_next 27 = .ok (.iconst 5, 1) := tb_d tk_X8_next_1 15 (27, .iconst 5, 1) rfl
theorem dX8_next_28 : decode cX8_next 28 = .ok (.iaload, 1) := tb_d tk_X8_next_1 16 (28, .iaload, 1) rfl
theorem dX8_next_29 : decode cX8_next 29 = .ok (.iload_n 2, 1) := tb_d tk_X8_next_1 17 (29, .iload_n 2, 1) rfl
theorem dX8_next_30 : decode cX8_next 30 = .ok (.iadd, 1) := tb_d tk_X8_next_1 18 (30, .iadd, 1) rfl
theorem dX8_next_31 : decode cX8_next 31 = .ok (.invokestatic 172, 3) := tb_d tk_X8_next_1 19 (31, .invokestatic 172, 3) rfl
theorem dX8_next_34 : decode cX8_next 34 = .ok (.iload_n 1, 1) := tb_d tk_X8_next_1 20 (34, .iload_n 1, 1) rfl
theorem dX8_next_35 : decode cX8_next 35 = .ok (.if_icmp .ne 5, 3) := tb_d tk_X8_next_1 21 (35, .if_icmp .ne 5, 3) rfl
theorem dX8_next_38 : decode cX8_next 38 = .ok (.iload_n 2, 1) := tb_d tk_X8_next_1 22 (38, .iload_n 2, 1) rfl
theorem dX8_next_39 : decode cX8_next 39 = .ok (.ireturn, 1) := tb_d tk_X8_next_1 23 (39, .ireturn, 1) rfl
theorem dX8_next_40 : decode cX8_next 40 = .ok (.iinc 2 1, 3) := tb_d tk_X8_next_1 24 (40, .iinc 2 1, 3) rfl
theorem dX8_next_43 : decode cX8_next 43 = .ok (.goto (-30), 3) := tb_d tk_X8_next_1 25 (43, .goto (-30), 3) rfl
theorem dX8_next_46 : decode cX8_next 46 = .ok (.ldc 50, 2) := tb_d tk_X8_next_1 26 (46, .ldc 50, 2) rfl
theorem dX8_next_48 : decode cX8_next 48 = .ok (.ireturn, 1) := tb_d tk_X8_next_1 27 (48, .ireturn, 1) rfl
theorem ggX8_agreeing_X8_kindIn : GoodIn wsX8_agreeing wsX8_kindIn := fun w h => ⟨List.mem_cons_of_mem _ (List.mem_append_right _ (List.mem_append_right _ (List.mem_append_right _ (List.mem_append_right _ (List.mem_append_left _ h))))), good_of_word (gdX8_kindIn w h)⟩
set_option maxRecDepth 20000 in
theorem gX8_agreeing_X8_kindIn : GoodIn wsX8_agreeing (wsV RX8 165 RX8 yX8_kindIn wsX8_kindIn) := goodIn_app (a := bkV RX8 165 RX8 yX8_kindIn) (fun w h => ⟨List.mem_cons_of_mem _ (List.mem_append_right _ (List.mem_append_left _ h)), good_of_word (gd_bV _ _ _ _ w h)⟩) ggX8_agreeing_X8_kindIn
theorem ggX8_agreeing_X8_takesBy : GoodIn wsX8_agreeing wsX8_takesBy := fun w h => ⟨List.mem_cons_of_mem _ (List.mem_append_right _ (List.mem_append_right _ (List.mem_append_right _ (List.mem_append_right _ (List.mem_append_right _ (List.mem_append_left _ h)))))), good_of_word (gdX8_takesBy w h)⟩
set_option maxRecDepth 20000 in
theorem gX8_agreeing_X8_takesBy : GoodIn wsX8_agreeing (wsV RX8 168 RX8 yX8_takesBy wsX8_takesBy) := goodIn_app (a := bkV RX8 168 RX8 yX8_takesBy) (fun w h => ⟨List.mem_cons_of_mem _ (List.mem_append_right _ (List.mem_append_right _ (List.mem_append_left _ h))), good_of_word (gd_bV _ _ _ _ w h)⟩) ggX8_agreeing_X8_takesBy
def tb_X8_agreeing_1 : List (Nat × Instr × Nat) := [(0, .iconst 0, 1), (1, .istore_n 1, 1), (2, .iconst 0, 1), (3, .istore_n 2, 1), (4, .iload_n 2, 1), (5, .aload_n 0, 1), (6, .getfield 25, 3), (9, .iconst 3, 1), (10, .iaload, 1), (11, .if_icmp .ge 134, 3), (14, .iconst 1, 1), (15, .istore_n 3, 1), (16, .iconst 0, 1), (17, .istore 4, 2), (19, .iload 4, 2), (21, .aload_n 0, 1), (22, .getfield 25, 3), (25, .bipush 7, 2), (27, .iaload, 1), (28, .if_icmp .ge 97, 3), (31, .aload_n 0, 1), (32, .getfield 25, 3), (35, .bipush 38, 2), (37, .iconst 3, 1), (38, .iload 4, 2), (40, .imul, 1), (41, .iadd, 1), (42, .iconst 1, 1), (43, .iadd, 1), (44, .iaload, 1), (45, .iconst 1, 1), (46, .isub, 1), (47, .istore 5, 2), (49, .iload_n 3, 1), (50, .ifCond .eq 67, 3), (53, .iload 5, 2), (55, .ifCond .lt 58, 3), (58, .aload_n 0, 1), (59, .aload_n 0, 1), (60, .iload 5, 2)]
set_option maxRecDepth 100000 in
theorem tk_X8_agreeing_1 : (tb_X8_agreeing_1.all fun q => decide (decode cX8_agreeing q.1 = .ok q.2)) = true := by decide +kernel
theorem dX8_agreeing_0 : decode cX8_agreeing 0 = .ok (.iconst 0, 1) := tb_d tk_X8_agreeing_1 0 (0, .iconst 0, 1) rfl
theorem dX8_agreeing_1 : decode cX8_agreeing 1 = .ok (.istore_n 1, 1) := tb_d tk_X8_agreeing_1 1 (1, .istore_n 1, 1) rfl
theorem dX8_agreeing_2 : decode cX8_agreeing 2 = .ok (.iconst 0, 1) := tb_d tk_X8_agreeing_1 2 (2, .iconst 0, 1) rfl
theorem dX8_agreeing_3 : decode cX8_agreeing 3 = .ok (.istore_n 2, 1) := tb_d tk_X8_agreeing_1 3 (3, .istore_n 2, 1) rfl
theorem dX8_agreeing_4 : decode cX8_agreeing 4 = .ok (.iload_n 2, 1) := tb_d tk_X8_agreeing_1 4 (4, .iload_n 2, 1) rfl
theorem dX8_agreeing_5 : decode cX8_agreeing 5 = .ok (.aload_n 0, 1) := tb_d tk_X8_agreeing_1 5 (5, .aload_n 0, 1) rfl
theorem dX8_agreeing_6 : decode cX8_agreeing 6 = .ok (.getfield 25, 3) := tb_d tk_X8_agreeing_1 6 (6, .getfield 25, 3) rfl
theorem dX8_agreeing_9 : decode cX8_agreeing 9 = .ok (.iconst 3, 1) := tb_d tk_X8_agreeing_1 7 (9, .iconst 3, 1) rfl
theorem dX8_agreeing_10 : decode cX8_agreeing 10 = .ok (.iaload, 1) := tb_d tk_X8_agreeing_1 8 (10, .iaload, 1) rfl
theorem dX8_agreeing_11 : decode cX8_agreeing 11 = .ok (.if_icmp .ge 134, 3) := tb_d tk_X8_agreeing_1 9 (11, .if_icmp .ge 134, 3) rfl
theorem dX8_agreeing_14 : decode cX8_agreeing 14 = .ok (.iconst 1, 1) := tb_d tk_X8_agreeing_1 10 (14, .iconst 1, 1) rfl
theorem dX8_agreeing_15 : decode cX8_agreeing 15 = .ok (.istore_n 3, 1) := tb_d tk_X8_agreeing_1 11 (15, .istore_n 3, 1) rfl
theorem dX8_agreeing_16 : decode cX8_agreeing 16 = .ok (.iconst 0, 1) := tb_d tk_X8_agreeing_1 12 (16, .iconst 0, 1) rfl
theorem dX8_agreeing_17 : decode cX8_agreeing 17 = .ok (.istore 4, 2) := tb_d tk_X8_agreeing_1 13 (17, .istore 4, 2) rfl
theorem dX8_agreeing_19 : decode cX8_agreeing 19 = .ok (.iload 4, 2) := tb_d tk_X8_agreeing_1 14 (19, .iload 4, 2) rfl
theorem dX8_agreeing_21 : decode cX8_agreeing 21 = .ok (.aload_n 0, 1) := tb_d tk_X8_agreeing_1 15 (21, .aload_n 0, 1) rfl
theorem dX8_agreeing_22 : decode cX8_agreeing 22 = .ok (.getfield 25, 3) := tb_d tk_X8_agreeing_1 16 (22, .getfield 25, 3) rfl
theorem dX8_agreeing_25 : decode cX8_agreeing 25 = .ok (.bipush 7, 2) := tb_d tk_X8_agreeing_1 17 (25, .bipush 7, 2) rfl
theorem dX8_agreeing_27 : decode cX8_agreeing 27 = .ok (.iaload, 1) := tb_d tk_X8_agreeing_1 18 (27, .iaload, 1) rfl
theorem dX8_agreeing_28 : decode cX8_agreeing 28 = .ok (.if_icmp .ge 97, 3) := tb_d tk_X8_agreeing_1 19 (28, .if_icmp .ge 97, 3) rfl
theorem dX8_agreeing_31 : decode cX8_agreeing 31 = .ok (.aload_n 0, 1) := tb_d tk_X8_agreeing_1 20 (31, .aload_n 0, 1) rfl
theorem dX8_agreeing_32 : decode cX8_agreeing 32 = .ok (.getfield 25, 3) := tb_d tk_X8_agreeing_1 21 (32, .getfield 25, 3) rfl
theorem dX8_agreeing_35 : decode cX8_agreeing 35 = .ok (.bipush 38, 2) := tb_d tk_X8_agreeing_1 22 (35, .bipush 38, 2) rfl
theorem dX8_agreeing_37 : decode cX8_agreeing 37 = .ok (.iconst 3, 1) := tb_d tk_X8_agreeing_1 23 (37, .iconst 3, 1) rfl
theorem dX8_agreeing_38 : decode cX8_agreeing 38 = .ok (.iload 4, 2) := tb_d tk_X8_agreeing_1 24 (38, .iload 4, 2) rfl
theorem dX8_agreeing_40 : decode cX8_agreeing 40 = .ok (.imul, 1) := tb_d tk_X8_agreeing_1 25 (40, .imul, 1) rfl
theorem dX8_agreeing_41 : decode cX8_agreeing 41 = .ok (.iadd, 1) := tb_d tk_X8_agreeing_1 26 (41, .iadd, 1) rfl
theorem dX8_agreeing_42 : decode cX8_agreeing 42 = .ok (.iconst 1, 1) := tb_d tk_X8_agreeing_1 27 (42, .iconst 1, 1) rfl
theorem dX8_agreeing_43 : decode cX8_agreeing 43 = .ok (.iadd, 1) := tb_d tk_X8_agreeing_1 28 (43, .iadd, 1) rfl
theorem dX8_agreeing_44 : decode cX8_agreeing 44 = .ok (.iaload, 1) := tb_d tk_X8_agreeing_1 29 (44, .iaload, 1) rfl
theorem dX8_agreeing_45 : decode cX8_agreeing 45 = .ok (.iconst 1, 1) := tb_d tk_X8_agreeing_1 30 (45, .iconst 1, 1) rfl
theorem dX8_agreeing_46 : decode cX8_agreeing 46 = .ok (.isub, 1) := tb_d tk_X8_agreeing_1 31 (46, .isub, 1) rfl
theorem dX8_agreeing_47 : decode cX8_agreeing 47 = .ok (.istore 5, 2) := tb_d tk_X8_agreeing_1 32 (47, .istore 5, 2) rfl
theorem dX8_agreeing_49 : decode cX8_agreeing 49 = .ok (.iload_n 3, 1) := tb_d tk_X8_agreeing_1 33 (49, .iload_n 3, 1) rfl
theorem dX8_agreeing_50 : decode cX8_agreeing 50 = .ok (.ifCond .eq 67, 3) := tb_d tk_X8_agreeing_1 34 (50, .ifCond .eq 67, 3) rfl
theorem dX8_agreeing_53 : decode cX8_agreeing 53 = .ok (.iload 5, 2) := tb_d tk_X8_agreeing_1 35 (53, .iload 5, 2) rfl
theorem dX8_agreeing_55 : decode cX8_agreeing 55 = .ok (.ifCond .lt 58, 3) := tb_d tk_X8_agreeing_1 36 (55, .ifCond .lt 58, 3) rfl
theorem dX8_agreeing_58 : decode cX8_agreeing 58 = .ok (.aload_n 0, 1) := tb_d tk_X8_agreeing_1 37 (58, .aload_n 0, 1) rfl
theorem dX8_agreeing_59 : decode cX8_agreeing 59 = .ok (.aload_n 0, 1) := tb_d tk_X8_agreeing_1 38 (59, .aload_n 0, 1) rfl
theorem dX8_agreeing_60 : decode cX8_agreeing 60 = .ok (.iload 5, 2) := tb_d tk_X8_agreeing_1 39 (60, .iload 5, 2) rfl
def tb_X8_agreeing_2 : List (Nat × Instr × Nat) := [(62, .invokevirtual 165, 3), (65, .aload_n 0, 1), (66, .getfield 25, 3), (69, .bipush 38, 2), (71, .iconst 3, 1), (72, .iload 4, 2), (74, .imul, 1), (75, .iadd, 1), (76, .iaload, 1), (77, .iload_n 2, 1), (78, .aload_n 0, 1), (79, .getfield 25, 3), (82, .iconst 5, 1), (83, .iaload, 1), (84, .invokevirtual 168, 3), (87, .aload_n 0, 1), (88, .getfield 25, 3), (91, .bipush 38, 2), (93, .iconst 3, 1), (94, .iload 4, 2), (96, .imul, 1), (97, .iadd, 1), (98, .iconst 2, 1), (99, .iadd, 1), (100, .iaload, 1), (101, .iconst 1, 1), (102, .if_icmp .ne 7, 3), (105, .iconst 1, 1), (106, .goto 4, 3), (109, .iconst 0, 1), (110, .if_icmp .ne 7, 3), (113, .iconst 1, 1), (114, .goto 4, 3), (117, .iconst 0, 1), (118, .istore_n 3, 1), (119, .iinc 4 1, 3), (122, .goto (-103), 3), (125, .iload_n 1, 1), (126, .iload_n 3, 1), (127, .ifCond .eq 9, 3)]
set_option maxRecDepth 100000 in
theorem tk_X8_agreeing_2 : (tb_X8_agreeing_2.all fun q => decide (decode cX8_agreeing q.1 = .ok q.2)) = true := by decide +kernel
theorem dX8_agreeing_62 : decode cX8_agreeing 62 = .ok (.invokevirtual 165, 3) := tb_d tk_X8_agreeing_2 0 (62, .invokevirtual 165, 3) rfl
theorem dX8_agreeing_65 : decode cX8_agreeing 65 = .ok (.aload_n 0, 1) := tb_d tk_X8_agreeing_2 1 (65, .aload_n 0, 1) rfl
theorem dX8_agreeing_66 : decode cX8_agreeing 66 = .ok (.getfield 25, 3) := tb_d tk_X8_agreeing_2 2 (66, .getfield 25, 3) rfl
theorem dX8_agreeing_69 : decode cX8_agreeing 69 = .ok (.bipush 38, 2) := tb_d tk_X8_agreeing_2 3 (69, .bipush 38, 2) rfl
theorem dX8_agreeing_71 : decode cX8_agreeing 71 = .ok (.iconst 3, 1) := tb_d tk_X8_agreeing_2 4 (71, .iconst 3, 1) rfl
theorem dX8_agreeing_72 : decode cX8_agreeing 72 = .ok (.iload 4, 2) := tb_d tk_X8_agreeing_2 5 (72, .iload 4, 2) rfl
theorem dX8_agreeing_74 : decode cX8_agreeing 74 = .ok (.imul, 1) := tb_d tk_X8_agreeing_2 6 (74, .imul, 1) rfl
theorem dX8_agreeing_75 : decode cX8_agreeing 75 = .ok (.iadd, 1) := tb_d tk_X8_agreeing_2 7 (75, .iadd, 1) rfl
theorem dX8_agreeing_76 : decode cX8_agreeing 76 = .ok (.iaload, 1) := tb_d tk_X8_agreeing_2 8 (76, .iaload, 1) rfl
theorem dX8_agreeing_77 : decode cX8_agreeing 77 = .ok (.iload_n 2, 1) := tb_d tk_X8_agreeing_2 9 (77, .iload_n 2, 1) rfl
theorem dX8_agreeing_78 : decode cX8_agreeing 78 = .ok (.aload_n 0, 1) := tb_d tk_X8_agreeing_2 10 (78, .aload_n 0, 1) rfl
theorem dX8_agreeing_79 : decode cX8_agreeing 79 = .ok (.getfield 25, 3) := tb_d tk_X8_agreeing_2 11 (79, .getfield 25, 3) rfl
theorem dX8_agreeing_82 : decode cX8_agreeing 82 = .ok (.iconst 5, 1) := tb_d tk_X8_agreeing_2 12 (82, .iconst 5, 1) rfl
theorem dX8_agreeing_83 : decode cX8_agreeing 83 = .ok (.iaload, 1) := tb_d tk_X8_agreeing_2 13 (83, .iaload, 1) rfl
theorem dX8_agreeing_84 : decode cX8_agreeing 84 = .ok (.invokevirtual 168, 3) := tb_d tk_X8_agreeing_2 14 (84, .invokevirtual 168, 3) rfl
theorem dX8_agreeing_87 : decode cX8_agreeing 87 = .ok (.aload_n 0, 1) := tb_d tk_X8_agreeing_2 15 (87, .aload_n 0, 1) rfl
theorem dX8_agreeing_88 : decode cX8_agreeing 88 = .ok (.getfield 25, 3) := tb_d tk_X8_agreeing_2 16 (88, .getfield 25, 3) rfl
theorem dX8_agreeing_91 : decode cX8_agreeing 91 = .ok (.bipush 38, 2) := tb_d tk_X8_agreeing_2 17 (91, .bipush 38, 2) rfl
theorem dX8_agreeing_93 : decode cX8_agreeing 93 = .ok (.iconst 3, 1) := tb_d tk_X8_agreeing_2 18 (93, .iconst 3, 1) rfl
theorem dX8_agreeing_94 : decode cX8_agreeing 94 = .ok (.iload 4, 2) := tb_d tk_X8_agreeing_2 19 (94, .iload 4, 2) rfl
theorem dX8_agreeing_96 : decode cX8_agreeing 96 = .ok (.imul, 1) := tb_d tk_X8_agreeing_2 20 (96, .imul, 1) rfl
theorem dX8_agreeing_97 : decode cX8_agreeing 97 = .ok (.iadd, 1) := tb_d tk_X8_agreeing_2 21 (97, .iadd, 1) rfl
theorem dX8_agreeing_98 : decode cX8_agreeing 98 = .ok (.iconst 2, 1) := tb_d tk_X8_agreeing_2 22 (98, .iconst 2, 1) rfl
theorem dX8_agreeing_99 : decode cX8_agreeing 99 = .ok (.iadd, 1) := tb_d tk_X8_agreeing_2 23 (99, .iadd, 1) rfl
theorem dX8_agreeing_100 : decode cX8_agreeing 100 = .ok (.iaload, 1) := tb_d tk_X8_agreeing_2 24 (100, .iaload, 1) rfl
theorem dX8_agreeing_101 : decode cX8_agreeing 101 = .ok (.iconst 1, 1) := tb_d tk_X8_agreeing_2 25 (101, .iconst 1, 1) rfl
theorem dX8_agreeing_102 : decode cX8_agreeing 102 = .ok (.if_icmp .ne 7, 3) := tb_d tk_X8_agreeing_2 26 (102, .if_icmp .ne 7, 3) rfl
theorem dX8_agreeing_105 : decode cX8_agreeing 105 = .ok (.iconst 1, 1) := tb_d tk_X8_agreeing_2 27 (105, .iconst 1, 1) rfl
theorem dX8_agreeing_106 : decode cX8_agreeing 106 = .ok (.goto 4, 3) := tb_d tk_X8_agreeing_2 28 (106, .goto 4, 3) rfl
theorem dX8_agreeing_109 : decode cX8_agreeing 109 = .ok (.iconst 0, 1) := tb_d tk_X8_agreeing_2 29 (109, .iconst 0, 1) rfl
theorem dX8_agreeing_110 : decode cX8_agreeing 110 = .ok (.if_icmp .ne 7, 3) := tb_d tk_X8_agreeing_2 30 (110, .if_icmp .ne 7, 3) rfl
theorem dX8_agreeing_113 : decode cX8_agreeing 113 = .ok (.iconst 1, 1) := tb_d tk_X8_agreeing_2 31 (113, .iconst 1, 1) rfl
theorem dX8_agreeing_114 : decode cX8_agreeing 114 = .ok (.goto 4, 3) := tb_d tk_X8_agreeing_2 32 (114, .goto 4, 3) rfl
theorem dX8_agreeing_117 : decode cX8_agreeing 117 = .ok (.iconst 0, 1) := tb_d tk_X8_agreeing_2 33 (117, .iconst 0, 1) rfl
theorem dX8_agreeing_118 : decode cX8_agreeing 118 = .ok (.istore_n 3, 1) := tb_d tk_X8_agreeing_2 34 (118, .istore_n 3, 1) rfl
theorem dX8_agreeing_119 : decode cX8_agreeing 119 = .ok (.iinc 4 1, 3) := tb_d tk_X8_agreeing_2 35 (119, .iinc 4 1, 3) rfl
theorem dX8_agreeing_122 : decode cX8_agreeing 122 = .ok (.goto (-103), 3) := tb_d tk_X8_agreeing_2 36 (122, .goto (-103), 3) rfl
theorem dX8_agreeing_125 : decode cX8_agreeing 125 = .ok (.iload_n 1, 1) := tb_d tk_X8_agreeing_2 37 (125, .iload_n 1, 1) rfl
theorem dX8_agreeing_126 : decode cX8_agreeing 126 = .ok (.iload_n 3, 1) := tb_d tk_X8_agreeing_2 38 (126, .iload_n 3, 1) rfl
theorem dX8_agreeing_127 : decode cX8_agreeing 127 = .ok (.ifCond .eq 9, 3) := tb_d tk_X8_agreeing_2 39 (127, .ifCond .eq 9, 3) rfl
def tb_X8_agreeing_3 : List (Nat × Instr × Nat) := [(130, .iconst 1, 1), (131, .iload_n 2, 1), (132, .ishl, 1), (133, .goto 4, 3), (136, .iconst 0, 1), (137, .ior, 1), (138, .istore_n 1, 1), (139, .iinc 2 1, 3), (142, .goto (-138), 3), (145, .iload_n 1, 1), (146, .ireturn, 1)]
set_option maxRecDepth 100000 in
theorem tk_X8_agreeing_3 : (tb_X8_agreeing_3.all fun q => decide (decode cX8_agreeing q.1 = .ok q.2)) = true := by decide +kernel
theorem dX8_agreeing_130 : decode cX8_agreeing 130 = .ok (.iconst 1, 1) := tb_d tk_X8_agreeing_3 0 (130, .iconst 1, 1) rfl
theorem dX8_agreeing_131 : decode cX8_agreeing 131 = .ok (.iload_n 2, 1) := tb_d tk_X8_agreeing_3 1 (131, .iload_n 2, 1) rfl
theorem dX8_agreeing_132 : decode cX8_agreeing 132 = .ok (.ishl, 1) := tb_d tk_X8_agreeing_3 2 (132, .ishl, 1) rfl
theorem dX8_agreeing_133 : decode cX8_agreeing 133 = .ok (.goto 4, 3) := tb_d tk_X8_agreeing_3 3 (133, .goto 4, 3) rfl
theorem dX8_agreeing_136 : decode cX8_agreeing 136 = .ok (.iconst 0, 1) := tb_d tk_X8_agreeing_3 4 (136, .iconst 0, 1) rfl
theorem dX8_agreeing_137 : decode cX8_agreeing 137 = .ok (.ior, 1) := tb_d tk_X8_agreeing_3 5 (137, .ior, 1) rfl
theorem dX8_agreeing_138 : decode cX8_agreeing 138 = .ok (.istore_n 1, 1) := tb_d tk_X8_agreeing_3 6 (138, .istore_n 1, 1) rfl
theorem dX8_agreeing_139 : decode cX8_agreeing 139 = .ok (.iinc 2 1, 3) := tb_d tk_X8_agreeing_3 7 (139, .iinc 2 1, 3) rfl
theorem dX8_agreeing_142 : decode cX8_agreeing 142 = .ok (.goto (-138), 3) := tb_d tk_X8_agreeing_3 8 (142, .goto (-138), 3) rfl
theorem dX8_agreeing_145 : decode cX8_agreeing 145 = .ok (.iload_n 1, 1) := tb_d tk_X8_agreeing_3 9 (145, .iload_n 1, 1) rfl
theorem dX8_agreeing_146 : decode cX8_agreeing 146 = .ok (.ireturn, 1) := tb_d tk_X8_agreeing_3 10 (146, .ireturn, 1) rfl
theorem ggX8_agree_X8_isGate : GoodIn wsX8_agree wsX8_isGate := fun w h => ⟨List.mem_cons_of_mem _ (List.mem_append_right _ (List.mem_append_right _ (List.mem_append_right _ (List.mem_append_right _ (List.mem_append_left _ h))))), good_of_word (gdX8_isGate w h)⟩
set_option maxRecDepth 20000 in
theorem gX8_agree_X8_isGate : GoodIn wsX8_agree (wsV RX8 180 RX8 yX8_isGate wsX8_isGate) := goodIn_app (a := bkV RX8 180 RX8 yX8_isGate) (fun w h => ⟨List.mem_cons_of_mem _ (List.mem_append_right _ (List.mem_append_left _ h)), good_of_word (gd_bV _ _ _ _ w h)⟩) ggX8_agree_X8_isGate
theorem ggX8_agree_X8_agreeing : GoodIn wsX8_agree wsX8_agreeing := fun w h => ⟨List.mem_cons_of_mem _ (List.mem_append_right _ (List.mem_append_right _ (List.mem_append_right _ (List.mem_append_right _ (List.mem_append_right _ (List.mem_append_left _ h)))))), good_of_word (gdX8_agreeing w h)⟩
set_option maxRecDepth 20000 in
theorem gX8_agree_X8_agreeing : GoodIn wsX8_agree (wsV RX8 214 RX8 yX8_agreeing wsX8_agreeing) := goodIn_app (a := bkV RX8 214 RX8 yX8_agreeing) (fun w h => ⟨List.mem_cons_of_mem _ (List.mem_append_right _ (List.mem_append_right _ (List.mem_append_left _ h))), good_of_word (gd_bV _ _ _ _ w h)⟩) ggX8_agree_X8_agreeing
def tb_X8_agree_1 : List (Nat × Instr × Nat) := [(0, .aload_n 0, 1), (1, .invokevirtual 180, 3), (4, .ifCond .eq 10, 3), (7, .aload_n 0, 1), (8, .invokevirtual 214, 3), (11, .goto 5, 3), (14, .ldc 183, 2), (16, .ireturn, 1)]
set_option maxRecDepth 100000 in
theorem tk_X8_agree_1 : (tb_X8_agree_1.all fun q => decide (decode cX8_agree q.1 = .ok q.2)) = true := by decide +kernel
theorem dX8_agree_0 : decode cX8_agree 0 = .ok (.aload_n 0, 1) := tb_d tk_X8_agree_1 0 (0, .aload_n 0, 1) rfl
theorem dX8_agree_1 : decode cX8_agree 1 = .ok (.invokevirtual 180, 3) := tb_d tk_X8_agree_1 1 (1, .invokevirtual 180, 3) rfl
theorem dX8_agree_4 : decode cX8_agree 4 = .ok (.ifCond .eq 10, 3) := tb_d tk_X8_agree_1 2 (4, .ifCond .eq 10, 3) rfl
theorem dX8_agree_7 : decode cX8_agree 7 = .ok (.aload_n 0, 1) := tb_d tk_X8_agree_1 3 (7, .aload_n 0, 1) rfl
theorem dX8_agree_8 : decode cX8_agree 8 = .ok (.invokevirtual 214, 3) := tb_d tk_X8_agree_1 4 (8, .invokevirtual 214, 3) rfl
theorem dX8_agree_11 : decode cX8_agree 11 = .ok (.goto 5, 3) := tb_d tk_X8_agree_1 5 (11, .goto 5, 3) rfl
theorem dX8_agree_14 : decode cX8_agree 14 = .ok (.ldc 183, 2) := tb_d tk_X8_agree_1 6 (14, .ldc 183, 2) rfl
theorem dX8_agree_16 : decode cX8_agree 16 = .ok (.ireturn, 1) := tb_d tk_X8_agree_1 7 (16, .ireturn, 1) rfl
theorem ggX8_takenOf_X8_has : GoodIn wsX8_takenOf wsX8_has := fun w h => ⟨List.mem_cons_of_mem _ (List.mem_append_right _ (List.mem_append_right _ (List.mem_append_right _ (List.mem_append_right _ (List.mem_append_left _ h))))), good_of_word (gdX8_has w h)⟩
set_option maxRecDepth 20000 in
theorem gX8_takenOf_X8_has : GoodIn wsX8_takenOf (va_wsS RX8 161 yX8_has wsX8_has) := goodIn_app (a := bkS RX8 161 yX8_has) (fun w h => ⟨List.mem_cons_of_mem _ (List.mem_append_right _ (List.mem_append_left _ h)), good_of_word (gd_bS _ _ _ w h)⟩) ggX8_takenOf_X8_has
theorem ggX8_takenOf_X8_isTaken : GoodIn wsX8_takenOf wsX8_isTaken := fun w h => ⟨List.mem_cons_of_mem _ (List.mem_append_right _ (List.mem_append_right _ (List.mem_append_right _ (List.mem_append_right _ (List.mem_append_right _ (List.mem_append_left _ h)))))), good_of_word (gdX8_isTaken w h)⟩
set_option maxRecDepth 20000 in
theorem gX8_takenOf_X8_isTaken : GoodIn wsX8_takenOf (wsV RX8 176 RX8 yX8_isTaken wsX8_isTaken) := goodIn_app (a := bkV RX8 176 RX8 yX8_isTaken) (fun w h => ⟨List.mem_cons_of_mem _ (List.mem_append_right _ (List.mem_append_right _ (List.mem_append_left _ h))), good_of_word (gd_bV _ _ _ _ w h)⟩) ggX8_takenOf_X8_isTaken
def tb_X8_takenOf_1 : List (Nat × Instr × Nat) := [(0, .iconst 0, 1), (1, .istore 4, 2), (3, .iconst 0, 1), (4, .istore 5, 2), (6, .iload 5, 2), (8, .aload_n 0, 1), (9, .getfield 25, 3), (12, .iconst 3, 1), (13, .iaload, 1), (14, .if_icmp .ge 55, 3), (17, .iload 4, 2), (19, .iload_n 1, 1), (20, .iload 5, 2), (22, .invokestatic 161, 3), (25, .ifCond .eq 34, 3), (28, .aload_n 0, 1), (29, .iload_n 2, 1), (30, .iload_n 3, 1), (31, .aload_n 0, 1), (32, .getfield 25, 3), (35, .iconst 5, 1), (36, .iaload, 1), (37, .aload_n 0, 1), (38, .getfield 25, 3), (41, .bipush 6, 2), (43, .iaload, 1), (44, .iload 5, 2), (46, .invokevirtual 176, 3), (49, .ifCond .eq 10, 3), (52, .iconst 1, 1), (53, .iload 5, 2), (55, .ishl, 1), (56, .goto 4, 3), (59, .iconst 0, 1), (60, .ior, 1), (61, .istore 4, 2), (63, .iinc 5 1, 3), (66, .goto (-60), 3), (69, .iload 4, 2), (71, .ireturn, 1)]
set_option maxRecDepth 100000 in
theorem tk_X8_takenOf_1 : (tb_X8_takenOf_1.all fun q => decide (decode cX8_takenOf q.1 = .ok q.2)) = true := by decide +kernel
theorem dX8_takenOf_0 : decode cX8_takenOf 0 = .ok (.iconst 0, 1) := tb_d tk_X8_takenOf_1 0 (0, .iconst 0, 1) rfl
theorem dX8_takenOf_1 : decode cX8_takenOf 1 = .ok (.istore 4, 2) := tb_d tk_X8_takenOf_1 1 (1, .istore 4, 2) rfl
theorem dX8_takenOf_3 : decode cX8_takenOf 3 = .ok (.iconst 0, 1) := tb_d tk_X8_takenOf_1 2 (3, .iconst 0, 1) rfl
theorem dX8_takenOf_4 : decode cX8_takenOf 4 = .ok (.istore 5, 2) := tb_d tk_X8_takenOf_1 3 (4, .istore 5, 2) rfl
theorem dX8_takenOf_6 : decode cX8_takenOf 6 = .ok (.iload 5, 2) := tb_d tk_X8_takenOf_1 4 (6, .iload 5, 2) rfl
theorem dX8_takenOf_8 : decode cX8_takenOf 8 = .ok (.aload_n 0, 1) := tb_d tk_X8_takenOf_1 5 (8, .aload_n 0, 1) rfl
theorem dX8_takenOf_9 : decode cX8_takenOf 9 = .ok (.getfield 25, 3) := tb_d tk_X8_takenOf_1 6 (9, .getfield 25, 3) rfl
theorem dX8_takenOf_12 : decode cX8_takenOf 12 = .ok (.iconst 3, 1) := tb_d tk_X8_takenOf_1 7 (12, .iconst 3, 1) rfl
theorem dX8_takenOf_13 : decode cX8_takenOf 13 = .ok (.iaload, 1) := tb_d tk_X8_takenOf_1 8 (13, .iaload, 1) rfl
theorem dX8_takenOf_14 : decode cX8_takenOf 14 = .ok (.if_icmp .ge 55, 3) := tb_d tk_X8_takenOf_1 9 (14, .if_icmp .ge 55, 3) rfl
theorem dX8_takenOf_17 : decode cX8_takenOf 17 = .ok (.iload 4, 2) := tb_d tk_X8_takenOf_1 10 (17, .iload 4, 2) rfl
theorem dX8_takenOf_19 : decode cX8_takenOf 19 = .ok (.iload_n 1, 1) := tb_d tk_X8_takenOf_1 11 (19, .iload_n 1, 1) rfl
theorem dX8_takenOf_20 : decode cX8_takenOf 20 = .ok (.iload 5, 2) := tb_d tk_X8_takenOf_1 12 (20, .iload 5, 2) rfl
theorem dX8_takenOf_22 : decode cX8_takenOf 22 = .ok (.invokestatic 161, 3) := tb_d tk_X8_takenOf_1 13 (22, .invokestatic 161, 3) rfl
theorem dX8_takenOf_25 : decode cX8_takenOf 25 = .ok (.ifCond .eq 34, 3) := tb_d tk_X8_takenOf_1 14 (25, .ifCond .eq 34, 3) rfl
theorem dX8_takenOf_28 : decode cX8_takenOf 28 = .ok (.aload_n 0, 1) := tb_d tk_X8_takenOf_1 15 (28, .aload_n 0, 1) rfl
theorem dX8_takenOf_29 : decode cX8_takenOf 29 = .ok (.iload_n 2, 1) := tb_d tk_X8_takenOf_1 16 (29, .iload_n 2, 1) rfl
theorem dX8_takenOf_30 : decode cX8_takenOf 30 = .ok (.iload_n 3, 1) := tb_d tk_X8_takenOf_1 17 (30, .iload_n 3, 1) rfl
theorem dX8_takenOf_31 : decode cX8_takenOf 31 = .ok (.aload_n 0, 1) := tb_d tk_X8_takenOf_1 18 (31, .aload_n 0, 1) rfl
theorem dX8_takenOf_32 : decode cX8_takenOf 32 = .ok (.getfield 25, 3) := tb_d tk_X8_takenOf_1 19 (32, .getfield 25, 3) rfl
theorem dX8_takenOf_35 : decode cX8_takenOf 35 = .ok (.iconst 5, 1) := tb_d tk_X8_takenOf_1 20 (35, .iconst 5, 1) rfl
theorem dX8_takenOf_36 : decode cX8_takenOf 36 = .ok (.iaload, 1) := tb_d tk_X8_takenOf_1 21 (36, .iaload, 1) rfl
theorem dX8_takenOf_37 : decode cX8_takenOf 37 = .ok (.aload_n 0, 1) := tb_d tk_X8_takenOf_1 22 (37, .aload_n 0, 1) rfl
theorem dX8_takenOf_38 : decode cX8_takenOf 38 = .ok (.getfield 25, 3) := tb_d tk_X8_takenOf_1 23 (38, .getfield 25, 3) rfl
theorem dX8_takenOf_41 : decode cX8_takenOf 41 = .ok (.bipush 6, 2) := tb_d tk_X8_takenOf_1 24 (41, .bipush 6, 2) rfl
theorem dX8_takenOf_43 : decode cX8_takenOf 43 = .ok (.iaload, 1) := tb_d tk_X8_takenOf_1 25 (43, .iaload, 1) rfl
theorem dX8_takenOf_44 : decode cX8_takenOf 44 = .ok (.iload 5, 2) := tb_d tk_X8_takenOf_1 26 (44, .iload 5, 2) rfl
theorem dX8_takenOf_46 : decode cX8_takenOf 46 = .ok (.invokevirtual 176, 3) := tb_d tk_X8_takenOf_1 27 (46, .invokevirtual 176, 3) rfl
theorem dX8_takenOf_49 : decode cX8_takenOf 49 = .ok (.ifCond .eq 10, 3) := tb_d tk_X8_takenOf_1 28 (49, .ifCond .eq 10, 3) rfl
theorem dX8_takenOf_52 : decode cX8_takenOf 52 = .ok (.iconst 1, 1) := tb_d tk_X8_takenOf_1 29 (52, .iconst 1, 1) rfl
theorem dX8_takenOf_53 : decode cX8_takenOf 53 = .ok (.iload 5, 2) := tb_d tk_X8_takenOf_1 30 (53, .iload 5, 2) rfl
theorem dX8_takenOf_55 : decode cX8_takenOf 55 = .ok (.ishl, 1) := tb_d tk_X8_takenOf_1 31 (55, .ishl, 1) rfl
theorem dX8_takenOf_56 : decode cX8_takenOf 56 = .ok (.goto 4, 3) := tb_d tk_X8_takenOf_1 32 (56, .goto 4, 3) rfl
theorem dX8_takenOf_59 : decode cX8_takenOf 59 = .ok (.iconst 0, 1) := tb_d tk_X8_takenOf_1 33 (59, .iconst 0, 1) rfl
theorem dX8_takenOf_60 : decode cX8_takenOf 60 = .ok (.ior, 1) := tb_d tk_X8_takenOf_1 34 (60, .ior, 1) rfl
theorem dX8_takenOf_61 : decode cX8_takenOf 61 = .ok (.istore 4, 2) := tb_d tk_X8_takenOf_1 35 (61, .istore 4, 2) rfl
theorem dX8_takenOf_63 : decode cX8_takenOf 63 = .ok (.iinc 5 1, 3) := tb_d tk_X8_takenOf_1 36 (63, .iinc 5 1, 3) rfl
theorem dX8_takenOf_66 : decode cX8_takenOf 66 = .ok (.goto (-60), 3) := tb_d tk_X8_takenOf_1 37 (66, .goto (-60), 3) rfl
theorem dX8_takenOf_69 : decode cX8_takenOf 69 = .ok (.iload 4, 2) := tb_d tk_X8_takenOf_1 38 (69, .iload 4, 2) rfl
theorem dX8_takenOf_71 : decode cX8_takenOf 71 = .ok (.ireturn, 1) := tb_d tk_X8_takenOf_1 39 (71, .ireturn, 1) rfl
theorem ggX8_man_X8_isGate : GoodIn wsX8_man wsX8_isGate := fun w h => ⟨List.mem_cons_of_mem _ (List.mem_append_right _ (List.mem_append_right _ (List.mem_append_right _ (List.mem_append_right _ (List.mem_append_right _ (List.mem_append_right _ (List.mem_append_right _ (List.mem_append_left _ h)))))))), good_of_word (gdX8_isGate w h)⟩
set_option maxRecDepth 20000 in
theorem gX8_man_X8_isGate : GoodIn wsX8_man (wsV RX8 180 RX8 yX8_isGate wsX8_isGate) := goodIn_app (a := bkV RX8 180 RX8 yX8_isGate) (fun w h => ⟨List.mem_cons_of_mem _ (List.mem_append_right _ (List.mem_append_left _ h)), good_of_word (gd_bV _ _ _ _ w h)⟩) ggX8_man_X8_isGate
theorem ggX8_man_X8_in : GoodIn wsX8_man wsX8_in := fun w h => ⟨List.mem_cons_of_mem _ (List.mem_append_right _ (List.mem_append_right _ (List.mem_append_right _ (List.mem_append_right _ (List.mem_append_right _ (List.mem_append_right _ (List.mem_append_right _ (List.mem_append_right _ (List.mem_append_left _ h))))))))), good_of_word (gdX8_in w h)⟩
set_option maxRecDepth 20000 in
theorem gX8_man_X8_in : GoodIn wsX8_man (va_wsS RX8 56 yX8_in wsX8_in) := goodIn_app (a := bkS RX8 56 yX8_in) (fun w h => ⟨List.mem_cons_of_mem _ (List.mem_append_right _ (List.mem_append_right _ (List.mem_append_left _ h))), good_of_word (gd_bS _ _ _ w h)⟩) ggX8_man_X8_in
theorem ggX8_man_X8_agreeing : GoodIn wsX8_man wsX8_agreeing := fun w h => ⟨List.mem_cons_of_mem _ (List.mem_append_right _ (List.mem_append_right _ (List.mem_append_right _ (List.mem_append_right _ (List.mem_append_right _ (List.mem_append_right _ (List.mem_append_right _ (List.mem_append_right _ (List.mem_append_right _ (List.mem_append_left _ h)))))))))), good_of_word (gdX8_agreeing w h)⟩
set_option maxRecDepth 20000 in
theorem gX8_man_X8_agreeing : GoodIn wsX8_man (wsV RX8 214 RX8 yX8_agreeing wsX8_agreeing) := goodIn_app (a := bkV RX8 214 RX8 yX8_agreeing) (fun w h => ⟨List.mem_cons_of_mem _ (List.mem_append_right _ (List.mem_append_right _ (List.mem_append_right _ (List.mem_append_left _ h)))), good_of_word (gd_bV _ _ _ _ w h)⟩) ggX8_man_X8_agreeing
theorem ggX8_man_X8_ones : GoodIn wsX8_man wsX8_ones := fun w h => ⟨List.mem_cons_of_mem _ (List.mem_append_right _ (List.mem_append_right _ (List.mem_append_right _ (List.mem_append_right _ (List.mem_append_right _ (List.mem_append_right _ (List.mem_append_right _ (List.mem_append_right _ (List.mem_append_right _ (List.mem_append_right _ (List.mem_append_left _ h))))))))))), good_of_word (gdX8_ones w h)⟩
set_option maxRecDepth 20000 in
theorem gX8_man_X8_ones : GoodIn wsX8_man (va_wsS RX8 217 yX8_ones wsX8_ones) := goodIn_app (a := bkS RX8 217 yX8_ones) (fun w h => ⟨List.mem_cons_of_mem _ (List.mem_append_right _ (List.mem_append_right _ (List.mem_append_right _ (List.mem_append_right _ (List.mem_append_left _ h))))), good_of_word (gd_bS _ _ _ w h)⟩) ggX8_man_X8_ones
theorem ggX8_man_X8_takenOf : GoodIn wsX8_man wsX8_takenOf := fun w h => ⟨List.mem_cons_of_mem _ (List.mem_append_right _ (List.mem_append_right _ (List.mem_append_right _ (List.mem_append_right _ (List.mem_append_right _ (List.mem_append_right _ (List.mem_append_right _ (List.mem_append_right _ (List.mem_append_right _ (List.mem_append_right _ (List.mem_append_right _ (List.mem_append_left _ h)))))))))))), good_of_word (gdX8_takenOf w h)⟩
set_option maxRecDepth 20000 in
theorem gX8_man_X8_takenOf : GoodIn wsX8_man (wsV RX8 220 RX8 yX8_takenOf wsX8_takenOf) := goodIn_app (a := bkV RX8 220 RX8 yX8_takenOf) (fun w h => ⟨List.mem_cons_of_mem _ (List.mem_append_right _ (List.mem_append_right _ (List.mem_append_right _ (List.mem_append_right _ (List.mem_append_right _ (List.mem_append_left _ h)))))), good_of_word (gd_bV _ _ _ _ w h)⟩) ggX8_man_X8_takenOf
def tb_X8_man_1 : List (Nat × Instr × Nat) := [(0, .aload_n 0, 1), (1, .invokevirtual 180, 3), (4, .ifCond .ne 6, 3), (7, .ldc 183, 2), (9, .ireturn, 1), (10, .iload_n 1, 1), (11, .iconst 0, 1), (12, .iconst 2, 1), (13, .invokestatic 56, 3), (16, .ifCond .ne 6, 3), (19, .ldc 64, 2), (21, .ireturn, 1), (22, .aload_n 0, 1), (23, .invokevirtual 214, 3), (26, .istore_n 2, 1), (27, .iload_n 2, 1), (28, .invokestatic 217, 3), (31, .istore_n 3, 1), (32, .iconst 0, 1), (33, .istore 4, 2), (35, .iconst 0, 1), (36, .istore 5, 2), (38, .bipush 9, 2), (40, .istore 6, 2), (42, .iconst 0, 1), (43, .istore 7, 2), (45, .iload 7, 2), (47, .aload_n 0, 1), (48, .getfield 25, 3), (51, .iconst 3, 1), (52, .iaload, 1), (53, .if_icmp .ge 107, 3), (56, .iconst 0, 1), (57, .istore 8, 2), (59, .iload 8, 2), (61, .bipush 6, 2), (63, .if_icmp .ge 91, 3), (66, .aload_n 0, 1), (67, .iload_n 2, 1), (68, .iload 7, 2)]
set_option maxRecDepth 100000 in
theorem tk_X8_man_1 : (tb_X8_man_1.all fun q => decide (decode cX8_man q.1 = .ok q.2)) = true := by decide +kernel
theorem dX8_man_0 : decode cX8_man 0 = .ok (.aload_n 0, 1) := tb_d tk_X8_man_1 0 (0, .aload_n 0, 1) rfl
theorem dX8_man_1 : decode cX8_man 1 = .ok (.invokevirtual 180, 3) := tb_d tk_X8_man_1 1 (1, .invokevirtual 180, 3) rfl
theorem dX8_man_4 : decode cX8_man 4 = .ok (.ifCond .ne 6, 3) := tb_d tk_X8_man_1 2 (4, .ifCond .ne 6, 3) rfl
theorem dX8_man_7 : decode cX8_man 7 = .ok (.ldc 183, 2) := tb_d tk_X8_man_1 3 (7, .ldc 183, 2) rfl
theorem dX8_man_9 : decode cX8_man 9 = .ok (.ireturn, 1) := tb_d tk_X8_man_1 4 (9, .ireturn, 1) rfl
theorem dX8_man_10 : decode cX8_man 10 = .ok (.iload_n 1, 1) := tb_d tk_X8_man_1 5 (10, .iload_n 1, 1) rfl
theorem dX8_man_11 : decode cX8_man 11 = .ok (.iconst 0, 1) := tb_d tk_X8_man_1 6 (11, .iconst 0, 1) rfl
theorem dX8_man_12 : decode cX8_man 12 = .ok (.iconst 2, 1) := tb_d tk_X8_man_1 7 (12, .iconst 2, 1) rfl
theorem dX8_man_13 : decode cX8_man 13 = .ok (.invokestatic 56, 3) := tb_d tk_X8_man_1 8 (13, .invokestatic 56, 3) rfl
theorem dX8_man_16 : decode cX8_man 16 = .ok (.ifCond .ne 6, 3) := tb_d tk_X8_man_1 9 (16, .ifCond .ne 6, 3) rfl
theorem dX8_man_19 : decode cX8_man 19 = .ok (.ldc 64, 2) := tb_d tk_X8_man_1 10 (19, .ldc 64, 2) rfl
theorem dX8_man_21 : decode cX8_man 21 = .ok (.ireturn, 1) := tb_d tk_X8_man_1 11 (21, .ireturn, 1) rfl
theorem dX8_man_22 : decode cX8_man 22 = .ok (.aload_n 0, 1) := tb_d tk_X8_man_1 12 (22, .aload_n 0, 1) rfl
theorem dX8_man_23 : decode cX8_man 23 = .ok (.invokevirtual 214, 3) := tb_d tk_X8_man_1 13 (23, .invokevirtual 214, 3) rfl
theorem dX8_man_26 : decode cX8_man 26 = .ok (.istore_n 2, 1) := tb_d tk_X8_man_1 14 (26, .istore_n 2, 1) rfl
theorem dX8_man_27 : decode cX8_man 27 = .ok (.iload_n 2, 1) := tb_d tk_X8_man_1 15 (27, .iload_n 2, 1) rfl
theorem dX8_man_28 : decode cX8_man 28 = .ok (.invokestatic 217, 3) := tb_d tk_X8_man_1 16 (28, .invokestatic 217, 3) rfl
theorem dX8_man_31 : decode cX8_man 31 = .ok (.istore_n 3, 1) := tb_d tk_X8_man_1 17 (31, .istore_n 3, 1) rfl
theorem dX8_man_32 : decode cX8_man 32 = .ok (.iconst 0, 1) := tb_d tk_X8_man_1 18 (32, .iconst 0, 1) rfl
theorem dX8_man_33 : decode cX8_man 33 = .ok (.istore 4, 2) := tb_d tk_X8_man_1 19 (33, .istore 4, 2) rfl
theorem dX8_man_35 : decode cX8_man 35 = .ok (.iconst 0, 1) := tb_d tk_X8_man_1 20 (35, .iconst 0, 1) rfl
theorem dX8_man_36 : decode cX8_man 36 = .ok (.istore 5, 2) := tb_d tk_X8_man_1 21 (36, .istore 5, 2) rfl
theorem dX8_man_38 : decode cX8_man 38 = .ok (.bipush 9, 2) := tb_d tk_X8_man_1 22 (38, .bipush 9, 2) rfl
theorem dX8_man_40 : decode cX8_man 40 = .ok (.istore 6, 2) := tb_d tk_X8_man_1 23 (40, .istore 6, 2) rfl
theorem dX8_man_42 : decode cX8_man 42 = .ok (.iconst 0, 1) := tb_d tk_X8_man_1 24 (42, .iconst 0, 1) rfl
theorem dX8_man_43 : decode cX8_man 43 = .ok (.istore 7, 2) := tb_d tk_X8_man_1 25 (43, .istore 7, 2) rfl
theorem dX8_man_45 : decode cX8_man 45 = .ok (.iload 7, 2) := tb_d tk_X8_man_1 26 (45, .iload 7, 2) rfl
theorem dX8_man_47 : decode cX8_man 47 = .ok (.aload_n 0, 1) := tb_d tk_X8_man_1 27 (47, .aload_n 0, 1) rfl
theorem dX8_man_48 : decode cX8_man 48 = .ok (.getfield 25, 3) := tb_d tk_X8_man_1 28 (48, .getfield 25, 3) rfl
theorem dX8_man_51 : decode cX8_man 51 = .ok (.iconst 3, 1) := tb_d tk_X8_man_1 29 (51, .iconst 3, 1) rfl
theorem dX8_man_52 : decode cX8_man 52 = .ok (.iaload, 1) := tb_d tk_X8_man_1 30 (52, .iaload, 1) rfl
theorem dX8_man_53 : decode cX8_man 53 = .ok (.if_icmp .ge 107, 3) := tb_d tk_X8_man_1 31 (53, .if_icmp .ge 107, 3) rfl
theorem dX8_man_56 : decode cX8_man 56 = .ok (.iconst 0, 1) := tb_d tk_X8_man_1 32 (56, .iconst 0, 1) rfl
theorem dX8_man_57 : decode cX8_man 57 = .ok (.istore 8, 2) := tb_d tk_X8_man_1 33 (57, .istore 8, 2) rfl
theorem dX8_man_59 : decode cX8_man 59 = .ok (.iload 8, 2) := tb_d tk_X8_man_1 34 (59, .iload 8, 2) rfl
theorem dX8_man_61 : decode cX8_man 61 = .ok (.bipush 6, 2) := tb_d tk_X8_man_1 35 (61, .bipush 6, 2) rfl
theorem dX8_man_63 : decode cX8_man 63 = .ok (.if_icmp .ge 91, 3) := tb_d tk_X8_man_1 36 (63, .if_icmp .ge 91, 3) rfl
theorem dX8_man_66 : decode cX8_man 66 = .ok (.aload_n 0, 1) := tb_d tk_X8_man_1 37 (66, .aload_n 0, 1) rfl
theorem dX8_man_67 : decode cX8_man 67 = .ok (.iload_n 2, 1) := tb_d tk_X8_man_1 38 (67, .iload_n 2, 1) rfl
theorem dX8_man_68 : decode cX8_man 68 = .ok (.iload 7, 2) := tb_d tk_X8_man_1 39 (68, .iload 7, 2) rfl
def tb_X8_man_2 : List (Nat × Instr × Nat) := [(70, .iload 8, 2), (72, .invokevirtual 220, 3), (75, .invokestatic 217, 3), (78, .istore 9, 2), (80, .iload 9, 2), (82, .iload_n 3, 1), (83, .iload 9, 2), (85, .isub, 1), (86, .if_icmp .le 8, 3), (89, .iload 9, 2), (91, .goto 7, 3), (94, .iload_n 3, 1), (95, .iload 9, 2), (97, .isub, 1), (98, .istore 10, 2), (100, .iload 10, 2), (102, .iload 6, 2), (104, .if_icmp .ge 8, 3), (107, .iload 7, 2), (109, .goto 5, 3), (112, .iload 4, 2), (114, .istore 4, 2), (116, .iload 10, 2), (118, .iload 6, 2), (120, .if_icmp .ge 8, 3), (123, .iload 8, 2), (125, .goto 5, 3), (128, .iload 5, 2), (130, .istore 5, 2), (132, .iload 10, 2), (134, .iload 6, 2), (136, .if_icmp .ge 8, 3), (139, .iload 10, 2), (141, .goto 5, 3), (144, .iload 6, 2), (146, .istore 6, 2), (148, .iinc 8 1, 3), (151, .goto (-92), 3), (154, .iinc 7 1, 3), (157, .goto (-112), 3)]
set_option maxRecDepth 100000 in
theorem tk_X8_man_2 : (tb_X8_man_2.all fun q => decide (decode cX8_man q.1 = .ok q.2)) = true := by decide +kernel
theorem dX8_man_70 : decode cX8_man 70 = .ok (.iload 8, 2) := tb_d tk_X8_man_2 0 (70, .iload 8, 2) rfl
theorem dX8_man_72 : decode cX8_man 72 = .ok (.invokevirtual 220, 3) := tb_d tk_X8_man_2 1 (72, .invokevirtual 220, 3) rfl
theorem dX8_man_75 : decode cX8_man 75 = .ok (.invokestatic 217, 3) := tb_d tk_X8_man_2 2 (75, .invokestatic 217, 3) rfl
theorem dX8_man_78 : decode cX8_man 78 = .ok (.istore 9, 2) := tb_d tk_X8_man_2 3 (78, .istore 9, 2) rfl
theorem dX8_man_80 : decode cX8_man 80 = .ok (.iload 9, 2) := tb_d tk_X8_man_2 4 (80, .iload 9, 2) rfl
theorem dX8_man_82 : decode cX8_man 82 = .ok (.iload_n 3, 1) := tb_d tk_X8_man_2 5 (82, .iload_n 3, 1) rfl
theorem dX8_man_83 : decode cX8_man 83 = .ok (.iload 9, 2) := tb_d tk_X8_man_2 6 (83, .iload 9, 2) rfl
theorem dX8_man_85 : decode cX8_man 85 = .ok (.isub, 1) := tb_d tk_X8_man_2 7 (85, .isub, 1) rfl
theorem dX8_man_86 : decode cX8_man 86 = .ok (.if_icmp .le 8, 3) := tb_d tk_X8_man_2 8 (86, .if_icmp .le 8, 3) rfl
theorem dX8_man_89 : decode cX8_man 89 = .ok (.iload 9, 2) := tb_d tk_X8_man_2 9 (89, .iload 9, 2) rfl
theorem dX8_man_91 : decode cX8_man 91 = .ok (.goto 7, 3) := tb_d tk_X8_man_2 10 (91, .goto 7, 3) rfl
theorem dX8_man_94 : decode cX8_man 94 = .ok (.iload_n 3, 1) := tb_d tk_X8_man_2 11 (94, .iload_n 3, 1) rfl
theorem dX8_man_95 : decode cX8_man 95 = .ok (.iload 9, 2) := tb_d tk_X8_man_2 12 (95, .iload 9, 2) rfl
theorem dX8_man_97 : decode cX8_man 97 = .ok (.isub, 1) := tb_d tk_X8_man_2 13 (97, .isub, 1) rfl
theorem dX8_man_98 : decode cX8_man 98 = .ok (.istore 10, 2) := tb_d tk_X8_man_2 14 (98, .istore 10, 2) rfl
theorem dX8_man_100 : decode cX8_man 100 = .ok (.iload 10, 2) := tb_d tk_X8_man_2 15 (100, .iload 10, 2) rfl
theorem dX8_man_102 : decode cX8_man 102 = .ok (.iload 6, 2) := tb_d tk_X8_man_2 16 (102, .iload 6, 2) rfl
theorem dX8_man_104 : decode cX8_man 104 = .ok (.if_icmp .ge 8, 3) := tb_d tk_X8_man_2 17 (104, .if_icmp .ge 8, 3) rfl
theorem dX8_man_107 : decode cX8_man 107 = .ok (.iload 7, 2) := tb_d tk_X8_man_2 18 (107, .iload 7, 2) rfl
theorem dX8_man_109 : decode cX8_man 109 = .ok (.goto 5, 3) := tb_d tk_X8_man_2 19 (109, .goto 5, 3) rfl
theorem dX8_man_112 : decode cX8_man 112 = .ok (.iload 4, 2) := tb_d tk_X8_man_2 20 (112, .iload 4, 2) rfl
theorem dX8_man_114 : decode cX8_man 114 = .ok (.istore 4, 2) := tb_d tk_X8_man_2 21 (114, .istore 4, 2) rfl
theorem dX8_man_116 : decode cX8_man 116 = .ok (.iload 10, 2) := tb_d tk_X8_man_2 22 (116, .iload 10, 2) rfl
theorem dX8_man_118 : decode cX8_man 118 = .ok (.iload 6, 2) := tb_d tk_X8_man_2 23 (118, .iload 6, 2) rfl
theorem dX8_man_120 : decode cX8_man 120 = .ok (.if_icmp .ge 8, 3) := tb_d tk_X8_man_2 24 (120, .if_icmp .ge 8, 3) rfl
theorem dX8_man_123 : decode cX8_man 123 = .ok (.iload 8, 2) := tb_d tk_X8_man_2 25 (123, .iload 8, 2) rfl
theorem dX8_man_125 : decode cX8_man 125 = .ok (.goto 5, 3) := tb_d tk_X8_man_2 26 (125, .goto 5, 3) rfl
theorem dX8_man_128 : decode cX8_man 128 = .ok (.iload 5, 2) := tb_d tk_X8_man_2 27 (128, .iload 5, 2) rfl
theorem dX8_man_130 : decode cX8_man 130 = .ok (.istore 5, 2) := tb_d tk_X8_man_2 28 (130, .istore 5, 2) rfl
theorem dX8_man_132 : decode cX8_man 132 = .ok (.iload 10, 2) := tb_d tk_X8_man_2 29 (132, .iload 10, 2) rfl
theorem dX8_man_134 : decode cX8_man 134 = .ok (.iload 6, 2) := tb_d tk_X8_man_2 30 (134, .iload 6, 2) rfl
theorem dX8_man_136 : decode cX8_man 136 = .ok (.if_icmp .ge 8, 3) := tb_d tk_X8_man_2 31 (136, .if_icmp .ge 8, 3) rfl
theorem dX8_man_139 : decode cX8_man 139 = .ok (.iload 10, 2) := tb_d tk_X8_man_2 32 (139, .iload 10, 2) rfl
theorem dX8_man_141 : decode cX8_man 141 = .ok (.goto 5, 3) := tb_d tk_X8_man_2 33 (141, .goto 5, 3) rfl
theorem dX8_man_144 : decode cX8_man 144 = .ok (.iload 6, 2) := tb_d tk_X8_man_2 34 (144, .iload 6, 2) rfl
theorem dX8_man_146 : decode cX8_man 146 = .ok (.istore 6, 2) := tb_d tk_X8_man_2 35 (146, .istore 6, 2) rfl
theorem dX8_man_148 : decode cX8_man 148 = .ok (.iinc 8 1, 3) := tb_d tk_X8_man_2 36 (148, .iinc 8 1, 3) rfl
theorem dX8_man_151 : decode cX8_man 151 = .ok (.goto (-92), 3) := tb_d tk_X8_man_2 37 (151, .goto (-92), 3) rfl
theorem dX8_man_154 : decode cX8_man 154 = .ok (.iinc 7 1, 3) := tb_d tk_X8_man_2 38 (154, .iinc 7 1, 3) rfl
theorem dX8_man_157 : decode cX8_man 157 = .ok (.goto (-112), 3) := tb_d tk_X8_man_2 39 (157, .goto (-112), 3) rfl
def tb_X8_man_3 : List (Nat × Instr × Nat) := [(160, .iload_n 1, 1), (161, .ifCond .ne 8, 3), (164, .iload 4, 2), (166, .goto 15, 3), (169, .iload_n 1, 1), (170, .iconst 1, 1), (171, .if_icmp .ne 8, 3), (174, .iload 5, 2), (176, .goto 5, 3), (179, .iload 6, 2), (181, .ireturn, 1)]
set_option maxRecDepth 100000 in
theorem tk_X8_man_3 : (tb_X8_man_3.all fun q => decide (decode cX8_man q.1 = .ok q.2)) = true := by decide +kernel
