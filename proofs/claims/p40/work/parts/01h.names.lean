theorem ggX8_nights_X8_in : GoodIn wsX8_nights wsX8_in := fun w h => ⟨List.mem_cons_of_mem _ (List.mem_append_right _ (List.mem_append_right _ (List.mem_append_right _ (List.mem_append_right _ (List.mem_append_right _ (List.mem_append_right _ (List.mem_append_right _ (List.mem_append_right _ (List.mem_append_left _ h))))))))), good_of_word (gdX8_in w h)⟩
set_option maxRecDepth 20000 in
theorem gX8_nights_X8_in : GoodIn wsX8_nights (va_wsS RX8 56 yX8_in wsX8_in) := goodIn_app (a := bkS RX8 56 yX8_in) (fun w h => ⟨List.mem_cons_of_mem _ (List.mem_append_right _ (List.mem_append_right _ (List.mem_append_left _ h))), good_of_word (gd_bS _ _ _ w h)⟩) ggX8_nights_X8_in
theorem ggX8_nights_X8_notes : GoodIn wsX8_nights wsX8_notes := fun w h => ⟨List.mem_cons_of_mem _ (List.mem_append_right _ (List.mem_append_right _ (List.mem_append_right _ (List.mem_append_right _ (List.mem_append_right _ (List.mem_append_right _ (List.mem_append_right _ (List.mem_append_right _ (List.mem_append_right _ (List.mem_append_left _ h)))))))))), good_of_word (gdX8_notes w h)⟩
set_option maxRecDepth 20000 in
theorem gX8_nights_X8_notes : GoodIn wsX8_nights (wsV RX8 184 RX8 yX8_notes wsX8_notes) := goodIn_app (a := bkV RX8 184 RX8 yX8_notes) (fun w h => ⟨List.mem_cons_of_mem _ (List.mem_append_right _ (List.mem_append_right _ (List.mem_append_right _ (List.mem_append_left _ h)))), good_of_word (gd_bV _ _ _ _ w h)⟩) ggX8_nights_X8_notes
theorem ggX8_nights_X8_forgets : GoodIn wsX8_nights wsX8_forgets := fun w h => ⟨List.mem_cons_of_mem _ (List.mem_append_right _ (List.mem_append_right _ (List.mem_append_right _ (List.mem_append_right _ (List.mem_append_right _ (List.mem_append_right _ (List.mem_append_right _ (List.mem_append_right _ (List.mem_append_right _ (List.mem_append_right _ (List.mem_append_left _ h))))))))))), good_of_word (gdX8_forgets w h)⟩
set_option maxRecDepth 20000 in
theorem gX8_nights_X8_forgets : GoodIn wsX8_nights (wsV RX8 187 RX8 yX8_forgets wsX8_forgets) := goodIn_app (a := bkV RX8 187 RX8 yX8_forgets) (fun w h => ⟨List.mem_cons_of_mem _ (List.mem_append_right _ (List.mem_append_right _ (List.mem_append_right _ (List.mem_append_right _ (List.mem_append_left _ h))))), good_of_word (gd_bV _ _ _ _ w h)⟩) ggX8_nights_X8_forgets
theorem ggX8_nights_X8_secretOf : GoodIn wsX8_nights wsX8_secretOf := fun w h => ⟨List.mem_cons_of_mem _ (List.mem_append_right _ (List.mem_append_right _ (List.mem_append_right _ (List.mem_append_right _ (List.mem_append_right _ (List.mem_append_right _ (List.mem_append_right _ (List.mem_append_right _ (List.mem_append_right _ (List.mem_append_right _ (List.mem_append_right _ (List.mem_append_left _ h)))))))))))), good_of_word (gdX8_secretOf w h)⟩
set_option maxRecDepth 20000 in
theorem gX8_nights_X8_secretOf : GoodIn wsX8_nights (va_wsS RX8 172 yX8_secretOf wsX8_secretOf) := goodIn_app (a := bkS RX8 172 yX8_secretOf) (fun w h => ⟨List.mem_cons_of_mem _ (List.mem_append_right _ (List.mem_append_right _ (List.mem_append_right _ (List.mem_append_right _ (List.mem_append_right _ (List.mem_append_left _ h)))))), good_of_word (gd_bS _ _ _ w h)⟩) ggX8_nights_X8_secretOf
def tb_X8_nights_1 : List (Nat × Instr × Nat) := [(0, .aload_n 0, 1), (1, .invokevirtual 180, 3), (4, .ifCond .ne 6, 3), (7, .ldc 183, 2), (9, .ireturn, 1), (10, .iload_n 1, 1), (11, .iconst 1, 1), (12, .bipush 24, 2), (14, .invokestatic 56, 3), (17, .ifCond .ne 6, 3), (20, .ldc 64, 2), (22, .ireturn, 1), (23, .aload_n 0, 1), (24, .getfield 25, 3), (27, .iconst 5, 1), (28, .iaload, 1), (29, .iload_n 1, 1), (30, .iadd, 1), (31, .sipush 999, 3), (34, .if_icmp .le 6, 3), (37, .ldc 85, 2), (39, .ireturn, 1), (40, .iconst 0, 1), (41, .istore_n 2, 1), (42, .iload_n 2, 1), (43, .iload_n 1, 1), (44, .if_icmp .ge 27, 3), (47, .aload_n 0, 1), (48, .invokevirtual 184, 3), (51, .aload_n 0, 1), (52, .getfield 25, 3), (55, .iconst 5, 1), (56, .dup2, 1), (57, .iaload, 1), (58, .iconst 1, 1), (59, .iadd, 1), (60, .iastore, 1), (61, .aload_n 0, 1), (62, .invokevirtual 187, 3), (65, .iinc 2 1, 3)]
set_option maxRecDepth 100000 in
theorem tk_X8_nights_1 : (tb_X8_nights_1.all fun q => decide (decode cX8_nights q.1 = .ok q.2)) = true := by decide +kernel
theorem dX8_nights_0 : decode cX8_nights 0 = .ok (.aload_n 0, 1) := tb_d tk_X8_nights_1 0 (0, .aload_n 0, 1) rfl
theorem dX8_nights_1 : decode cX8_nights 1 = .ok (.invokevirtual 180, 3) := tb_d tk_X8_nights_1 1 (1, .invokevirtual 180, 3) rfl
theorem dX8_nights_4 : decode cX8_nights 4 = .ok (.ifCond .ne 6, 3) := tb_d tk_X8_nights_1 2 (4, .ifCond .ne 6, 3) rfl
theorem dX8_nights_7 : decode cX8_nights 7 = .ok (.ldc 183, 2) := tb_d tk_X8_nights_1 3 (7, .ldc 183, 2) rfl
theorem dX8_nights_9 : decode cX8_nights 9 = .ok (.ireturn, 1) := tb_d tk_X8_nights_1 4 (9, .ireturn, 1) rfl
theorem dX8_nights_10 : decode cX8_nights 10 = .ok (.iload_n 1, 1) := tb_d tk_X8_nights_1 5 (10, .iload_n 1, 1) rfl
theorem dX8_nights_11 : decode cX8_nights 11 = .ok (.iconst 1, 1) := tb_d tk_X8_nights_1 6 (11, .iconst 1, 1) rfl
theorem dX8_nights_12 : decode cX8_nights 12 = .ok (.bipush 24, 2) := tb_d tk_X8_nights_1 7 (12, .bipush 24, 2) rfl
theorem dX8_nights_14 : decode cX8_nights 14 = .ok (.invokestatic 56, 3) := tb_d tk_X8_nights_1 8 (14, .invokestatic 56, 3) rfl
theorem dX8_nights_17 : decode cX8_nights 17 = .ok (.ifCond .ne 6, 3) := tb_d tk_X8_nights_1 9 (17, .ifCond .ne 6, 3) rfl
theorem dX8_nights_20 : decode cX8_nights 20 = .ok (.ldc 64, 2) := tb_d tk_X8_nights_1 10 (20, .ldc 64, 2) rfl
theorem dX8_nights_22 : decode cX8_nights 22 = .ok (.ireturn, 1) := tb_d tk_X8_nights_1 11 (22, .ireturn, 1) rfl
theorem dX8_nights_23 : decode cX8_nights 23 = .ok (.aload_n 0, 1) := tb_d tk_X8_nights_1 12 (23, .aload_n 0, 1) rfl
theorem dX8_nights_24 : decode cX8_nights 24 = .ok (.getfield 25, 3) := tb_d tk_X8_nights_1 13 (24, .getfield 25, 3) rfl
theorem dX8_nights_27 : decode cX8_nights 27 = .ok (.iconst 5, 1) := tb_d tk_X8_nights_1 14 (27, .iconst 5, 1) rfl
theorem dX8_nights_28 : decode cX8_nights 28 = .ok (.iaload, 1) := tb_d tk_X8_nights_1 15 (28, .iaload, 1) rfl
theorem dX8_nights_29 : decode cX8_nights 29 = .ok (.iload_n 1, 1) := tb_d tk_X8_nights_1 16 (29, .iload_n 1, 1) rfl
theorem dX8_nights_30 : decode cX8_nights 30 = .ok (.iadd, 1) := tb_d tk_X8_nights_1 17 (30, .iadd, 1) rfl
theorem dX8_nights_31 : decode cX8_nights 31 = .ok (.sipush 999, 3) := tb_d tk_X8_nights_1 18 (31, .sipush 999, 3) rfl
theorem dX8_nights_34 : decode cX8_nights 34 = .ok (.if_icmp .le 6, 3) := tb_d tk_X8_nights_1 19 (34, .if_icmp .le 6, 3) rfl
theorem dX8_nights_37 : decode cX8_nights 37 = .ok (.ldc 85, 2) := tb_d tk_X8_nights_1 20 (37, .ldc 85, 2) rfl
theorem dX8_nights_39 : decode cX8_nights 39 = .ok (.ireturn, 1) := tb_d tk_X8_nights_1 21 (39, .ireturn, 1) rfl
theorem dX8_nights_40 : decode cX8_nights 40 = .ok (.iconst 0, 1) := tb_d tk_X8_nights_1 22 (40, .iconst 0, 1) rfl
theorem dX8_nights_41 : decode cX8_nights 41 = .ok (.istore_n 2, 1) := tb_d tk_X8_nights_1 23 (41, .istore_n 2, 1) rfl
theorem dX8_nights_42 : decode cX8_nights 42 = .ok (.iload_n 2, 1) := tb_d tk_X8_nights_1 24 (42, .iload_n 2, 1) rfl
theorem dX8_nights_43 : decode cX8_nights 43 = .ok (.iload_n 1, 1) := tb_d tk_X8_nights_1 25 (43, .iload_n 1, 1) rfl
theorem dX8_nights_44 : decode cX8_nights 44 = .ok (.if_icmp .ge 27, 3) := tb_d tk_X8_nights_1 26 (44, .if_icmp .ge 27, 3) rfl
theorem dX8_nights_47 : decode cX8_nights 47 = .ok (.aload_n 0, 1) := tb_d tk_X8_nights_1 27 (47, .aload_n 0, 1) rfl
theorem dX8_nights_48 : decode cX8_nights 48 = .ok (.invokevirtual 184, 3) := tb_d tk_X8_nights_1 28 (48, .invokevirtual 184, 3) rfl
theorem dX8_nights_51 : decode cX8_nights 51 = .ok (.aload_n 0, 1) := tb_d tk_X8_nights_1 29 (51, .aload_n 0, 1) rfl
theorem dX8_nights_52 : decode cX8_nights 52 = .ok (.getfield 25, 3) := tb_d tk_X8_nights_1 30 (52, .getfield 25, 3) rfl
theorem dX8_nights_55 : decode cX8_nights 55 = .ok (.iconst 5, 1) := tb_d tk_X8_nights_1 31 (55, .iconst 5, 1) rfl
theorem dX8_nights_56 : decode cX8_nights 56 = .ok (.dup2, 1) := tb_d tk_X8_nights_1 32 (56, .dup2, 1) rfl
theorem dX8_nights_57 : decode cX8_nights 57 = .ok (.iaload, 1) := tb_d tk_X8_nights_1 33 (57, .iaload, 1) rfl
theorem dX8_nights_58 : decode cX8_nights 58 = .ok (.iconst 1, 1) := tb_d tk_X8_nights_1 34 (58, .iconst 1, 1) rfl
theorem dX8_nights_59 : decode cX8_nights 59 = .ok (.iadd, 1) := tb_d tk_X8_nights_1 35 (59, .iadd, 1) rfl
theorem dX8_nights_60 : decode cX8_nights 60 = .ok (.iastore, 1) := tb_d tk_X8_nights_1 36 (60, .iastore, 1) rfl
theorem dX8_nights_61 : decode cX8_nights 61 = .ok (.aload_n 0, 1) := tb_d tk_X8_nights_1 37 (61, .aload_n 0, 1) rfl
theorem dX8_nights_62 : decode cX8_nights 62 = .ok (.invokevirtual 187, 3) := tb_d tk_X8_nights_1 38 (62, .invokevirtual 187, 3) rfl
theorem dX8_nights_65 : decode cX8_nights 65 = .ok (.iinc 2 1, 3) := tb_d tk_X8_nights_1 39 (65, .iinc 2 1, 3) rfl
def tb_X8_nights_2 : List (Nat × Instr × Nat) := [(68, .goto (-26), 3), (71, .aload_n 0, 1), (72, .getfield 25, 3), (75, .aload_n 0, 1), (76, .getfield 25, 3), (79, .iconst 5, 1), (80, .iaload, 1), (81, .invokestatic 172, 3), (84, .ireturn, 1)]
set_option maxRecDepth 100000 in
theorem tk_X8_nights_2 : (tb_X8_nights_2.all fun q => decide (decode cX8_nights q.1 = .ok q.2)) = true := by decide +kernel
theorem dX8_nights_68 : decode cX8_nights 68 = .ok (.goto (-26), 3) := tb_d tk_X8_nights_2 0 (68, .goto (-26), 3) rfl
theorem dX8_nights_71 : decode cX8_nights 71 = .ok (.aload_n 0, 1) := tb_d tk_X8_nights_2 1 (71, .aload_n 0, 1) rfl
theorem dX8_nights_72 : decode cX8_nights 72 = .ok (.getfield 25, 3) := tb_d tk_X8_nights_2 2 (72, .getfield 25, 3) rfl
theorem dX8_nights_75 : decode cX8_nights 75 = .ok (.aload_n 0, 1) := tb_d tk_X8_nights_2 3 (75, .aload_n 0, 1) rfl
theorem dX8_nights_76 : decode cX8_nights 76 = .ok (.getfield 25, 3) := tb_d tk_X8_nights_2 4 (76, .getfield 25, 3) rfl
theorem dX8_nights_79 : decode cX8_nights 79 = .ok (.iconst 5, 1) := tb_d tk_X8_nights_2 5 (79, .iconst 5, 1) rfl
theorem dX8_nights_80 : decode cX8_nights 80 = .ok (.iaload, 1) := tb_d tk_X8_nights_2 6 (80, .iaload, 1) rfl
theorem dX8_nights_81 : decode cX8_nights 81 = .ok (.invokestatic 172, 3) := tb_d tk_X8_nights_2 7 (81, .invokestatic 172, 3) rfl
theorem dX8_nights_84 : decode cX8_nights 84 = .ok (.ireturn, 1) := tb_d tk_X8_nights_2 8 (84, .ireturn, 1) rfl
theorem ggX8_say_X8_isWord : GoodIn wsX8_say wsX8_isWord := fun w h => ⟨List.mem_cons_of_mem _ (List.mem_append_right _ (List.mem_append_right _ (List.mem_append_right _ (List.mem_append_right _ (List.mem_append_right _ (List.mem_append_right _ (List.mem_append_right _ (List.mem_append_right _ (List.mem_append_left _ h))))))))), good_of_word (gdX8_isWord w h)⟩
set_option maxRecDepth 20000 in
theorem gX8_say_X8_isWord : GoodIn wsX8_say (wsV RX8 190 RX8 yX8_isWord wsX8_isWord) := goodIn_app (a := bkV RX8 190 RX8 yX8_isWord) (fun w h => ⟨List.mem_cons_of_mem _ (List.mem_append_right _ (List.mem_append_left _ h)), good_of_word (gd_bV _ _ _ _ w h)⟩) ggX8_say_X8_isWord
theorem ggX8_say_X8_isHour : GoodIn wsX8_say wsX8_isHour := fun w h => ⟨List.mem_cons_of_mem _ (List.mem_append_right _ (List.mem_append_right _ (List.mem_append_right _ (List.mem_append_right _ (List.mem_append_right _ (List.mem_append_right _ (List.mem_append_right _ (List.mem_append_right _ (List.mem_append_right _ (List.mem_append_left _ h)))))))))), good_of_word (gdX8_isHour w h)⟩
set_option maxRecDepth 20000 in
theorem gX8_say_X8_isHour : GoodIn wsX8_say (va_wsS RX8 193 yX8_isHour wsX8_isHour) := goodIn_app (a := bkS RX8 193 yX8_isHour) (fun w h => ⟨List.mem_cons_of_mem _ (List.mem_append_right _ (List.mem_append_right _ (List.mem_append_left _ h))), good_of_word (gd_bS _ _ _ w h)⟩) ggX8_say_X8_isHour
theorem ggX8_say_X8_notes : GoodIn wsX8_say wsX8_notes := fun w h => ⟨List.mem_cons_of_mem _ (List.mem_append_right _ (List.mem_append_right _ (List.mem_append_right _ (List.mem_append_right _ (List.mem_append_right _ (List.mem_append_right _ (List.mem_append_right _ (List.mem_append_right _ (List.mem_append_right _ (List.mem_append_right _ (List.mem_append_left _ h))))))))))), good_of_word (gdX8_notes w h)⟩
set_option maxRecDepth 20000 in
theorem gX8_say_X8_notes : GoodIn wsX8_say (wsV RX8 184 RX8 yX8_notes wsX8_notes) := goodIn_app (a := bkV RX8 184 RX8 yX8_notes) (fun w h => ⟨List.mem_cons_of_mem _ (List.mem_append_right _ (List.mem_append_right _ (List.mem_append_right _ (List.mem_append_left _ h)))), good_of_word (gd_bV _ _ _ _ w h)⟩) ggX8_say_X8_notes
theorem ggX8_say_X8_guardOn : GoodIn wsX8_say wsX8_guardOn := fun w h => ⟨List.mem_cons_of_mem _ (List.mem_append_right _ (List.mem_append_right _ (List.mem_append_right _ (List.mem_append_right _ (List.mem_append_right _ (List.mem_append_right _ (List.mem_append_right _ (List.mem_append_right _ (List.mem_append_right _ (List.mem_append_right _ (List.mem_append_right _ (List.mem_append_left _ h)))))))))))), good_of_word (gdX8_guardOn w h)⟩
set_option maxRecDepth 20000 in
theorem gX8_say_X8_guardOn : GoodIn wsX8_say (wsV RX8 158 RX8 yX8_guardOn wsX8_guardOn) := goodIn_app (a := bkV RX8 158 RX8 yX8_guardOn) (fun w h => ⟨List.mem_cons_of_mem _ (List.mem_append_right _ (List.mem_append_right _ (List.mem_append_right _ (List.mem_append_right _ (List.mem_append_left _ h))))), good_of_word (gd_bV _ _ _ _ w h)⟩) ggX8_say_X8_guardOn
theorem ggX8_say_X8_isTakenNow : GoodIn wsX8_say wsX8_isTakenNow := fun w h => ⟨List.mem_cons_of_mem _ (List.mem_append_right _ (List.mem_append_right _ (List.mem_append_right _ (List.mem_append_right _ (List.mem_append_right _ (List.mem_append_right _ (List.mem_append_right _ (List.mem_append_right _ (List.mem_append_right _ (List.mem_append_right _ (List.mem_append_right _ (List.mem_append_right _ (List.mem_append_left _ h))))))))))))), good_of_word (gdX8_isTakenNow w h)⟩
set_option maxRecDepth 20000 in
theorem gX8_say_X8_isTakenNow : GoodIn wsX8_say (wsV RX8 196 RX8 yX8_isTakenNow wsX8_isTakenNow) := goodIn_app (a := bkV RX8 196 RX8 yX8_isTakenNow) (fun w h => ⟨List.mem_cons_of_mem _ (List.mem_append_right _ (List.mem_append_right _ (List.mem_append_right _ (List.mem_append_right _ (List.mem_append_right _ (List.mem_append_left _ h)))))), good_of_word (gd_bV _ _ _ _ w h)⟩) ggX8_say_X8_isTakenNow
theorem ggX8_say_X8_has : GoodIn wsX8_say wsX8_has := fun w h => ⟨List.mem_cons_of_mem _ (List.mem_append_right _ (List.mem_append_right _ (List.mem_append_right _ (List.mem_append_right _ (List.mem_append_right _ (List.mem_append_right _ (List.mem_append_right _ (List.mem_append_right _ (List.mem_append_right _ (List.mem_append_right _ (List.mem_append_right _ (List.mem_append_right _ (List.mem_append_right _ (List.mem_append_left _ h)))))))))))))), good_of_word (gdX8_has w h)⟩
set_option maxRecDepth 20000 in
theorem gX8_say_X8_has : GoodIn wsX8_say (va_wsS RX8 161 yX8_has wsX8_has) := goodIn_app (a := bkS RX8 161 yX8_has) (fun w h => ⟨List.mem_cons_of_mem _ (List.mem_append_right _ (List.mem_append_right _ (List.mem_append_right _ (List.mem_append_right _ (List.mem_append_right _ (List.mem_append_right _ (List.mem_append_left _ h))))))), good_of_word (gd_bS _ _ _ w h)⟩) ggX8_say_X8_has
def tb_X8_say_1 : List (Nat × Instr × Nat) := [(0, .aload_n 0, 1), (1, .iload_n 1, 1), (2, .invokevirtual 190, 3), (5, .ifCond .eq 10, 3), (8, .iload_n 2, 1), (9, .invokestatic 193, 3), (12, .ifCond .ne 6, 3), (15, .ldc 64, 2), (17, .ireturn, 1), (18, .aload_n 0, 1), (19, .getfield 25, 3), (22, .bipush 7, 2), (24, .iaload, 1), (25, .bipush 9, 2), (27, .if_icmp .ne 6, 3), (30, .ldc 85, 2), (32, .ireturn, 1), (33, .aload_n 0, 1), (34, .invokevirtual 184, 3), (37, .aload_n 0, 1), (38, .iload_n 2, 1), (39, .aload_n 0, 1), (40, .getfield 25, 3), (43, .iconst 5, 1), (44, .iaload, 1), (45, .invokevirtual 158, 3), (48, .istore_n 3, 1), (49, .aload_n 0, 1), (50, .iload_n 1, 1), (51, .iload_n 2, 1), (52, .iconst 0, 1), (53, .invokevirtual 196, 3), (56, .ifCond .eq 7, 3), (59, .iconst 1, 1), (60, .goto 4, 3), (63, .iconst 0, 1), (64, .istore 4, 2), (66, .bipush 38, 2), (68, .iconst 3, 1), (69, .aload_n 0, 1)]
set_option maxRecDepth 100000 in
theorem tk_X8_say_1 : (tb_X8_say_1.all fun q => decide (decode cX8_say q.1 = .ok q.2)) = true := by decide +kernel
theorem dX8_say_0 : decode cX8_say 0 = .ok (.aload_n 0, 1) := tb_d tk_X8_say_1 0 (0, .aload_n 0, 1) rfl
theorem dX8_say_1 : decode cX8_say 1 = .ok (.iload_n 1, 1) := tb_d tk_X8_say_1 1 (1, .iload_n 1, 1) rfl
theorem dX8_say_2 : decode cX8_say 2 = .ok (.invokevirtual 190, 3) := tb_d tk_X8_say_1 2 (2, .invokevirtual 190, 3) rfl
theorem dX8_say_5 : decode cX8_say 5 = .ok (.ifCond .eq 10, 3) := tb_d tk_X8_say_1 3 (5, .ifCond .eq 10, 3) rfl
theorem dX8_say_8 : decode cX8_say 8 = .ok (.iload_n 2, 1) := tb_d tk_X8_say_1 4 (8, .iload_n 2, 1) rfl
theorem dX8_say_9 : decode cX8_say 9 = .ok (.invokestatic 193, 3) := tb_d tk_X8_say_1 5 (9, .invokestatic 193, 3) rfl
theorem dX8_say_12 : decode cX8_say 12 = .ok (.ifCond .ne 6, 3) := tb_d tk_X8_say_1 6 (12, .ifCond .ne 6, 3) rfl
theorem dX8_say_15 : decode cX8_say 15 = .ok (.ldc 64, 2) := tb_d tk_X8_say_1 7 (15, .ldc 64, 2) rfl
theorem dX8_say_17 : decode cX8_say 17 = .ok (.ireturn, 1) := tb_d tk_X8_say_1 8 (17, .ireturn, 1) rfl
theorem dX8_say_18 : decode cX8_say 18 = .ok (.aload_n 0, 1) := tb_d tk_X8_say_1 9 (18, .aload_n 0, 1) rfl
theorem dX8_say_19 : decode cX8_say 19 = .ok (.getfield 25, 3) := tb_d tk_X8_say_1 10 (19, .getfield 25, 3) rfl
theorem dX8_say_22 : decode cX8_say 22 = .ok (.bipush 7, 2) := tb_d tk_X8_say_1 11 (22, .bipush 7, 2) rfl
theorem dX8_say_24 : decode cX8_say 24 = .ok (.iaload, 1) := tb_d tk_X8_say_1 12 (24, .iaload, 1) rfl
theorem dX8_say_25 : decode cX8_say 25 = .ok (.bipush 9, 2) := tb_d tk_X8_say_1 13 (25, .bipush 9, 2) rfl
theorem dX8_say_27 : decode cX8_say 27 = .ok (.if_icmp .ne 6, 3) := tb_d tk_X8_say_1 14 (27, .if_icmp .ne 6, 3) rfl
theorem dX8_say_30 : decode cX8_say 30 = .ok (.ldc 85, 2) := tb_d tk_X8_say_1 15 (30, .ldc 85, 2) rfl
theorem dX8_say_32 : decode cX8_say 32 = .ok (.ireturn, 1) := tb_d tk_X8_say_1 16 (32, .ireturn, 1) rfl
theorem dX8_say_33 : decode cX8_say 33 = .ok (.aload_n 0, 1) := tb_d tk_X8_say_1 17 (33, .aload_n 0, 1) rfl
theorem dX8_say_34 : decode cX8_say 34 = .ok (.invokevirtual 184, 3) := tb_d tk_X8_say_1 18 (34, .invokevirtual 184, 3) rfl
theorem dX8_say_37 : decode cX8_say 37 = .ok (.aload_n 0, 1) := tb_d tk_X8_say_1 19 (37, .aload_n 0, 1) rfl
theorem dX8_say_38 : decode cX8_say 38 = .ok (.iload_n 2, 1) := tb_d tk_X8_say_1 20 (38, .iload_n 2, 1) rfl
theorem dX8_say_39 : decode cX8_say 39 = .ok (.aload_n 0, 1) := tb_d tk_X8_say_1 21 (39, .aload_n 0, 1) rfl
theorem dX8_say_40 : decode cX8_say 40 = .ok (.getfield 25, 3) := tb_d tk_X8_say_1 22 (40, .getfield 25, 3) rfl
theorem dX8_say_43 : decode cX8_say 43 = .ok (.iconst 5, 1) := tb_d tk_X8_say_1 23 (43, .iconst 5, 1) rfl
theorem dX8_say_44 : decode cX8_say 44 = .ok (.iaload, 1) := tb_d tk_X8_say_1 24 (44, .iaload, 1) rfl
theorem dX8_say_45 : decode cX8_say 45 = .ok (.invokevirtual 158, 3) := tb_d tk_X8_say_1 25 (45, .invokevirtual 158, 3) rfl
theorem dX8_say_48 : decode cX8_say 48 = .ok (.istore_n 3, 1) := tb_d tk_X8_say_1 26 (48, .istore_n 3, 1) rfl
theorem dX8_say_49 : decode cX8_say 49 = .ok (.aload_n 0, 1) := tb_d tk_X8_say_1 27 (49, .aload_n 0, 1) rfl
theorem dX8_say_50 : decode cX8_say 50 = .ok (.iload_n 1, 1) := tb_d tk_X8_say_1 28 (50, .iload_n 1, 1) rfl
theorem dX8_say_51 : decode cX8_say 51 = .ok (.iload_n 2, 1) := tb_d tk_X8_say_1 29 (51, .iload_n 2, 1) rfl
theorem dX8_say_52 : decode cX8_say 52 = .ok (.iconst 0, 1) := tb_d tk_X8_say_1 30 (52, .iconst 0, 1) rfl
theorem dX8_say_53 : decode cX8_say 53 = .ok (.invokevirtual 196, 3) := tb_d tk_X8_say_1 31 (53, .invokevirtual 196, 3) rfl
theorem dX8_say_56 : decode cX8_say 56 = .ok (.ifCond .eq 7, 3) := tb_d tk_X8_say_1 32 (56, .ifCond .eq 7, 3) rfl
theorem dX8_say_59 : decode cX8_say 59 = .ok (.iconst 1, 1) := tb_d tk_X8_say_1 33 (59, .iconst 1, 1) rfl
theorem dX8_say_60 : decode cX8_say 60 = .ok (.goto 4, 3) := tb_d tk_X8_say_1 34 (60, .goto 4, 3) rfl
theorem dX8_say_63 : decode cX8_say 63 = .ok (.iconst 0, 1) := tb_d tk_X8_say_1 35 (63, .iconst 0, 1) rfl
theorem dX8_say_64 : decode cX8_say 64 = .ok (.istore 4, 2) := tb_d tk_X8_say_1 36 (64, .istore 4, 2) rfl
theorem dX8_say_66 : decode cX8_say 66 = .ok (.bipush 38, 2) := tb_d tk_X8_say_1 37 (66, .bipush 38, 2) rfl
theorem dX8_say_68 : decode cX8_say 68 = .ok (.iconst 3, 1) := tb_d tk_X8_say_1 38 (68, .iconst 3, 1) rfl
theorem dX8_say_69 : decode cX8_say 69 = .ok (.aload_n 0, 1) := tb_d tk_X8_say_1 39 (69, .aload_n 0, 1) rfl
def tb_X8_say_2 : List (Nat × Instr × Nat) := [(70, .getfield 25, 3), (73, .bipush 7, 2), (75, .iaload, 1), (76, .imul, 1), (77, .iadd, 1), (78, .istore 5, 2), (80, .aload_n 0, 1), (81, .getfield 25, 3), (84, .iload 5, 2), (86, .iload_n 1, 1), (87, .iastore, 1), (88, .aload_n 0, 1), (89, .getfield 25, 3), (92, .iload 5, 2), (94, .iconst 1, 1), (95, .iadd, 1), (96, .aload_n 0, 1), (97, .getfield 25, 3), (100, .bipush 6, 2), (102, .iaload, 1), (103, .iload_n 3, 1), (104, .invokestatic 161, 3), (107, .ifCond .eq 9, 3), (110, .iload_n 3, 1), (111, .iconst 1, 1), (112, .iadd, 1), (113, .goto 4, 3), (116, .iconst 0, 1), (117, .iastore, 1), (118, .aload_n 0, 1), (119, .getfield 25, 3), (122, .iload 5, 2), (124, .iconst 2, 1), (125, .iadd, 1), (126, .iload 4, 2), (128, .iastore, 1), (129, .aload_n 0, 1), (130, .getfield 25, 3), (133, .bipush 7, 2), (135, .dup2, 1)]
set_option maxRecDepth 100000 in
theorem tk_X8_say_2 : (tb_X8_say_2.all fun q => decide (decode cX8_say q.1 = .ok q.2)) = true := by decide +kernel
theorem dX8_say_70 : decode cX8_say 70 = .ok (.getfield 25, 3) := tb_d tk_X8_say_2 0 (70, .getfield 25, 3) rfl
theorem dX8_say_73 : decode cX8_say 73 = .ok (.bipush 7, 2) := tb_d tk_X8_say_2 1 (73, .bipush 7, 2) rfl
theorem dX8_say_75 : decode cX8_say 75 = .ok (.iaload, 1) := tb_d tk_X8_say_2 2 (75, .iaload, 1) rfl
theorem dX8_say_76 : decode cX8_say 76 = .ok (.imul, 1) := tb_d tk_X8_say_2 3 (76, .imul, 1) rfl
theorem dX8_say_77 : decode cX8_say 77 = .ok (.iadd, 1) := tb_d tk_X8_say_2 4 (77, .iadd, 1) rfl
theorem dX8_say_78 : decode cX8_say 78 = .ok (.istore 5, 2) := tb_d tk_X8_say_2 5 (78, .istore 5, 2) rfl
theorem dX8_say_80 : decode cX8_say 80 = .ok (.aload_n 0, 1) := tb_d tk_X8_say_2 6 (80, .aload_n 0, 1) rfl
theorem dX8_say_81 : decode cX8_say 81 = .ok (.getfield 25, 3) := tb_d tk_X8_say_2 7 (81, .getfield 25, 3) rfl
theorem dX8_say_84 : decode cX8_say 84 = .ok (.iload 5, 2) := tb_d tk_X8_say_2 8 (84, .iload 5, 2) rfl
theorem dX8_say_86 : decode cX8_say 86 = .ok (.iload_n 1, 1) := tb_d tk_X8_say_2 9 (86, .iload_n 1, 1) rfl
theorem dX8_say_87 : decode cX8_say 87 = .ok (.iastore, 1) := tb_d tk_X8_say_2 10 (87, .iastore, 1) rfl
theorem dX8_say_88 : decode cX8_say 88 = .ok (.aload_n 0, 1) := tb_d tk_X8_say_2 11 (88, .aload_n 0, 1) rfl
theorem dX8_say_89 : decode cX8_say 89 = .ok (.getfield 25, 3) := tb_d tk_X8_say_2 12 (89, .getfield 25, 3) rfl
theorem dX8_say_92 : decode cX8_say 92 = .ok (.iload 5, 2) := tb_d tk_X8_say_2 13 (92, .iload 5, 2) rfl
theorem dX8_say_94 : decode cX8_say 94 = .ok (.iconst 1, 1) := tb_d tk_X8_say_2 14 (94, .iconst 1, 1) rfl
theorem dX8_say_95 : decode cX8_say 95 = .ok (.iadd, 1) := tb_d tk_X8_say_2 15 (95, .iadd, 1) rfl
theorem dX8_say_96 : decode cX8_say 96 = .ok (.aload_n 0, 1) := tb_d tk_X8_say_2 16 (96, .aload_n 0, 1) rfl
theorem dX8_say_97 : decode cX8_say 97 = .ok (.getfield 25, 3) := tb_d tk_X8_say_2 17 (97, .getfield 25, 3) rfl
theorem dX8_say_100 : decode cX8_say 100 = .ok (.bipush 6, 2) := tb_d tk_X8_say_2 18 (100, .bipush 6, 2) rfl
theorem dX8_say_102 : decode cX8_say 102 = .ok (.iaload, 1) := tb_d tk_X8_say_2 19 (102, .iaload, 1) rfl
theorem dX8_say_103 : decode cX8_say 103 = .ok (.iload_n 3, 1) := tb_d tk_X8_say_2 20 (103, .iload_n 3, 1) rfl
theorem dX8_say_104 : decode cX8_say 104 = .ok (.invokestatic 161, 3) := tb_d tk_X8_say_2 21 (104, .invokestatic 161, 3) rfl
theorem dX8_say_107 : decode cX8_say 107 = .ok (.ifCond .eq 9, 3) := tb_d tk_X8_say_2 22 (107, .ifCond .eq 9, 3) rfl
theorem dX8_say_110 : decode cX8_say 110 = .ok (.iload_n 3, 1) := tb_d tk_X8_say_2 23 (110, .iload_n 3, 1) rfl
theorem dX8_say_111 : decode cX8_say 111 = .ok (.iconst 1, 1) := tb_d tk_X8_say_2 24 (111, .iconst 1, 1) rfl
theorem dX8_say_112 : decode cX8_say 112 = .ok (.iadd, 1) := tb_d tk_X8_say_2 25 (112, .iadd, 1) rfl
theorem dX8_say_113 : decode cX8_say 113 = .ok (.goto 4, 3) := tb_d tk_X8_say_2 26 (113, .goto 4, 3) rfl
theorem dX8_say_116 : decode cX8_say 116 = .ok (.iconst 0, 1) := tb_d tk_X8_say_2 27 (116, .iconst 0, 1) rfl
theorem dX8_say_117 : decode cX8_say 117 = .ok (.iastore, 1) := tb_d tk_X8_say_2 28 (117, .iastore, 1) rfl
theorem dX8_say_118 : decode cX8_say 118 = .ok (.aload_n 0, 1) := tb_d tk_X8_say_2 29 (118, .aload_n 0, 1) rfl
theorem dX8_say_119 : decode cX8_say 119 = .ok (.getfield 25, 3) := tb_d tk_X8_say_2 30 (119, .getfield 25, 3) rfl
theorem dX8_say_122 : decode cX8_say 122 = .ok (.iload 5, 2) := tb_d tk_X8_say_2 31 (122, .iload 5, 2) rfl
theorem dX8_say_124 : decode cX8_say 124 = .ok (.iconst 2, 1) := tb_d tk_X8_say_2 32 (124, .iconst 2, 1) rfl
theorem dX8_say_125 : decode cX8_say 125 = .ok (.iadd, 1) := tb_d tk_X8_say_2 33 (125, .iadd, 1) rfl
theorem dX8_say_126 : decode cX8_say 126 = .ok (.iload 4, 2) := tb_d tk_X8_say_2 34 (126, .iload 4, 2) rfl
theorem dX8_say_128 : decode cX8_say 128 = .ok (.iastore, 1) := tb_d tk_X8_say_2 35 (128, .iastore, 1) rfl
theorem dX8_say_129 : decode cX8_say 129 = .ok (.aload_n 0, 1) := tb_d tk_X8_say_2 36 (129, .aload_n 0, 1) rfl
theorem dX8_say_130 : decode cX8_say 130 = .ok (.getfield 25, 3) := tb_d tk_X8_say_2 37 (130, .getfield 25, 3) rfl
theorem dX8_say_133 : decode cX8_say 133 = .ok (.bipush 7, 2) := tb_d tk_X8_say_2 38 (133, .bipush 7, 2) rfl
theorem dX8_say_135 : decode cX8_say 135 = .ok (.dup2, 1) := tb_d tk_X8_say_2 39 (135, .dup2, 1) rfl
def tb_X8_say_3 : List (Nat × Instr × Nat) := [(136, .iaload, 1), (137, .iconst 1, 1), (138, .iadd, 1), (139, .iastore, 1), (140, .aload_n 0, 1), (141, .getfield 25, 3), (144, .bipush 26, 2), (146, .iconst 3, 1), (147, .iload_n 3, 1), (148, .imul, 1), (149, .iadd, 1), (150, .iconst 2, 1), (151, .iadd, 1), (152, .dup2, 1), (153, .iaload, 1), (154, .iload 4, 2), (156, .iadd, 1), (157, .iastore, 1), (158, .iload 4, 2), (160, .ireturn, 1)]
set_option maxRecDepth 100000 in
theorem tk_X8_say_3 : (tb_X8_say_3.all fun q => decide (decode cX8_say q.1 = .ok q.2)) = true := by decide +kernel
theorem dX8_say_136 : decode cX8_say 136 = .ok (.iaload, 1) := tb_d tk_X8_say_3 0 (136, .iaload, 1) rfl
theorem dX8_say_137 : decode cX8_say 137 = .ok (.iconst 1, 1) := tb_d tk_X8_say_3 1 (137, .iconst 1, 1) rfl
theorem dX8_say_138 : decode cX8_say 138 = .ok (.iadd, 1) := tb_d tk_X8_say_3 2 (138, .iadd, 1) rfl
theorem dX8_say_139 : decode cX8_say 139 = .ok (.iastore, 1) := tb_d tk_X8_say_3 3 (139, .iastore, 1) rfl
theorem dX8_say_140 : decode cX8_say 140 = .ok (.aload_n 0, 1) := tb_d tk_X8_say_3 4 (140, .aload_n 0, 1) rfl
theorem dX8_say_141 : decode cX8_say 141 = .ok (.getfield 25, 3) := tb_d tk_X8_say_3 5 (141, .getfield 25, 3) rfl
theorem dX8_say_144 : decode cX8_say 144 = .ok (.bipush 26, 2) := tb_d tk_X8_say_3 6 (144, .bipush 26, 2) rfl
theorem dX8_say_146 : decode cX8_say 146 = .ok (.iconst 3, 1) := tb_d tk_X8_say_3 7 (146, .iconst 3, 1) rfl
theorem dX8_say_147 : decode cX8_say 147 = .ok (.iload_n 3, 1) := tb_d tk_X8_say_3 8 (147, .iload_n 3, 1) rfl
theorem dX8_say_148 : decode cX8_say 148 = .ok (.imul, 1) := tb_d tk_X8_say_3 9 (148, .imul, 1) rfl
theorem dX8_say_149 : decode cX8_say 149 = .ok (.iadd, 1) := tb_d tk_X8_say_3 10 (149, .iadd, 1) rfl
theorem dX8_say_150 : decode cX8_say 150 = .ok (.iconst 2, 1) := tb_d tk_X8_say_3 11 (150, .iconst 2, 1) rfl
theorem dX8_say_151 : decode cX8_say 151 = .ok (.iadd, 1) := tb_d tk_X8_say_3 12 (151, .iadd, 1) rfl
theorem dX8_say_152 : decode cX8_say 152 = .ok (.dup2, 1) := tb_d tk_X8_say_3 13 (152, .dup2, 1) rfl
theorem dX8_say_153 : decode cX8_say 153 = .ok (.iaload, 1) := tb_d tk_X8_say_3 14 (153, .iaload, 1) rfl
theorem dX8_say_154 : decode cX8_say 154 = .ok (.iload 4, 2) := tb_d tk_X8_say_3 15 (154, .iload 4, 2) rfl
theorem dX8_say_156 : decode cX8_say 156 = .ok (.iadd, 1) := tb_d tk_X8_say_3 16 (156, .iadd, 1) rfl
theorem dX8_say_157 : decode cX8_say 157 = .ok (.iastore, 1) := tb_d tk_X8_say_3 17 (157, .iastore, 1) rfl
theorem dX8_say_158 : decode cX8_say 158 = .ok (.iload 4, 2) := tb_d tk_X8_say_3 18 (158, .iload 4, 2) rfl
theorem dX8_say_160 : decode cX8_say 160 = .ok (.ireturn, 1) := tb_d tk_X8_say_3 19 (160, .ireturn, 1) rfl
theorem ggX8_start_X8_isGate : GoodIn wsX8_start wsX8_isGate := fun w h => ⟨List.mem_cons_of_mem _ (List.mem_append_right _ (List.mem_append_right _ (List.mem_append_right _ (List.mem_append_right _ (List.mem_append_right _ (List.mem_append_left _ h)))))), good_of_word (gdX8_isGate w h)⟩
set_option maxRecDepth 20000 in
theorem gX8_start_X8_isGate : GoodIn wsX8_start (wsV RX8 180 RX8 yX8_isGate wsX8_isGate) := goodIn_app (a := bkV RX8 180 RX8 yX8_isGate) (fun w h => ⟨List.mem_cons_of_mem _ (List.mem_append_right _ (List.mem_append_left _ h)), good_of_word (gd_bV _ _ _ _ w h)⟩) ggX8_start_X8_isGate
theorem ggX8_start_X8_in : GoodIn wsX8_start wsX8_in := fun w h => ⟨List.mem_cons_of_mem _ (List.mem_append_right _ (List.mem_append_right _ (List.mem_append_right _ (List.mem_append_right _ (List.mem_append_right _ (List.mem_append_right _ (List.mem_append_left _ h))))))), good_of_word (gdX8_in w h)⟩
set_option maxRecDepth 20000 in
theorem gX8_start_X8_in : GoodIn wsX8_start (va_wsS RX8 56 yX8_in wsX8_in) := goodIn_app (a := bkS RX8 56 yX8_in) (fun w h => ⟨List.mem_cons_of_mem _ (List.mem_append_right _ (List.mem_append_right _ (List.mem_append_left _ h))), good_of_word (gd_bS _ _ _ w h)⟩) ggX8_start_X8_in
theorem ggX8_start_X8_notes : GoodIn wsX8_start wsX8_notes := fun w h => ⟨List.mem_cons_of_mem _ (List.mem_append_right _ (List.mem_append_right _ (List.mem_append_right _ (List.mem_append_right _ (List.mem_append_right _ (List.mem_append_right _ (List.mem_append_right _ (List.mem_append_left _ h)))))))), good_of_word (gdX8_notes w h)⟩
set_option maxRecDepth 20000 in
theorem gX8_start_X8_notes : GoodIn wsX8_start (wsV RX8 184 RX8 yX8_notes wsX8_notes) := goodIn_app (a := bkV RX8 184 RX8 yX8_notes) (fun w h => ⟨List.mem_cons_of_mem _ (List.mem_append_right _ (List.mem_append_right _ (List.mem_append_right _ (List.mem_append_left _ h)))), good_of_word (gd_bV _ _ _ _ w h)⟩) ggX8_start_X8_notes
def tb_X8_start_1 : List (Nat × Instr × Nat) := [(0, .aload_n 0, 1), (1, .invokevirtual 180, 3), (4, .ifCond .ne 6, 3), (7, .ldc 183, 2), (9, .ireturn, 1), (10, .iload_n 1, 1), (11, .iconst 0, 1), (12, .bipush 9, 2), (14, .invokestatic 56, 3), (17, .ifCond .ne 6, 3), (20, .ldc 64, 2), (22, .ireturn, 1), (23, .aload_n 0, 1), (24, .invokevirtual 184, 3), (27, .aload_n 0, 1), (28, .getfield 25, 3), (31, .iconst 0, 1), (32, .iaload, 1), (33, .istore_n 2, 1), (34, .aload_n 0, 1), (35, .getfield 25, 3), (38, .iconst 0, 1), (39, .iload_n 1, 1), (40, .iastore, 1), (41, .iload_n 2, 1), (42, .ireturn, 1)]
set_option maxRecDepth 100000 in
theorem tk_X8_start_1 : (tb_X8_start_1.all fun q => decide (decode cX8_start q.1 = .ok q.2)) = true := by decide +kernel
theorem dX8_start_0 : decode cX8_start 0 = .ok (.aload_n 0, 1) := tb_d tk_X8_start_1 0 (0, .aload_n 0, 1) rfl
theorem dX8_start_1 : decode cX8_start 1 = .ok (.invokevirtual 180, 3) := tb_d tk_X8_start_1 1 (1, .invokevirtual 180, 3) rfl
theorem dX8_start_4 : decode cX8_start 4 = .ok (.ifCond .ne 6, 3) := tb_d tk_X8_start_1 2 (4, .ifCond .ne 6, 3) rfl
theorem dX8_start_7 : decode cX8_start 7 = .ok (.ldc 183, 2) := tb_d tk_X8_start_1 3 (7, .ldc 183, 2) rfl
theorem dX8_start_9 : decode cX8_start 9 = .ok (.ireturn, 1) := tb_d tk_X8_start_1 4 (9, .ireturn, 1) rfl
theorem dX8_start_10 : decode cX8_start 10 = .ok (.iload_n 1, 1) := tb_d tk_X8_start_1 5 (10, .iload_n 1, 1) rfl
theorem dX8_start_11 : decode cX8_start 11 = .ok (.iconst 0, 1) := tb_d tk_X8_start_1 6 (11, .iconst 0, 1) rfl
theorem dX8_start_12 : decode cX8_start 12 = .ok (.bipush 9, 2) := tb_d tk_X8_start_1 7 (12, .bipush 9, 2) rfl
theorem dX8_start_14 : decode cX8_start 14 = .ok (.invokestatic 56, 3) := tb_d tk_X8_start_1 8 (14, .invokestatic 56, 3) rfl
theorem dX8_start_17 : decode cX8_start 17 = .ok (.ifCond .ne 6, 3) := tb_d tk_X8_start_1 9 (17, .ifCond .ne 6, 3) rfl
theorem dX8_start_20 : decode cX8_start 20 = .ok (.ldc 64, 2) := tb_d tk_X8_start_1 10 (20, .ldc 64, 2) rfl
theorem dX8_start_22 : decode cX8_start 22 = .ok (.ireturn, 1) := tb_d tk_X8_start_1 11 (22, .ireturn, 1) rfl
theorem dX8_start_23 : decode cX8_start 23 = .ok (.aload_n 0, 1) := tb_d tk_X8_start_1 12 (23, .aload_n 0, 1) rfl
theorem dX8_start_24 : decode cX8_start 24 = .ok (.invokevirtual 184, 3) := tb_d tk_X8_start_1 13 (24, .invokevirtual 184, 3) rfl
theorem dX8_start_27 : decode cX8_start 27 = .ok (.aload_n 0, 1) := tb_d tk_X8_start_1 14 (27, .aload_n 0, 1) rfl
theorem dX8_start_28 : decode cX8_start 28 = .ok (.getfield 25, 3) := tb_d tk_X8_start_1 15 (28, .getfield 25, 3) rfl
theorem dX8_start_31 : decode cX8_start 31 = .ok (.iconst 0, 1) := tb_d tk_X8_start_1 16 (31, .iconst 0, 1) rfl
theorem dX8_start_32 : decode cX8_start 32 = .ok (.iaload, 1) := tb_d tk_X8_start_1 17 (32, .iaload, 1) rfl
theorem dX8_start_33 : decode cX8_start 33 = .ok (.istore_n 2, 1) := tb_d tk_X8_start_1 18 (33, .istore_n 2, 1) rfl
theorem dX8_start_34 : decode cX8_start 34 = .ok (.aload_n 0, 1) := tb_d tk_X8_start_1 19 (34, .aload_n 0, 1) rfl
theorem dX8_start_35 : decode cX8_start 35 = .ok (.getfield 25, 3) := tb_d tk_X8_start_1 20 (35, .getfield 25, 3) rfl
theorem dX8_start_38 : decode cX8_start 38 = .ok (.iconst 0, 1) := tb_d tk_X8_start_1 21 (38, .iconst 0, 1) rfl
theorem dX8_start_39 : decode cX8_start 39 = .ok (.iload_n 1, 1) := tb_d tk_X8_start_1 22 (39, .iload_n 1, 1) rfl
theorem dX8_start_40 : decode cX8_start 40 = .ok (.iastore, 1) := tb_d tk_X8_start_1 23 (40, .iastore, 1) rfl
theorem dX8_start_41 : decode cX8_start 41 = .ok (.iload_n 2, 1) := tb_d tk_X8_start_1 24 (41, .iload_n 2, 1) rfl
theorem dX8_start_42 : decode cX8_start 42 = .ok (.ireturn, 1) := tb_d tk_X8_start_1 25 (42, .ireturn, 1) rfl
theorem ggX8_dismiss_X8_isGuard : GoodIn wsX8_dismiss wsX8_isGuard := fun w h => ⟨List.mem_cons_of_mem _ (List.mem_append_right _ (List.mem_append_right _ (List.mem_append_right _ (List.mem_append_right _ (List.mem_append_right _ (List.mem_append_left _ h)))))), good_of_word (gdX8_isGuard w h)⟩
set_option maxRecDepth 20000 in
theorem gX8_dismiss_X8_isGuard : GoodIn wsX8_dismiss (wsV RX8 199 RX8 yX8_isGuard wsX8_isGuard) := goodIn_app (a := bkV RX8 199 RX8 yX8_isGuard) (fun w h => ⟨List.mem_cons_of_mem _ (List.mem_append_right _ (List.mem_append_left _ h)), good_of_word (gd_bV _ _ _ _ w h)⟩) ggX8_dismiss_X8_isGuard
theorem ggX8_dismiss_X8_in : GoodIn wsX8_dismiss wsX8_in := fun w h => ⟨List.mem_cons_of_mem _ (List.mem_append_right _ (List.mem_append_right _ (List.mem_append_right _ (List.mem_append_right _ (List.mem_append_right _ (List.mem_append_right _ (List.mem_append_left _ h))))))), good_of_word (gdX8_in w h)⟩
set_option maxRecDepth 20000 in
theorem gX8_dismiss_X8_in : GoodIn wsX8_dismiss (va_wsS RX8 56 yX8_in wsX8_in) := goodIn_app (a := bkS RX8 56 yX8_in) (fun w h => ⟨List.mem_cons_of_mem _ (List.mem_append_right _ (List.mem_append_right _ (List.mem_append_left _ h))), good_of_word (gd_bS _ _ _ w h)⟩) ggX8_dismiss_X8_in
theorem ggX8_dismiss_X8_notes : GoodIn wsX8_dismiss wsX8_notes := fun w h => ⟨List.mem_cons_of_mem _ (List.mem_append_right _ (List.mem_append_right _ (List.mem_append_right _ (List.mem_append_right _ (List.mem_append_right _ (List.mem_append_right _ (List.mem_append_right _ (List.mem_append_left _ h)))))))), good_of_word (gdX8_notes w h)⟩
set_option maxRecDepth 20000 in
theorem gX8_dismiss_X8_notes : GoodIn wsX8_dismiss (wsV RX8 184 RX8 yX8_notes wsX8_notes) := goodIn_app (a := bkV RX8 184 RX8 yX8_notes) (fun w h => ⟨List.mem_cons_of_mem _ (List.mem_append_right _ (List.mem_append_right _ (List.mem_append_right _ (List.mem_append_left _ h)))), good_of_word (gd_bV _ _ _ _ w h)⟩) ggX8_dismiss_X8_notes
def tb_X8_dismiss_1 : List (Nat × Instr × Nat) := [(0, .aload_n 0, 1), (1, .iload_n 1, 1), (2, .invokevirtual 199, 3), (5, .ifCond .eq 12, 3), (8, .iload_n 2, 1), (9, .iconst 0, 1), (10, .iconst 1, 1), (11, .invokestatic 56, 3), (14, .ifCond .ne 6, 3), (17, .ldc 64, 2), (19, .ireturn, 1), (20, .aload_n 0, 1), (21, .getfield 25, 3), (24, .bipush 6, 2), (26, .iaload, 1), (27, .iload_n 1, 1), (28, .ishr, 1), (29, .iconst 1, 1), (30, .iand, 1), (31, .iload_n 2, 1), (32, .if_icmp .ne 6, 3), (35, .ldc 183, 2), (37, .ireturn, 1), (38, .aload_n 0, 1), (39, .invokevirtual 184, 3), (42, .aload_n 0, 1), (43, .getfield 25, 3), (46, .bipush 6, 2), (48, .dup2, 1), (49, .iaload, 1), (50, .iconst 1, 1), (51, .iload_n 1, 1), (52, .ishl, 1), (53, .ixor, 1), (54, .iastore, 1), (55, .aload_n 0, 1), (56, .getfield 25, 3), (59, .bipush 6, 2), (61, .iaload, 1), (62, .ireturn, 1)]
set_option maxRecDepth 100000 in
theorem tk_X8_dismiss_1 : (tb_X8_dismiss_1.all fun q => decide (decode cX8_dismiss q.1 = .ok q.2)) = true := by decide +kernel
theorem dX8_dismiss_0 : decode cX8_dismiss 0 = .ok (.aload_n 0, 1) := tb_d tk_X8_dismiss_1 0 (0, .aload_n 0, 1) rfl
theorem dX8_dismiss_1 : decode cX8_dismiss 1 = .ok (.iload_n 1, 1) := tb_d tk_X8_dismiss_1 1 (1, .iload_n 1, 1) rfl
theorem dX8_dismiss_2 : decode cX8_dismiss 2 = .ok (.invokevirtual 199, 3) := tb_d tk_X8_dismiss_1 2 (2, .invokevirtual 199, 3) rfl
theorem dX8_dismiss_5 : decode cX8_dismiss 5 = .ok (.ifCond .eq 12, 3) := tb_d tk_X8_dismiss_1 3 (5, .ifCond .eq 12, 3) rfl
theorem dX8_dismiss_8 : decode cX8_dismiss 8 = .ok (.iload_n 2, 1) := tb_d tk_X8_dismiss_1 4 (8, .iload_n 2, 1) rfl
theorem dX8_dismiss_9 : decode cX8_dismiss 9 = .ok (.iconst 0, 1) := tb_d tk_X8_dismiss_1 5 (9, .iconst 0, 1) rfl
theorem dX8_dismiss_10 : decode cX8_dismiss 10 = .ok (.iconst 1, 1) := tb_d tk_X8_dismiss_1 6 (10, .iconst 1, 1) rfl
theorem dX8_dismiss_11 : decode cX8_dismiss 11 = .ok (.invokestatic 56, 3) := tb_d tk_X8_dismiss_1 7 (11, .invokestatic 56, 3) rfl
theorem dX8_dismiss_14 : decode cX8_dismiss 14 = .ok (.ifCond .ne 6, 3) := tb_d tk_X8_dismiss_1 8 (14, .ifCond .ne 6, 3) rfl
theorem dX8_dismiss_17 : decode cX8_dismiss 17 = .ok (.ldc 64, 2) := tb_d tk_X8_dismiss_1 9 (17, .ldc 64, 2) rfl
theorem dX8_dismiss_19 : decode cX8_dismiss 19 = .ok (.ireturn, 1) := tb_d tk_X8_dismiss_1 10 (19, .ireturn, 1) rfl
theorem dX8_dismiss_20 : decode cX8_dismiss 20 = .ok (.aload_n 0, 1) := tb_d tk_X8_dismiss_1 11 (20, .aload_n 0, 1) rfl
theorem dX8_dismiss_21 : decode cX8_dismiss 21 = .ok (.getfield 25, 3) := tb_d tk_X8_dismiss_1 12 (21, .getfield 25, 3) rfl
theorem dX8_dismiss_24 : decode cX8_dismiss 24 = .ok (.bipush 6, 2) := tb_d tk_X8_dismiss_1 13 (24, .bipush 6, 2) rfl
theorem dX8_dismiss_26 : decode cX8_dismiss 26 = .ok (.iaload, 1) := tb_d tk_X8_dismiss_1 14 (26, .iaload, 1) rfl
theorem dX8_dismiss_27 : decode cX8_dismiss 27 = .ok (.iload_n 1, 1) := tb_d tk_X8_dismiss_1 15 (27, .iload_n 1, 1) rfl
theorem dX8_dismiss_28 : decode cX8_dismiss 28 = .ok (.ishr, 1) := tb_d tk_X8_dismiss_1 16 (28, .ishr, 1) rfl
theorem dX8_dismiss_29 : decode cX8_dismiss 29 = .ok (.iconst 1, 1) := tb_d tk_X8_dismiss_1 17 (29, .iconst 1, 1) rfl
theorem dX8_dismiss_30 : decode cX8_dismiss 30 = .ok (.iand, 1) := tb_d tk_X8_dismiss_1 18 (30, .iand, 1) rfl
theorem dX8_dismiss_31 : decode cX8_dismiss 31 = .ok (.iload_n 2, 1) := tb_d tk_X8_dismiss_1 19 (31, .iload_n 2, 1) rfl
theorem dX8_dismiss_32 : decode cX8_dismiss 32 = .ok (.if_icmp .ne 6, 3) := tb_d tk_X8_dismiss_1 20 (32, .if_icmp .ne 6, 3) rfl
theorem dX8_dismiss_35 : decode cX8_dismiss 35 = .ok (.ldc 183, 2) := tb_d tk_X8_dismiss_1 21 (35, .ldc 183, 2) rfl
theorem dX8_dismiss_37 : decode cX8_dismiss 37 = .ok (.ireturn, 1) := tb_d tk_X8_dismiss_1 22 (37, .ireturn, 1) rfl
theorem dX8_dismiss_38 : decode cX8_dismiss 38 = .ok (.aload_n 0, 1) := tb_d tk_X8_dismiss_1 23 (38, .aload_n 0, 1) rfl
theorem dX8_dismiss_39 : decode cX8_dismiss 39 = .ok (.invokevirtual 184, 3) := tb_d tk_X8_dismiss_1 24 (39, .invokevirtual 184, 3) rfl
theorem dX8_dismiss_42 : decode cX8_dismiss 42 = .ok (.aload_n 0, 1) := tb_d tk_X8_dismiss_1 25 (42, .aload_n 0, 1) rfl
theorem dX8_dismiss_43 : decode cX8_dismiss 43 = .ok (.getfield 25, 3) := tb_d tk_X8_dismiss_1 26 (43, .getfield 25, 3) rfl
theorem dX8_dismiss_46 : decode cX8_dismiss 46 = .ok (.bipush 6, 2) := tb_d tk_X8_dismiss_1 27 (46, .bipush 6, 2) rfl
theorem dX8_dismiss_48 : decode cX8_dismiss 48 = .ok (.dup2, 1) := tb_d tk_X8_dismiss_1 28 (48, .dup2, 1) rfl
theorem dX8_dismiss_49 : decode cX8_dismiss 49 = .ok (.iaload, 1) := tb_d tk_X8_dismiss_1 29 (49, .iaload, 1) rfl
theorem dX8_dismiss_50 : decode cX8_dismiss 50 = .ok (.iconst 1, 1) := tb_d tk_X8_dismiss_1 30 (50, .iconst 1, 1) rfl
theorem dX8_dismiss_51 : decode cX8_dismiss 51 = .ok (.iload_n 1, 1) := tb_d tk_X8_dismiss_1 31 (51, .iload_n 1, 1) rfl
theorem dX8_dismiss_52 : decode cX8_dismiss 52 = .ok (.ishl, 1) := tb_d tk_X8_dismiss_1 32 (52, .ishl, 1) rfl
theorem dX8_dismiss_53 : decode cX8_dismiss 53 = .ok (.ixor, 1) := tb_d tk_X8_dismiss_1 33 (53, .ixor, 1) rfl
theorem dX8_dismiss_54 : decode cX8_dismiss 54 = .ok (.iastore, 1) := tb_d tk_X8_dismiss_1 34 (54, .iastore, 1) rfl
theorem dX8_dismiss_55 : decode cX8_dismiss 55 = .ok (.aload_n 0, 1) := tb_d tk_X8_dismiss_1 35 (55, .aload_n 0, 1) rfl
theorem dX8_dismiss_56 : decode cX8_dismiss 56 = .ok (.getfield 25, 3) := tb_d tk_X8_dismiss_1 36 (56, .getfield 25, 3) rfl
theorem dX8_dismiss_59 : decode cX8_dismiss 59 = .ok (.bipush 6, 2) := tb_d tk_X8_dismiss_1 37 (59, .bipush 6, 2) rfl
theorem dX8_dismiss_61 : decode cX8_dismiss 61 = .ok (.iaload, 1) := tb_d tk_X8_dismiss_1 38 (61, .iaload, 1) rfl
theorem dX8_dismiss_62 : decode cX8_dismiss 62 = .ok (.ireturn, 1) := tb_d tk_X8_dismiss_1 39 (62, .ireturn, 1) rfl
theorem ggX8_undo_X8_copies : GoodIn wsX8_undo wsX8_copies := fun w h => ⟨List.mem_cons_of_mem _ (List.mem_append_right _ (List.mem_append_right _ (List.mem_append_right _ (List.mem_append_left _ h)))), good_of_word (gdX8_copies w h)⟩
set_option maxRecDepth 20000 in
theorem gX8_undo_X8_copies : GoodIn wsX8_undo (va_wsS RX8 145 yX8_copies wsX8_copies) := goodIn_app (a := bkS RX8 145 yX8_copies) (fun w h => ⟨List.mem_cons_of_mem _ (List.mem_append_right _ (List.mem_append_left _ h)), good_of_word (gd_bS _ _ _ w h)⟩) ggX8_undo_X8_copies
def tb_X8_undo_1 : List (Nat × Instr × Nat) := [(0, .aload_n 0, 1), (1, .getfield 149, 3), (4, .ifCond .ne 6, 3), (7, .ldc 183, 2), (9, .ireturn, 1), (10, .aload_n 0, 1), (11, .dup, 1), (12, .getfield 149, 3), (15, .iconst 1, 1), (16, .isub, 1), (17, .putfield 149, 3), (20, .aload_n 0, 1), (21, .getfield 34, 3), (24, .bipush 65, 2), (26, .aload_n 0, 1), (27, .getfield 149, 3), (30, .imul, 1), (31, .aload_n 0, 1), (32, .getfield 25, 3), (35, .iconst 0, 1), (36, .invokestatic 145, 3), (39, .aload_n 0, 1), (40, .getfield 149, 3), (43, .ireturn, 1)]
set_option maxRecDepth 100000 in
theorem tk_X8_undo_1 : (tb_X8_undo_1.all fun q => decide (decode cX8_undo q.1 = .ok q.2)) = true := by decide +kernel
theorem dX8_undo_0 : decode cX8_undo 0 = .ok (.aload_n 0, 1) := tb_d tk_X8_undo_1 0 (0, .aload_n 0, 1) rfl
theorem dX8_undo_1 : decode cX8_undo 1 = .ok (.getfield 149, 3) := tb_d tk_X8_undo_1 1 (1, .getfield 149, 3) rfl
theorem dX8_undo_4 : decode cX8_undo 4 = .ok (.ifCond .ne 6, 3) := tb_d tk_X8_undo_1 2 (4, .ifCond .ne 6, 3) rfl
theorem dX8_undo_7 : decode cX8_undo 7 = .ok (.ldc 183, 2) := tb_d tk_X8_undo_1 3 (7, .ldc 183, 2) rfl
theorem dX8_undo_9 : decode cX8_undo 9 = .ok (.ireturn, 1) := tb_d tk_X8_undo_1 4 (9, .ireturn, 1) rfl
theorem dX8_undo_10 : decode cX8_undo 10 = .ok (.aload_n 0, 1) := tb_d tk_X8_undo_1 5 (10, .aload_n 0, 1) rfl
theorem dX8_undo_11 : decode cX8_undo 11 = .ok (.dup, 1) := tb_d tk_X8_undo_1 6 (11, .dup, 1) rfl
theorem dX8_undo_12 : decode cX8_undo 12 = .ok (.getfield 149, 3) := tb_d tk_X8_undo_1 7 (12, .getfield 149, 3) rfl
theorem dX8_undo_15 : decode cX8_undo 15 = .ok (.iconst 1, 1) := tb_d tk_X8_undo_1 8 (15, .iconst 1, 1) rfl
theorem dX8_undo_16 : decode cX8_undo 16 = .ok (.isub, 1) := tb_d tk_X8_undo_1 9 (16, .isub, 1) rfl
theorem dX8_undo_17 : decode cX8_undo 17 = .ok (.putfield 149, 3) := tb_d tk_X8_undo_1 10 (17, .putfield 149, 3) rfl
theorem dX8_undo_20 : decode cX8_undo 20 = .ok (.aload_n 0, 1) := tb_d tk_X8_undo_1 11 (20, .aload_n 0, 1) rfl
theorem dX8_undo_21 : decode cX8_undo 21 = .ok (.getfield 34, 3) := tb_d tk_X8_undo_1 12 (21, .getfield 34, 3) rfl
theorem dX8_undo_24 : decode cX8_undo 24 = .ok (.bipush 65, 2) := tb_d tk_X8_undo_1 13 (24, .bipush 65, 2) rfl
theorem dX8_undo_26 : decode cX8_undo 26 = .ok (.aload_n 0, 1) := tb_d tk_X8_undo_1 14 (26, .aload_n 0, 1) rfl
theorem dX8_undo_27 : decode cX8_undo 27 = .ok (.getfield 149, 3) := tb_d tk_X8_undo_1 15 (27, .getfield 149, 3) rfl
theorem dX8_undo_30 : decode cX8_undo 30 = .ok (.imul, 1) := tb_d tk_X8_undo_1 16 (30, .imul, 1) rfl
theorem dX8_undo_31 : decode cX8_undo 31 = .ok (.aload_n 0, 1) := tb_d tk_X8_undo_1 17 (31, .aload_n 0, 1) rfl
theorem dX8_undo_32 : decode cX8_undo 32 = .ok (.getfield 25, 3) := tb_d tk_X8_undo_1 18 (32, .getfield 25, 3) rfl
theorem dX8_undo_35 : decode cX8_undo 35 = .ok (.iconst 0, 1) := tb_d tk_X8_undo_1 19 (35, .iconst 0, 1) rfl
theorem dX8_undo_36 : decode cX8_undo 36 = .ok (.invokestatic 145, 3) := tb_d tk_X8_undo_1 20 (36, .invokestatic 145, 3) rfl
theorem dX8_undo_39 : decode cX8_undo 39 = .ok (.aload_n 0, 1) := tb_d tk_X8_undo_1 21 (39, .aload_n 0, 1) rfl
theorem dX8_undo_40 : decode cX8_undo 40 = .ok (.getfield 149, 3) := tb_d tk_X8_undo_1 22 (40, .getfield 149, 3) rfl
theorem dX8_undo_43 : decode cX8_undo 43 = .ok (.ireturn, 1) := tb_d tk_X8_undo_1 23 (43, .ireturn, 1) rfl
theorem ggX8_letter_X8_isWord : GoodIn wsX8_letter wsX8_isWord := fun w h => ⟨List.mem_cons_of_mem _ (List.mem_append_right _ (List.mem_append_right _ (List.mem_append_right _ (List.mem_append_right _ (List.mem_append_left _ h))))), good_of_word (gdX8_isWord w h)⟩
set_option maxRecDepth 20000 in
theorem gX8_letter_X8_isWord : GoodIn wsX8_letter (wsV RX8 190 RX8 yX8_isWord wsX8_isWord) := goodIn_app (a := bkV RX8 190 RX8 yX8_isWord) (fun w h => ⟨List.mem_cons_of_mem _ (List.mem_append_right _ (List.mem_append_left _ h)), good_of_word (gd_bV _ _ _ _ w h)⟩) ggX8_letter_X8_isWord
theorem ggX8_letter_X8_in : GoodIn wsX8_letter wsX8_in := fun w h => ⟨List.mem_cons_of_mem _ (List.mem_append_right _ (List.mem_append_right _ (List.mem_append_right _ (List.mem_append_right _ (List.mem_append_right _ (List.mem_append_left _ h)))))), good_of_word (gdX8_in w h)⟩
set_option maxRecDepth 20000 in
theorem gX8_letter_X8_in : GoodIn wsX8_letter (va_wsS RX8 56 yX8_in wsX8_in) := goodIn_app (a := bkS RX8 56 yX8_in) (fun w h => ⟨List.mem_cons_of_mem _ (List.mem_append_right _ (List.mem_append_right _ (List.mem_append_left _ h))), good_of_word (gd_bS _ _ _ w h)⟩) ggX8_letter_X8_in
def tb_X8_letter_1 : List (Nat × Instr × Nat) := [(0, .aload_n 0, 1), (1, .iload_n 1, 1), (2, .invokevirtual 190, 3), (5, .ifCond .eq 28, 3), (8, .iload_n 2, 1), (9, .iconst 0, 1), (10, .iconst 2, 1), (11, .invokestatic 56, 3), (14, .ifCond .eq 19, 3), (17, .aload_n 0, 1), (18, .getfield 25, 3), (21, .bipush 8, 2), (23, .iconst 3, 1), (24, .iload_n 1, 1), (25, .imul, 1), (26, .iadd, 1), (27, .iload_n 2, 1), (28, .iadd, 1), (29, .iaload, 1), (30, .goto 5, 3), (33, .ldc 64, 2), (35, .ireturn, 1)]
set_option maxRecDepth 100000 in
theorem tk_X8_letter_1 : (tb_X8_letter_1.all fun q => decide (decode cX8_letter q.1 = .ok q.2)) = true := by decide +kernel
theorem dX8_letter_0 : decode cX8_letter 0 = .ok (.aload_n 0, 1) := tb_d tk_X8_letter_1 0 (0, .aload_n 0, 1) rfl
theorem dX8_letter_1 : decode cX8_letter 1 = .ok (.iload_n 1, 1) := tb_d tk_X8_letter_1 1 (1, .iload_n 1, 1) rfl
theorem dX8_letter_2 : decode cX8_letter 2 = .ok (.invokevirtual 190, 3) := tb_d tk_X8_letter_1 2 (2, .invokevirtual 190, 3) rfl
theorem dX8_letter_5 : decode cX8_letter 5 = .ok (.ifCond .eq 28, 3) := tb_d tk_X8_letter_1 3 (5, .ifCond .eq 28, 3) rfl
theorem dX8_letter_8 : decode cX8_letter 8 = .ok (.iload_n 2, 1) := tb_d tk_X8_letter_1 4 (8, .iload_n 2, 1) rfl
theorem dX8_letter_9 : decode cX8_letter 9 = .ok (.iconst 0, 1) := tb_d tk_X8_letter_1 5 (9, .iconst 0, 1) rfl
theorem dX8_letter_10 : decode cX8_letter 10 = .ok (.iconst 2, 1) := tb_d tk_X8_letter_1 6 (10, .iconst 2, 1) rfl
theorem dX8_letter_11 : decode cX8_letter 11 = .ok (.invokestatic 56, 3) := tb_d tk_X8_letter_1 7 (11, .invokestatic 56, 3) rfl
theorem dX8_letter_14 : decode cX8_letter 14 = .ok (.ifCond .eq 19, 3) := tb_d tk_X8_letter_1 8 (14, .ifCond .eq 19, 3) rfl
theorem dX8_letter_17 : decode cX8_letter 17 = .ok (.aload_n 0, 1) := tb_d tk_X8_letter_1 9 (17, .aload_n 0, 1) rfl
theorem dX8_letter_18 : decode cX8_letter 18 = .ok (.getfield 25, 3) := tb_d tk_X8_letter_1 10 (18, .getfield 25, 3) rfl
theorem dX8_letter_21 : decode cX8_letter 21 = .ok (.bipush 8, 2) := tb_d tk_X8_letter_1 11 (21, .bipush 8, 2) rfl
theorem dX8_letter_23 : decode cX8_letter 23 = .ok (.iconst 3, 1) := tb_d tk_X8_letter_1 12 (23, .iconst 3, 1) rfl
theorem dX8_letter_24 : decode cX8_letter 24 = .ok (.iload_n 1, 1) := tb_d tk_X8_letter_1 13 (24, .iload_n 1, 1) rfl
theorem dX8_letter_25 : decode cX8_letter 25 = .ok (.imul, 1) := tb_d tk_X8_letter_1 14 (25, .imul, 1) rfl
theorem dX8_letter_26 : decode cX8_letter 26 = .ok (.iadd, 1) := tb_d tk_X8_letter_1 15 (26, .iadd, 1) rfl
theorem dX8_letter_27 : decode cX8_letter 27 = .ok (.iload_n 2, 1) := tb_d tk_X8_letter_1 16 (27, .iload_n 2, 1) rfl
theorem dX8_letter_28 : decode cX8_letter 28 = .ok (.iadd, 1) := tb_d tk_X8_letter_1 17 (28, .iadd, 1) rfl
theorem dX8_letter_29 : decode cX8_letter 29 = .ok (.iaload, 1) := tb_d tk_X8_letter_1 18 (29, .iaload, 1) rfl
theorem dX8_letter_30 : decode cX8_letter 30 = .ok (.goto 5, 3) := tb_d tk_X8_letter_1 19 (30, .goto 5, 3) rfl
theorem dX8_letter_33 : decode cX8_letter 33 = .ok (.ldc 64, 2) := tb_d tk_X8_letter_1 20 (33, .ldc 64, 2) rfl
theorem dX8_letter_35 : decode cX8_letter 35 = .ok (.ireturn, 1) := tb_d tk_X8_letter_1 21 (35, .ireturn, 1) rfl
theorem ggX8_like_X8_isWord : GoodIn wsX8_like wsX8_isWord := fun w h => ⟨List.mem_cons_of_mem _ (List.mem_append_right _ (List.mem_append_right _ (List.mem_append_right _ (List.mem_append_right _ (List.mem_append_right _ (List.mem_append_right _ (List.mem_append_left _ h))))))), good_of_word (gdX8_isWord w h)⟩
set_option maxRecDepth 20000 in
theorem gX8_like_X8_isWord : GoodIn wsX8_like (wsV RX8 190 RX8 yX8_isWord wsX8_isWord) := goodIn_app (a := bkV RX8 190 RX8 yX8_isWord) (fun w h => ⟨List.mem_cons_of_mem _ (List.mem_append_right _ (List.mem_append_left _ h)), good_of_word (gd_bV _ _ _ _ w h)⟩) ggX8_like_X8_isWord
theorem ggX8_like_X8_in : GoodIn wsX8_like wsX8_in := fun w h => ⟨List.mem_cons_of_mem _ (List.mem_append_right _ (List.mem_append_right _ (List.mem_append_right _ (List.mem_append_right _ (List.mem_append_right _ (List.mem_append_right _ (List.mem_append_right _ (List.mem_append_left _ h)))))))), good_of_word (gdX8_in w h)⟩
set_option maxRecDepth 20000 in
theorem gX8_like_X8_in : GoodIn wsX8_like (va_wsS RX8 56 yX8_in wsX8_in) := goodIn_app (a := bkS RX8 56 yX8_in) (fun w h => ⟨List.mem_cons_of_mem _ (List.mem_append_right _ (List.mem_append_right _ (List.mem_append_left _ h))), good_of_word (gd_bS _ _ _ w h)⟩) ggX8_like_X8_in
theorem ggX8_like_X8_distance : GoodIn wsX8_like wsX8_distance := fun w h => ⟨List.mem_cons_of_mem _ (List.mem_append_right _ (List.mem_append_right _ (List.mem_append_right _ (List.mem_append_right _ (List.mem_append_right _ (List.mem_append_right _ (List.mem_append_right _ (List.mem_append_right _ (List.mem_append_left _ h))))))))), good_of_word (gdX8_distance w h)⟩
set_option maxRecDepth 20000 in
theorem gX8_like_X8_distance : GoodIn wsX8_like (wsV RX8 152 RX8 yX8_distance wsX8_distance) := goodIn_app (a := bkV RX8 152 RX8 yX8_distance) (fun w h => ⟨List.mem_cons_of_mem _ (List.mem_append_right _ (List.mem_append_right _ (List.mem_append_right _ (List.mem_append_left _ h)))), good_of_word (gd_bV _ _ _ _ w h)⟩) ggX8_like_X8_distance
theorem ggX8_like_X8_lips : GoodIn wsX8_like wsX8_lips := fun w h => ⟨List.mem_cons_of_mem _ (List.mem_append_right _ (List.mem_append_right _ (List.mem_append_right _ (List.mem_append_right _ (List.mem_append_right _ (List.mem_append_right _ (List.mem_append_right _ (List.mem_append_right _ (List.mem_append_right _ (List.mem_append_left _ h)))))))))), good_of_word (gdX8_lips w h)⟩
set_option maxRecDepth 20000 in
theorem gX8_like_X8_lips : GoodIn wsX8_like (wsV RX8 155 RX8 yX8_lips wsX8_lips) := goodIn_app (a := bkV RX8 155 RX8 yX8_lips) (fun w h => ⟨List.mem_cons_of_mem _ (List.mem_append_right _ (List.mem_append_right _ (List.mem_append_right _ (List.mem_append_right _ (List.mem_append_left _ h))))), good_of_word (gd_bV _ _ _ _ w h)⟩) ggX8_like_X8_lips
def tb_X8_like_1 : List (Nat × Instr × Nat) := [(0, .aload_n 0, 1), (1, .iload_n 1, 1), (2, .invokevirtual 190, 3), (5, .ifCond .eq 20, 3), (8, .aload_n 0, 1), (9, .iload_n 2, 1), (10, .invokevirtual 190, 3), (13, .ifCond .eq 12, 3), (16, .iload_n 3, 1), (17, .iconst 0, 1), (18, .iconst 1, 1), (19, .invokestatic 56, 3), (22, .ifCond .ne 6, 3), (25, .ldc 64, 2), (27, .ireturn, 1), (28, .iload_n 3, 1), (29, .ifCond .ne 12, 3), (32, .aload_n 0, 1), (33, .iload_n 1, 1), (34, .iload_n 2, 1), (35, .invokevirtual 152, 3), (38, .goto 9, 3), (41, .aload_n 0, 1), (42, .iload_n 1, 1), (43, .iload_n 2, 1), (44, .invokevirtual 155, 3), (47, .ireturn, 1)]
set_option maxRecDepth 100000 in
theorem tk_X8_like_1 : (tb_X8_like_1.all fun q => decide (decode cX8_like q.1 = .ok q.2)) = true := by decide +kernel
theorem dX8_like_0 : decode cX8_like 0 = .ok (.aload_n 0, 1) := tb_d tk_X8_like_1 0 (0, .aload_n 0, 1) rfl
theorem dX8_like_1 : decode cX8_like 1 = .ok (.iload_n 1, 1) := tb_d tk_X8_like_1 1 (1, .iload_n 1, 1) rfl
theorem dX8_like_2 : decode cX8_like 2 = .ok (.invokevirtual 190, 3) := tb_d tk_X8_like_1 2 (2, .invokevirtual 190, 3) rfl
theorem dX8_like_5 : decode cX8_like 5 = .ok (.ifCond .eq 20, 3) := tb_d tk_X8_like_1 3 (5, .ifCond .eq 20, 3) rfl
theorem dX8_like_8 : decode cX8_like 8 = .ok (.aload_n 0, 1) := tb_d tk_X8_like_1 4 (8, .aload_n 0, 1) rfl
theorem dX8_like_9 : decode cX8_like 9 = .ok (.iload_n 2, 1) := tb_d tk_X8_like_1 5 (9, .iload_n 2, 1) rfl
theorem dX8_like_10 : decode cX8_like 10 = .ok (.invokevirtual 190, 3) := tb_d tk_X8_like_1 6 (10, .invokevirtual 190, 3) rfl
theorem dX8_like_13 : decode cX8_like 13 = .ok (.ifCond .eq 12, 3) := tb_d tk_X8_like_1 7 (13, .ifCond .eq 12, 3) rfl
theorem dX8_like_16 : decode cX8_like 16 = .ok (.iload_n 3, 1) := tb_d tk_X8_like_1 8 (16, .iload_n 3, 1) rfl
theorem dX8_like_17 : decode cX8_like 17 = .ok (.iconst 0, 1) := tb_d tk_X8_like_1 9 (17, .iconst 0, 1) rfl
theorem dX8_like_18 : decode cX8_like 18 = .ok (.iconst 1, 1) := tb_d tk_X8_like_1 10 (18, .iconst 1, 1) rfl
theorem dX8_like_19 : decode cX8_like 19 = .ok (.invokestatic 56, 3) := tb_d tk_X8_like_1 11 (19, .invokestatic 56, 3) rfl
theorem dX8_like_22 : decode cX8_like 22 = .ok (.ifCond .ne 6, 3) := tb_d tk_X8_like_1 12 (22, .ifCond .ne 6, 3) rfl
theorem dX8_like_25 : decode cX8_like 25 = .ok (.ldc 64, 2) := tb_d tk_X8_like_1 13 (25, .ldc 64, 2) rfl
theorem dX8_like_27 : decode cX8_like 27 = .ok (.ireturn, 1) := tb_d tk_X8_like_1 14 (27, .ireturn, 1) rfl
theorem dX8_like_28 : decode cX8_like 28 = .ok (.iload_n 3, 1) := tb_d tk_X8_like_1 15 (28, .iload_n 3, 1) rfl
theorem dX8_like_29 : decode cX8_like 29 = .ok (.ifCond .ne 12, 3) := tb_d tk_X8_like_1 16 (29, .ifCond .ne 12, 3) rfl
theorem dX8_like_32 : decode cX8_like 32 = .ok (.aload_n 0, 1) := tb_d tk_X8_like_1 17 (32, .aload_n 0, 1) rfl
theorem dX8_like_33 : decode cX8_like 33 = .ok (.iload_n 1, 1) := tb_d tk_X8_like_1 18 (33, .iload_n 1, 1) rfl
theorem dX8_like_34 : decode cX8_like 34 = .ok (.iload_n 2, 1) := tb_d tk_X8_like_1 19 (34, .iload_n 2, 1) rfl
theorem dX8_like_35 : decode cX8_like 35 = .ok (.invokevirtual 152, 3) := tb_d tk_X8_like_1 20 (35, .invokevirtual 152, 3) rfl
theorem dX8_like_38 : decode cX8_like 38 = .ok (.goto 9, 3) := tb_d tk_X8_like_1 21 (38, .goto 9, 3) rfl
theorem dX8_like_41 : decode cX8_like 41 = .ok (.aload_n 0, 1) := tb_d tk_X8_like_1 22 (41, .aload_n 0, 1) rfl
theorem dX8_like_42 : decode cX8_like 42 = .ok (.iload_n 1, 1) := tb_d tk_X8_like_1 23 (42, .iload_n 1, 1) rfl
theorem dX8_like_43 : decode cX8_like 43 = .ok (.iload_n 2, 1) := tb_d tk_X8_like_1 24 (43, .iload_n 2, 1) rfl
theorem dX8_like_44 : decode cX8_like 44 = .ok (.invokevirtual 155, 3) := tb_d tk_X8_like_1 25 (44, .invokevirtual 155, 3) rfl
theorem dX8_like_47 : decode cX8_like 47 = .ok (.ireturn, 1) := tb_d tk_X8_like_1 26 (47, .ireturn, 1) rfl
theorem ggX8_hoursOf_X8_guardOn : GoodIn wsX8_hoursOf wsX8_guardOn := fun w h => ⟨List.mem_cons_of_mem _ (List.mem_append_right _ (List.mem_append_right _ (List.mem_append_right _ (List.mem_append_left _ h)))), good_of_word (gdX8_guardOn w h)⟩
set_option maxRecDepth 20000 in
theorem gX8_hoursOf_X8_guardOn : GoodIn wsX8_hoursOf (wsV RX8 158 RX8 yX8_guardOn wsX8_guardOn) := goodIn_app (a := bkV RX8 158 RX8 yX8_guardOn) (fun w h => ⟨List.mem_cons_of_mem _ (List.mem_append_right _ (List.mem_append_left _ h)), good_of_word (gd_bV _ _ _ _ w h)⟩) ggX8_hoursOf_X8_guardOn
def tb_X8_hoursOf_1 : List (Nat × Instr × Nat) := [(0, .iconst 0, 1), (1, .istore_n 2, 1), (2, .iconst 0, 1), (3, .istore_n 3, 1), (4, .iload_n 3, 1), (5, .bipush 6, 2), (7, .if_icmp .ge 34, 3), (10, .iload_n 2, 1), (11, .aload_n 0, 1), (12, .iload_n 3, 1), (13, .aload_n 0, 1), (14, .getfield 25, 3), (17, .iconst 5, 1), (18, .iaload, 1), (19, .invokevirtual 158, 3), (22, .iload_n 1, 1), (23, .if_icmp .ne 9, 3), (26, .iconst 1, 1), (27, .iload_n 3, 1), (28, .ishl, 1), (29, .goto 4, 3), (32, .iconst 0, 1), (33, .ior, 1), (34, .istore_n 2, 1), (35, .iinc 3 1, 3), (38, .goto (-34), 3), (41, .iload_n 2, 1), (42, .ireturn, 1)]
set_option maxRecDepth 100000 in
theorem tk_X8_hoursOf_1 : (tb_X8_hoursOf_1.all fun q => decide (decode cX8_hoursOf q.1 = .ok q.2)) = true := by decide +kernel
theorem dX8_hoursOf_0 : decode cX8_hoursOf 0 = .ok (.iconst 0, 1) := tb_d tk_X8_hoursOf_1 0 (0, .iconst 0, 1) rfl
theorem dX8_hoursOf_1 : decode cX8_hoursOf 1 = .ok (.istore_n 2, 1) := tb_d tk_X8_hoursOf_1 1 (1, .istore_n 2, 1) rfl
theorem dX8_hoursOf_2 : decode cX8_hoursOf 2 = .ok (.iconst 0, 1) := tb_d tk_X8_hoursOf_1 2 (2, .iconst 0, 1) rfl
theorem dX8_hoursOf_3 : decode cX8_hoursOf 3 = .ok (.istore_n 3, 1) := tb_d tk_X8_hoursOf_1 3 (3, .istore_n 3, 1) rfl
theorem dX8_hoursOf_4 : decode cX8_hoursOf 4 = .ok (.iload_n 3, 1) := tb_d tk_X8_hoursOf_1 4 (4, .iload_n 3, 1) rfl
theorem dX8_hoursOf_5 : decode cX8_hoursOf 5 = .ok (.bipush 6, 2) := tb_d tk_X8_hoursOf_1 5 (5, .bipush 6, 2) rfl
theorem dX8_hoursOf_7 : decode cX8_hoursOf 7 = .ok (.if_icmp .ge 34, 3) := tb_d tk_X8_hoursOf_1 6 (7, .if_icmp .ge 34, 3) rfl
theorem dX8_hoursOf_10 : decode cX8_hoursOf 10 = .ok (.iload_n 2, 1) := tb_d tk_X8_hoursOf_1 7 (10, .iload_n 2, 1) rfl
theorem dX8_hoursOf_11 : decode cX8_hoursOf 11 = .ok (.aload_n 0, 1) := tb_d tk_X8_hoursOf_1 8 (11, .aload_n 0, 1) rfl
theorem dX8_hoursOf_12 : decode cX8_hoursOf 12 = .ok (.iload_n 3, 1) := tb_d tk_X8_hoursOf_1 9 (12, .iload_n 3, 1) rfl
theorem dX8_hoursOf_13 : decode cX8_hoursOf 13 = .ok (.aload_n 0, 1) := tb_d tk_X8_hoursOf_1 10 (13, .aload_n 0, 1) rfl
theorem dX8_hoursOf_14 : decode cX8_hoursOf 14 = .ok (.getfield 25, 3) := tb_d tk_X8_hoursOf_1 11 (14, .getfield 25, 3) rfl
theorem dX8_hoursOf_17 : decode cX8_hoursOf 17 = .ok (.iconst 5, 1) := tb_d tk_X8_hoursOf_1 12 (17, .iconst 5, 1) rfl
theorem dX8_hoursOf_18 : decode cX8_hoursOf 18 = .ok (.iaload, 1) := tb_d tk_X8_hoursOf_1 13 (18, .iaload, 1) rfl
theorem dX8_hoursOf_19 : decode cX8_hoursOf 19 = .ok (.invokevirtual 158, 3) := tb_d tk_X8_hoursOf_1 14 (19, .invokevirtual 158, 3) rfl
theorem dX8_hoursOf_22 : decode cX8_hoursOf 22 = .ok (.iload_n 1, 1) := tb_d tk_X8_hoursOf_1 15 (22, .iload_n 1, 1) rfl
theorem dX8_hoursOf_23 : decode cX8_hoursOf 23 = .ok (.if_icmp .ne 9, 3) := tb_d tk_X8_hoursOf_1 16 (23, .if_icmp .ne 9, 3) rfl
theorem dX8_hoursOf_26 : decode cX8_hoursOf 26 = .ok (.iconst 1, 1) := tb_d tk_X8_hoursOf_1 17 (26, .iconst 1, 1) rfl
theorem dX8_hoursOf_27 : decode cX8_hoursOf 27 = .ok (.iload_n 3, 1) := tb_d tk_X8_hoursOf_1 18 (27, .iload_n 3, 1) rfl
theorem dX8_hoursOf_28 : decode cX8_hoursOf 28 = .ok (.ishl, 1) := tb_d tk_X8_hoursOf_1 19 (28, .ishl, 1) rfl
theorem dX8_hoursOf_29 : decode cX8_hoursOf 29 = .ok (.goto 4, 3) := tb_d tk_X8_hoursOf_1 20 (29, .goto 4, 3) rfl
theorem dX8_hoursOf_32 : decode cX8_hoursOf 32 = .ok (.iconst 0, 1) := tb_d tk_X8_hoursOf_1 21 (32, .iconst 0, 1) rfl
theorem dX8_hoursOf_33 : decode cX8_hoursOf 33 = .ok (.ior, 1) := tb_d tk_X8_hoursOf_1 22 (33, .ior, 1) rfl
theorem dX8_hoursOf_34 : decode cX8_hoursOf 34 = .ok (.istore_n 2, 1) := tb_d tk_X8_hoursOf_1 23 (34, .istore_n 2, 1) rfl
theorem dX8_hoursOf_35 : decode cX8_hoursOf 35 = .ok (.iinc 3 1, 3) := tb_d tk_X8_hoursOf_1 24 (35, .iinc 3 1, 3) rfl
theorem dX8_hoursOf_38 : decode cX8_hoursOf 38 = .ok (.goto (-34), 3) := tb_d tk_X8_hoursOf_1 25 (38, .goto (-34), 3) rfl
theorem dX8_hoursOf_41 : decode cX8_hoursOf 41 = .ok (.iload_n 2, 1) := tb_d tk_X8_hoursOf_1 26 (41, .iload_n 2, 1) rfl
theorem dX8_hoursOf_42 : decode cX8_hoursOf 42 = .ok (.ireturn, 1) := tb_d tk_X8_hoursOf_1 27 (42, .ireturn, 1) rfl
theorem ggX8_guard_X8_isGuard : GoodIn wsX8_guard wsX8_isGuard := fun w h => ⟨List.mem_cons_of_mem _ (List.mem_append_right _ (List.mem_append_right _ (List.mem_append_right _ (List.mem_append_right _ (List.mem_append_left _ h))))), good_of_word (gdX8_isGuard w h)⟩
set_option maxRecDepth 20000 in
theorem gX8_guard_X8_isGuard : GoodIn wsX8_guard (wsV RX8 199 RX8 yX8_isGuard wsX8_isGuard) := goodIn_app (a := bkV RX8 199 RX8 yX8_isGuard) (fun w h => ⟨List.mem_cons_of_mem _ (List.mem_append_right _ (List.mem_append_left _ h)), good_of_word (gd_bV _ _ _ _ w h)⟩) ggX8_guard_X8_isGuard
theorem ggX8_guard_X8_hoursOf : GoodIn wsX8_guard wsX8_hoursOf := fun w h => ⟨List.mem_cons_of_mem _ (List.mem_append_right _ (List.mem_append_right _ (List.mem_append_right _ (List.mem_append_right _ (List.mem_append_right _ (List.mem_append_left _ h)))))), good_of_word (gdX8_hoursOf w h)⟩
set_option maxRecDepth 20000 in
theorem gX8_guard_X8_hoursOf : GoodIn wsX8_guard (wsV RX8 202 RX8 yX8_hoursOf wsX8_hoursOf) := goodIn_app (a := bkV RX8 202 RX8 yX8_hoursOf) (fun w h => ⟨List.mem_cons_of_mem _ (List.mem_append_right _ (List.mem_append_right _ (List.mem_append_left _ h))), good_of_word (gd_bV _ _ _ _ w h)⟩) ggX8_guard_X8_hoursOf
def tb_X8_guard_1 : List (Nat × Instr × Nat) := [(0, .aload_n 0, 1), (1, .iload_n 1, 1), (2, .invokevirtual 199, 3), (5, .ifCond .ne 6, 3), (8, .ldc 64, 2), (10, .ireturn, 1), (11, .iload_n 2, 1), (12, .tableswitch 78 0 3 #[32, 46, 60, 72], 32), (44, .aload_n 0, 1), (45, .getfield 25, 3), (48, .bipush 26, 2), (50, .iconst 3, 1), (51, .iload_n 1, 1), (52, .imul, 1), (53, .iadd, 1), (54, .iconst 1, 1), (55, .iadd, 1), (56, .iaload, 1), (57, .ireturn, 1), (58, .aload_n 0, 1), (59, .getfield 25, 3), (62, .bipush 26, 2), (64, .iconst 3, 1), (65, .iload_n 1, 1), (66, .imul, 1), (67, .iadd, 1), (68, .iconst 2, 1), (69, .iadd, 1), (70, .iaload, 1), (71, .ireturn, 1), (72, .aload_n 0, 1), (73, .getfield 25, 3), (76, .bipush 6, 2), (78, .iaload, 1), (79, .iload_n 1, 1), (80, .ishr, 1), (81, .iconst 1, 1), (82, .iand, 1), (83, .ireturn, 1), (84, .aload_n 0, 1)]
set_option maxRecDepth 100000 in
theorem tk_X8_guard_1 : (tb_X8_guard_1.all fun q => decide (decode cX8_guard q.1 = .ok q.2)) = true := by decide +kernel
theorem dX8_guard_0 : decode cX8_guard 0 = .ok (.aload_n 0, 1) := tb_d tk_X8_guard_1 0 (0, .aload_n 0, 1) rfl
theorem dX8_guard_1 : decode cX8_guard 1 = .ok (.iload_n 1, 1) := tb_d tk_X8_guard_1 1 (1, .iload_n 1, 1) rfl
theorem dX8_guard_2 : decode cX8_guard 2 = .ok (.invokevirtual 199, 3) := tb_d tk_X8_guard_1 2 (2, .invokevirtual 199, 3) rfl
theorem dX8_guard_5 : decode cX8_guard 5 = .ok (.ifCond .ne 6, 3) := tb_d tk_X8_guard_1 3 (5, .ifCond .ne 6, 3) rfl
theorem dX8_guard_8 : decode cX8_guard 8 = .ok (.ldc 64, 2) := tb_d tk_X8_guard_1 4 (8, .ldc 64, 2) rfl
theorem dX8_guard_10 : decode cX8_guard 10 = .ok (.ireturn, 1) := tb_d tk_X8_guard_1 5 (10, .ireturn, 1) rfl
theorem dX8_guard_11 : decode cX8_guard 11 = .ok (.iload_n 2, 1) := tb_d tk_X8_guard_1 6 (11, .iload_n 2, 1) rfl
theorem dX8_guard_12 : decode cX8_guard 12 = .ok (.tableswitch 78 0 3 #[32, 46, 60, 72], 32) := tb_d tk_X8_guard_1 7 (12, .tableswitch 78 0 3 #[32, 46, 60, 72], 32) rfl
theorem dX8_guard_44 : decode cX8_guard 44 = .ok (.aload_n 0, 1) := tb_d tk_X8_guard_1 8 (44, .aload_n 0, 1) rfl
theorem dX8_guard_45 : decode cX8_guard 45 = .ok (.getfield 25, 3) := tb_d tk_X8_guard_1 9 (45, .getfield 25, 3) rfl
theorem dX8_guard_48 : decode cX8_guard 48 = .ok (.bipush 26, 2) := tb_d tk_X8_guard_1 10 (48, .bipush 26, 2) rfl
theorem dX8_guard_50 : decode cX8_guard 50 = .ok (.iconst 3, 1) := tb_d tk_X8_guard_1 11 (50, .iconst 3, 1) rfl
theorem dX8_guard_51 : decode cX8_guard 51 = .ok (.iload_n 1, 1) := tb_d tk_X8_guard_1 12 (51, .iload_n 1, 1) rfl
theorem dX8_guard_52 : decode cX8_guard 52 = .ok (.imul, 1) := tb_d tk_X8_guard_1 13 (52, .imul, 1) rfl
theorem dX8_guard_53 : decode cX8_guard 53 = .ok (.iadd, 1) := tb_d tk_X8_guard_1 14 (53, .iadd, 1) rfl
theorem dX8_guard_54 : decode cX8_guard 54 = .ok (.iconst 1, 1) := tb_d tk_X8_guard_1 15 (54, .iconst 1, 1) rfl
theorem dX8_guard_55 : decode cX8_guard 55 = .ok (.iadd, 1) := tb_d tk_X8_guard_1 16 (55, .iadd, 1) rfl
theorem dX8_guard_56 : decode cX8_guard 56 = .ok (.iaload, 1) := tb_d tk_X8_guard_1 17 (56, .iaload, 1) rfl
theorem dX8_guard_57 : decode cX8_guard 57 = .ok (.ireturn, 1) := tb_d tk_X8_guard_1 18 (57, .ireturn, 1) rfl
theorem dX8_guard_58 : decode cX8_guard 58 = .ok (.aload_n 0, 1) := tb_d tk_X8_guard_1 19 (58, .aload_n 0, 1) rfl
theorem dX8_guard_59 : decode cX8_guard 59 = .ok (.getfield 25, 3) := tb_d tk_X8_guard_1 20 (59, .getfield 25, 3) rfl
theorem dX8_guard_62 : decode cX8_guard 62 = .ok (.bipush 26, 2) := tb_d tk_X8_guard_1 21 (62, .bipush 26, 2) rfl
theorem dX8_guard_64 : decode cX8_guard 64 = .ok (.iconst 3, 1) := tb_d tk_X8_guard_1 22 (64, .iconst 3, 1) rfl
theorem dX8_guard_65 : decode cX8_guard 65 = .ok (.iload_n 1, 1) := tb_d tk_X8_guard_1 23 (65, .iload_n 1, 1) rfl
theorem dX8_guard_66 : decode cX8_guard 66 = .ok (.imul, 1) := tb_d tk_X8_guard_1 24 (66, .imul, 1) rfl
theorem dX8_guard_67 : decode cX8_guard 67 = .ok (.iadd, 1) := tb_d tk_X8_guard_1 25 (67, .iadd, 1) rfl
theorem dX8_guard_68 : decode cX8_guard 68 = .ok (.iconst 2, 1) := tb_d tk_X8_guard_1 26 (68, .iconst 2, 1) rfl
theorem dX8_guard_69 : decode cX8_guard 69 = .ok (.iadd, 1) := tb_d tk_X8_guard_1 27 (69, .iadd, 1) rfl
theorem dX8_guard_70 : decode cX8_guard 70 = .ok (.iaload, 1) := tb_d tk_X8_guard_1 28 (70, .iaload, 1) rfl
theorem dX8_guard_71 : decode cX8_guard 71 = .ok (.ireturn, 1) := tb_d tk_X8_guard_1 29 (71, .ireturn, 1) rfl
theorem dX8_guard_72 : decode cX8_guard 72 = .ok (.aload_n 0, 1) := tb_d tk_X8_guard_1 30 (72, .aload_n 0, 1) rfl
theorem dX8_guard_73 : decode cX8_guard 73 = .ok (.getfield 25, 3) := tb_d tk_X8_guard_1 31 (73, .getfield 25, 3) rfl
theorem dX8_guard_76 : decode cX8_guard 76 = .ok (.bipush 6, 2) := tb_d tk_X8_guard_1 32 (76, .bipush 6, 2) rfl
theorem dX8_guard_78 : decode cX8_guard 78 = .ok (.iaload, 1) := tb_d tk_X8_guard_1 33 (78, .iaload, 1) rfl
theorem dX8_guard_79 : decode cX8_guard 79 = .ok (.iload_n 1, 1) := tb_d tk_X8_guard_1 34 (79, .iload_n 1, 1) rfl
theorem dX8_guard_80 : decode cX8_guard 80 = .ok (.ishr, 1) := tb_d tk_X8_guard_1 35 (80, .ishr, 1) rfl
theorem dX8_guard_81 : decode cX8_guard 81 = .ok (.iconst 1, 1) := tb_d tk_X8_guard_1 36 (81, .iconst 1, 1) rfl
theorem dX8_guard_82 : decode cX8_guard 82 = .ok (.iand, 1) := tb_d tk_X8_guard_1 37 (82, .iand, 1) rfl
theorem dX8_guard_83 : decode cX8_guard 83 = .ok (.ireturn, 1) := tb_d tk_X8_guard_1 38 (83, .ireturn, 1) rfl
theorem dX8_guard_84 : decode cX8_guard 84 = .ok (.aload_n 0, 1) := tb_d tk_X8_guard_1 39 (84, .aload_n 0, 1) rfl
def tb_X8_guard_2 : List (Nat × Instr × Nat) := [(85, .iload_n 1, 1), (86, .invokevirtual 202, 3), (89, .ireturn, 1), (90, .ldc 64, 2), (92, .ireturn, 1)]
set_option maxRecDepth 100000 in
theorem tk_X8_guard_2 : (tb_X8_guard_2.all fun q => decide (decode cX8_guard q.1 = .ok q.2)) = true := by decide +kernel
theorem dX8_guard_85 : decode cX8_guard 85 = .ok (.iload_n 1, 1) := tb_d tk_X8_guard_2 0 (85, .iload_n 1, 1) rfl
theorem dX8_guard_86 : decode cX8_guard 86 = .ok (.invokevirtual 202, 3) := tb_d tk_X8_guard_2 1 (86, .invokevirtual 202, 3) rfl
theorem dX8_guard_89 : decode cX8_guard 89 = .ok (.ireturn, 1) := tb_d tk_X8_guard_2 2 (89, .ireturn, 1) rfl
theorem dX8_guard_90 : decode cX8_guard 90 = .ok (.ldc 64, 2) := tb_d tk_X8_guard_2 3 (90, .ldc 64, 2) rfl
theorem dX8_guard_92 : decode cX8_guard 92 = .ok (.ireturn, 1) := tb_d tk_X8_guard_2 4 (92, .ireturn, 1) rfl
theorem ggX8_tried_X8_in : GoodIn wsX8_tried wsX8_in := fun w h => ⟨List.mem_cons_of_mem _ (List.mem_append_right _ (List.mem_append_right _ (List.mem_append_right _ (List.mem_append_left _ h)))), good_of_word (gdX8_in w h)⟩
set_option maxRecDepth 20000 in
theorem gX8_tried_X8_in : GoodIn wsX8_tried (va_wsS RX8 56 yX8_in wsX8_in) := goodIn_app (a := bkS RX8 56 yX8_in) (fun w h => ⟨List.mem_cons_of_mem _ (List.mem_append_right _ (List.mem_append_left _ h)), good_of_word (gd_bS _ _ _ w h)⟩) ggX8_tried_X8_in
def tb_X8_tried_1 : List (Nat × Instr × Nat) := [(0, .iload_n 1, 1), (1, .iconst 0, 1), (2, .aload_n 0, 1), (3, .getfield 25, 3), (6, .bipush 7, 2), (8, .iaload, 1), (9, .iconst 1, 1), (10, .isub, 1), (11, .invokestatic 56, 3), (14, .ifCond .eq 12, 3), (17, .iload_n 2, 1), (18, .iconst 0, 1), (19, .iconst 2, 1), (20, .invokestatic 56, 3), (23, .ifCond .ne 6, 3), (26, .ldc 64, 2), (28, .ireturn, 1), (29, .aload_n 0, 1), (30, .getfield 25, 3), (33, .bipush 38, 2), (35, .iconst 3, 1), (36, .iload_n 1, 1), (37, .imul, 1), (38, .iadd, 1), (39, .iload_n 2, 1), (40, .iadd, 1), (41, .iaload, 1), (42, .istore_n 3, 1), (43, .iload_n 2, 1), (44, .iconst 1, 1), (45, .if_icmp .eq 7, 3), (48, .iload_n 3, 1), (49, .goto 15, 3), (52, .iload_n 3, 1), (53, .ifCond .ne 8, 3), (56, .ldc 50, 2), (58, .goto 6, 3), (61, .iload_n 3, 1), (62, .iconst 1, 1), (63, .isub, 1)]
set_option maxRecDepth 100000 in
theorem tk_X8_tried_1 : (tb_X8_tried_1.all fun q => decide (decode cX8_tried q.1 = .ok q.2)) = true := by decide +kernel
theorem dX8_tried_0 : decode cX8_tried 0 = .ok (.iload_n 1, 1) := tb_d tk_X8_tried_1 0 (0, .iload_n 1, 1) rfl
theorem dX8_tried_1 : decode cX8_tried 1 = .ok (.iconst 0, 1) := tb_d tk_X8_tried_1 1 (1, .iconst 0, 1) rfl
theorem dX8_tried_2 : decode cX8_tried 2 = .ok (.aload_n 0, 1) := tb_d tk_X8_tried_1 2 (2, .aload_n 0, 1) rfl
theorem dX8_tried_3 : decode cX8_tried 3 = .ok (.getfield 25, 3) := tb_d tk_X8_tried_1 3 (3, .getfield 25, 3) rfl
theorem dX8_tried_6 : decode cX8_tried 6 = .ok (.bipush 7, 2) := tb_d tk_X8_tried_1 4 (6, .bipush 7, 2) rfl
theorem dX8_tried_8 : decode cX8_tried 8 = .ok (.iaload, 1) := tb_d tk_X8_tried_1 5 (8, .iaload, 1) rfl
theorem dX8_tried_9 : decode cX8_tried 9 = .ok (.iconst 1, 1) := tb_d tk_X8_tried_1 6 (9, .iconst 1, 1) rfl
theorem dX8_tried_10 : decode cX8_tried 10 = .ok (.isub, 1) := tb_d tk_X8_tried_1 7 (10, .isub, 1) rfl
theorem dX8_tried_11 : decode cX8_tried 11 = .ok (.invokestatic 56, 3) := tb_d tk_X8_tried_1 8 (11, .invokestatic 56, 3) rfl
theorem dX8_tried_14 : decode cX8_tried 14 = .ok (.ifCond .eq 12, 3) := tb_d tk_X8_tried_1 9 (14, .ifCond .eq 12, 3) rfl
theorem dX8_tried_17 : decode cX8_tried 17 = .ok (.iload_n 2, 1) := tb_d tk_X8_tried_1 10 (17, .iload_n 2, 1) rfl
theorem dX8_tried_18 : decode cX8_tried 18 = .ok (.iconst 0, 1) := tb_d tk_X8_tried_1 11 (18, .iconst 0, 1) rfl
theorem dX8_tried_19 : decode cX8_tried 19 = .ok (.iconst 2, 1) := tb_d tk_X8_tried_1 12 (19, .iconst 2, 1) rfl
theorem dX8_tried_20 : decode cX8_tried 20 = .ok (.invokestatic 56, 3) := tb_d tk_X8_tried_1 13 (20, .invokestatic 56, 3) rfl
theorem dX8_tried_23 : decode cX8_tried 23 = .ok (.ifCond .ne 6, 3) := tb_d tk_X8_tried_1 14 (23, .ifCond .ne 6, 3) rfl
theorem dX8_tried_26 : decode cX8_tried 26 = .ok (.ldc 64, 2) := tb_d tk_X8_tried_1 15 (26, .ldc 64, 2) rfl
theorem dX8_tried_28 : decode cX8_tried 28 = .ok (.ireturn, 1) := tb_d tk_X8_tried_1 16 (28, .ireturn, 1) rfl
theorem dX8_tried_29 : decode cX8_tried 29 = .ok (.aload_n 0, 1) := tb_d tk_X8_tried_1 17 (29, .aload_n 0, 1) rfl
theorem dX8_tried_30 : decode cX8_tried 30 = .ok (.getfield 25, 3) := tb_d tk_X8_tried_1 18 (30, .getfield 25, 3) rfl
theorem dX8_tried_33 : decode cX8_tried 33 = .ok (.bipush 38, 2) := tb_d tk_X8_tried_1 19 (33, .bipush 38, 2) rfl
theorem dX8_tried_35 : decode cX8_tried 35 = .ok (.iconst 3, 1) := tb_d tk_X8_tried_1 20 (35, .iconst 3, 1) rfl
theorem dX8_tried_36 : decode cX8_tried 36 = .ok (.iload_n 1, 1) := tb_d tk_X8_tried_1 21 (36, .iload_n 1, 1) rfl
theorem dX8_tried_37 : decode cX8_tried 37 = .ok (.imul, 1) := tb_d tk_X8_tried_1 22 (37, .imul, 1) rfl
theorem dX8_tried_38 : decode cX8_tried 38 = .ok (.iadd, 1) := tb_d tk_X8_tried_1 23 (38, .iadd, 1) rfl
theorem dX8_tried_39 : decode cX8_tried 39 = .ok (.iload_n 2, 1) := tb_d tk_X8_tried_1 24 (39, .iload_n 2, 1) rfl
theorem dX8_tried_40 : decode cX8_tried 40 = .ok (.iadd, 1) := tb_d tk_X8_tried_1 25 (40, .iadd, 1) rfl
theorem dX8_tried_41 : decode cX8_tried 41 = .ok (.iaload, 1) := tb_d tk_X8_tried_1 26 (41, .iaload, 1) rfl
theorem dX8_tried_42 : decode cX8_tried 42 = .ok (.istore_n 3, 1) := tb_d tk_X8_tried_1 27 (42, .istore_n 3, 1) rfl
theorem dX8_tried_43 : decode cX8_tried 43 = .ok (.iload_n 2, 1) := tb_d tk_X8_tried_1 28 (43, .iload_n 2, 1) rfl
theorem dX8_tried_44 : decode cX8_tried 44 = .ok (.iconst 1, 1) := tb_d tk_X8_tried_1 29 (44, .iconst 1, 1) rfl
theorem dX8_tried_45 : decode cX8_tried 45 = .ok (.if_icmp .eq 7, 3) := tb_d tk_X8_tried_1 30 (45, .if_icmp .eq 7, 3) rfl
theorem dX8_tried_48 : decode cX8_tried 48 = .ok (.iload_n 3, 1) := tb_d tk_X8_tried_1 31 (48, .iload_n 3, 1) rfl
theorem dX8_tried_49 : decode cX8_tried 49 = .ok (.goto 15, 3) := tb_d tk_X8_tried_1 32 (49, .goto 15, 3) rfl
theorem dX8_tried_52 : decode cX8_tried 52 = .ok (.iload_n 3, 1) := tb_d tk_X8_tried_1 33 (52, .iload_n 3, 1) rfl
theorem dX8_tried_53 : decode cX8_tried 53 = .ok (.ifCond .ne 8, 3) := tb_d tk_X8_tried_1 34 (53, .ifCond .ne 8, 3) rfl
theorem dX8_tried_56 : decode cX8_tried 56 = .ok (.ldc 50, 2) := tb_d tk_X8_tried_1 35 (56, .ldc 50, 2) rfl
theorem dX8_tried_58 : decode cX8_tried 58 = .ok (.goto 6, 3) := tb_d tk_X8_tried_1 36 (58, .goto 6, 3) rfl
theorem dX8_tried_61 : decode cX8_tried 61 = .ok (.iload_n 3, 1) := tb_d tk_X8_tried_1 37 (61, .iload_n 3, 1) rfl
theorem dX8_tried_62 : decode cX8_tried 62 = .ok (.iconst 1, 1) := tb_d tk_X8_tried_1 38 (62, .iconst 1, 1) rfl
theorem dX8_tried_63 : decode cX8_tried 63 = .ok (.isub, 1) := tb_d tk_X8_tried_1 39 (63, .isub, 1) rfl
def tb_X8_tried_2 : List (Nat × Instr × Nat) := [(64, .ireturn, 1)]
set_option maxRecDepth 100000 in
theorem tk_X8_tried_2 : (tb_X8_tried_2.all fun q => decide (decode cX8_tried q.1 = .ok q.2)) = true := by decide +kernel
theorem dX8_tried_64 : decode cX8_tried 64 = .ok (.ireturn, 1) := tb_d tk_X8_tried_2 0 (64, .ireturn, 1) rfl
theorem ggX8_secret_X8_isGate : GoodIn wsX8_secret wsX8_isGate := fun w h => ⟨List.mem_cons_of_mem _ (List.mem_append_right _ (List.mem_append_right _ (List.mem_append_right _ (List.mem_append_right _ (List.mem_append_right _ (List.mem_append_left _ h)))))), good_of_word (gdX8_isGate w h)⟩
set_option maxRecDepth 20000 in
theorem gX8_secret_X8_isGate : GoodIn wsX8_secret (wsV RX8 180 RX8 yX8_isGate wsX8_isGate) := goodIn_app (a := bkV RX8 180 RX8 yX8_isGate) (fun w h => ⟨List.mem_cons_of_mem _ (List.mem_append_right _ (List.mem_append_left _ h)), good_of_word (gd_bV _ _ _ _ w h)⟩) ggX8_secret_X8_isGate
theorem ggX8_secret_X8_isFar : GoodIn wsX8_secret wsX8_isFar := fun w h => ⟨List.mem_cons_of_mem _ (List.mem_append_right _ (List.mem_append_right _ (List.mem_append_right _ (List.mem_append_right _ (List.mem_append_right _ (List.mem_append_right _ (List.mem_append_left _ h))))))), good_of_word (gdX8_isFar w h)⟩
set_option maxRecDepth 20000 in
theorem gX8_secret_X8_isFar : GoodIn wsX8_secret (va_wsS RX8 205 yX8_isFar wsX8_isFar) := goodIn_app (a := bkS RX8 205 yX8_isFar) (fun w h => ⟨List.mem_cons_of_mem _ (List.mem_append_right _ (List.mem_append_right _ (List.mem_append_left _ h))), good_of_word (gd_bS _ _ _ w h)⟩) ggX8_secret_X8_isFar
theorem ggX8_secret_X8_secretOf : GoodIn wsX8_secret wsX8_secretOf := fun w h => ⟨List.mem_cons_of_mem _ (List.mem_append_right _ (List.mem_append_right _ (List.mem_append_right _ (List.mem_append_right _ (List.mem_append_right _ (List.mem_append_right _ (List.mem_append_right _ (List.mem_append_left _ h)))))))), good_of_word (gdX8_secretOf w h)⟩
set_option maxRecDepth 20000 in
theorem gX8_secret_X8_secretOf : GoodIn wsX8_secret (va_wsS RX8 172 yX8_secretOf wsX8_secretOf) := goodIn_app (a := bkS RX8 172 yX8_secretOf) (fun w h => ⟨List.mem_cons_of_mem _ (List.mem_append_right _ (List.mem_append_right _ (List.mem_append_right _ (List.mem_append_left _ h)))), good_of_word (gd_bS _ _ _ w h)⟩) ggX8_secret_X8_secretOf
def tb_X8_secret_1 : List (Nat × Instr × Nat) := [(0, .aload_n 0, 1), (1, .invokevirtual 180, 3), (4, .ifCond .ne 6, 3), (7, .ldc 183, 2), (9, .ireturn, 1), (10, .iload_n 1, 1), (11, .invokestatic 205, 3), (14, .ifCond .eq 21, 3), (17, .aload_n 0, 1), (18, .getfield 25, 3), (21, .aload_n 0, 1), (22, .getfield 25, 3), (25, .iconst 5, 1), (26, .iaload, 1), (27, .iload_n 1, 1), (28, .iadd, 1), (29, .invokestatic 172, 3), (32, .goto 5, 3), (35, .ldc 64, 2), (37, .ireturn, 1)]
set_option maxRecDepth 100000 in
theorem tk_X8_secret_1 : (tb_X8_secret_1.all fun q => decide (decode cX8_secret q.1 = .ok q.2)) = true := by decide +kernel
theorem dX8_secret_0 : decode cX8_secret 0 = .ok (.aload_n 0, 1) := tb_d tk_X8_secret_1 0 (0, .aload_n 0, 1) rfl
theorem dX8_secret_1 : decode cX8_secret 1 = .ok (.invokevirtual 180, 3) := tb_d tk_X8_secret_1 1 (1, .invokevirtual 180, 3) rfl
theorem dX8_secret_4 : decode cX8_secret 4 = .ok (.ifCond .ne 6, 3) := tb_d tk_X8_secret_1 2 (4, .ifCond .ne 6, 3) rfl
theorem dX8_secret_7 : decode cX8_secret 7 = .ok (.ldc 183, 2) := tb_d tk_X8_secret_1 3 (7, .ldc 183, 2) rfl
theorem dX8_secret_9 : decode cX8_secret 9 = .ok (.ireturn, 1) := tb_d tk_X8_secret_1 4 (9, .ireturn, 1) rfl
theorem dX8_secret_10 : decode cX8_secret 10 = .ok (.iload_n 1, 1) := tb_d tk_X8_secret_1 5 (10, .iload_n 1, 1) rfl
theorem dX8_secret_11 : decode cX8_secret 11 = .ok (.invokestatic 205, 3) := tb_d tk_X8_secret_1 6 (11, .invokestatic 205, 3) rfl
theorem dX8_secret_14 : decode cX8_secret 14 = .ok (.ifCond .eq 21, 3) := tb_d tk_X8_secret_1 7 (14, .ifCond .eq 21, 3) rfl
theorem dX8_secret_17 : decode cX8_secret 17 = .ok (.aload_n 0, 1) := tb_d tk_X8_secret_1 8 (17, .aload_n 0, 1) rfl
theorem dX8_secret_18 : decode cX8_secret 18 = .ok (.getfield 25, 3) := tb_d tk_X8_secret_1 9 (18, .getfield 25, 3) rfl
theorem dX8_secret_21 : decode cX8_secret 21 = .ok (.aload_n 0, 1) := tb_d tk_X8_secret_1 10 (21, .aload_n 0, 1) rfl
theorem dX8_secret_22 : decode cX8_secret 22 = .ok (.getfield 25, 3) := tb_d tk_X8_secret_1 11 (22, .getfield 25, 3) rfl
theorem dX8_secret_25 : decode cX8_secret 25 = .ok (.iconst 5, 1) := tb_d tk_X8_secret_1 12 (25, .iconst 5, 1) rfl
theorem dX8_secret_26 : decode cX8_secret 26 = .ok (.iaload, 1) := tb_d tk_X8_secret_1 13 (26, .iaload, 1) rfl
theorem dX8_secret_27 : decode cX8_secret 27 = .ok (.iload_n 1, 1) := tb_d tk_X8_secret_1 14 (27, .iload_n 1, 1) rfl
theorem dX8_secret_28 : decode cX8_secret 28 = .ok (.iadd, 1) := tb_d tk_X8_secret_1 15 (28, .iadd, 1) rfl
theorem dX8_secret_29 : decode cX8_secret 29 = .ok (.invokestatic 172, 3) := tb_d tk_X8_secret_1 16 (29, .invokestatic 172, 3) rfl
theorem dX8_secret_32 : decode cX8_secret 32 = .ok (.goto 5, 3) := tb_d tk_X8_secret_1 17 (32, .goto 5, 3) rfl
theorem dX8_secret_35 : decode cX8_secret 35 = .ok (.ldc 64, 2) := tb_d tk_X8_secret_1 18 (35, .ldc 64, 2) rfl
theorem dX8_secret_37 : decode cX8_secret 37 = .ok (.ireturn, 1) := tb_d tk_X8_secret_1 19 (37, .ireturn, 1) rfl
theorem ggX8_taken_X8_isWord : GoodIn wsX8_taken wsX8_isWord := fun w h => ⟨List.mem_cons_of_mem _ (List.mem_append_right _ (List.mem_append_right _ (List.mem_append_right _ (List.mem_append_right _ (List.mem_append_right _ (List.mem_append_right _ (List.mem_append_left _ h))))))), good_of_word (gdX8_isWord w h)⟩
set_option maxRecDepth 20000 in
theorem gX8_taken_X8_isWord : GoodIn wsX8_taken (wsV RX8 190 RX8 yX8_isWord wsX8_isWord) := goodIn_app (a := bkV RX8 190 RX8 yX8_isWord) (fun w h => ⟨List.mem_cons_of_mem _ (List.mem_append_right _ (List.mem_append_left _ h)), good_of_word (gd_bV _ _ _ _ w h)⟩) ggX8_taken_X8_isWord
theorem ggX8_taken_X8_isHour : GoodIn wsX8_taken wsX8_isHour := fun w h => ⟨List.mem_cons_of_mem _ (List.mem_append_right _ (List.mem_append_right _ (List.mem_append_right _ (List.mem_append_right _ (List.mem_append_right _ (List.mem_append_right _ (List.mem_append_right _ (List.mem_append_left _ h)))))))), good_of_word (gdX8_isHour w h)⟩
set_option maxRecDepth 20000 in
theorem gX8_taken_X8_isHour : GoodIn wsX8_taken (va_wsS RX8 193 yX8_isHour wsX8_isHour) := goodIn_app (a := bkS RX8 193 yX8_isHour) (fun w h => ⟨List.mem_cons_of_mem _ (List.mem_append_right _ (List.mem_append_right _ (List.mem_append_left _ h))), good_of_word (gd_bS _ _ _ w h)⟩) ggX8_taken_X8_isHour
theorem ggX8_taken_X8_isFar : GoodIn wsX8_taken wsX8_isFar := fun w h => ⟨List.mem_cons_of_mem _ (List.mem_append_right _ (List.mem_append_right _ (List.mem_append_right _ (List.mem_append_right _ (List.mem_append_right _ (List.mem_append_right _ (List.mem_append_right _ (List.mem_append_right _ (List.mem_append_left _ h))))))))), good_of_word (gdX8_isFar w h)⟩
set_option maxRecDepth 20000 in
theorem gX8_taken_X8_isFar : GoodIn wsX8_taken (va_wsS RX8 205 yX8_isFar wsX8_isFar) := goodIn_app (a := bkS RX8 205 yX8_isFar) (fun w h => ⟨List.mem_cons_of_mem _ (List.mem_append_right _ (List.mem_append_right _ (List.mem_append_right _ (List.mem_append_left _ h)))), good_of_word (gd_bS _ _ _ w h)⟩) ggX8_taken_X8_isFar
theorem ggX8_taken_X8_isTakenNow : GoodIn wsX8_taken wsX8_isTakenNow := fun w h => ⟨List.mem_cons_of_mem _ (List.mem_append_right _ (List.mem_append_right _ (List.mem_append_right _ (List.mem_append_right _ (List.mem_append_right _ (List.mem_append_right _ (List.mem_append_right _ (List.mem_append_right _ (List.mem_append_right _ (List.mem_append_left _ h)))))))))), good_of_word (gdX8_isTakenNow w h)⟩
set_option maxRecDepth 20000 in
theorem gX8_taken_X8_isTakenNow : GoodIn wsX8_taken (wsV RX8 196 RX8 yX8_isTakenNow wsX8_isTakenNow) := goodIn_app (a := bkV RX8 196 RX8 yX8_isTakenNow) (fun w h => ⟨List.mem_cons_of_mem _ (List.mem_append_right _ (List.mem_append_right _ (List.mem_append_right _ (List.mem_append_right _ (List.mem_append_left _ h))))), good_of_word (gd_bV _ _ _ _ w h)⟩) ggX8_taken_X8_isTakenNow
def tb_X8_taken_1 : List (Nat × Instr × Nat) := [(0, .aload_n 0, 1), (1, .iload_n 1, 1), (2, .invokevirtual 190, 3), (5, .ifCond .eq 17, 3), (8, .iload_n 2, 1), (9, .invokestatic 193, 3), (12, .ifCond .eq 10, 3), (15, .iload_n 3, 1), (16, .invokestatic 205, 3), (19, .ifCond .ne 6, 3), (22, .ldc 64, 2), (24, .ireturn, 1), (25, .aload_n 0, 1), (26, .iload_n 1, 1), (27, .iload_n 2, 1), (28, .iload_n 3, 1), (29, .invokevirtual 196, 3), (32, .ifCond .eq 7, 3), (35, .iconst 1, 1), (36, .goto 4, 3), (39, .iconst 0, 1), (40, .ireturn, 1)]
set_option maxRecDepth 100000 in
theorem tk_X8_taken_1 : (tb_X8_taken_1.all fun q => decide (decode cX8_taken q.1 = .ok q.2)) = true := by decide +kernel
theorem dX8_taken_0 : decode cX8_taken 0 = .ok (.aload_n 0, 1) := tb_d tk_X8_taken_1 0 (0, .aload_n 0, 1) rfl
theorem dX8_taken_1 : decode cX8_taken 1 = .ok (.iload_n 1, 1) := tb_d tk_X8_taken_1 1 (1, .iload_n 1, 1) rfl
theorem dX8_taken_2 : decode cX8_taken 2 = .ok (.invokevirtual 190, 3) := tb_d tk_X8_taken_1 2 (2, .invokevirtual 190, 3) rfl
theorem dX8_taken_5 : decode cX8_taken 5 = .ok (.ifCond .eq 17, 3) := tb_d tk_X8_taken_1 3 (5, .ifCond .eq 17, 3) rfl
theorem dX8_taken_8 : decode cX8_taken 8 = .ok (.iload_n 2, 1) := tb_d tk_X8_taken_1 4 (8, .iload_n 2, 1) rfl
theorem dX8_taken_9 : decode cX8_taken 9 = .ok (.invokestatic 193, 3) := tb_d tk_X8_taken_1 5 (9, .invokestatic 193, 3) rfl
theorem dX8_taken_12 : decode cX8_taken 12 = .ok (.ifCond .eq 10, 3) := tb_d tk_X8_taken_1 6 (12, .ifCond .eq 10, 3) rfl
theorem dX8_taken_15 : decode cX8_taken 15 = .ok (.iload_n 3, 1) := tb_d tk_X8_taken_1 7 (15, .iload_n 3, 1) rfl
theorem dX8_taken_16 : decode cX8_taken 16 = .ok (.invokestatic 205, 3) := tb_d tk_X8_taken_1 8 (16, .invokestatic 205, 3) rfl
theorem dX8_taken_19 : decode cX8_taken 19 = .ok (.ifCond .ne 6, 3) := tb_d tk_X8_taken_1 9 (19, .ifCond .ne 6, 3) rfl
theorem dX8_taken_22 : decode cX8_taken 22 = .ok (.ldc 64, 2) := tb_d tk_X8_taken_1 10 (22, .ldc 64, 2) rfl
theorem dX8_taken_24 : decode cX8_taken 24 = .ok (.ireturn, 1) := tb_d tk_X8_taken_1 11 (24, .ireturn, 1) rfl
theorem dX8_taken_25 : decode cX8_taken 25 = .ok (.aload_n 0, 1) := tb_d tk_X8_taken_1 12 (25, .aload_n 0, 1) rfl
theorem dX8_taken_26 : decode cX8_taken 26 = .ok (.iload_n 1, 1) := tb_d tk_X8_taken_1 13 (26, .iload_n 1, 1) rfl
theorem dX8_taken_27 : decode cX8_taken 27 = .ok (.iload_n 2, 1) := tb_d tk_X8_taken_1 14 (27, .iload_n 2, 1) rfl
theorem dX8_taken_28 : decode cX8_taken 28 = .ok (.iload_n 3, 1) := tb_d tk_X8_taken_1 15 (28, .iload_n 3, 1) rfl
theorem dX8_taken_29 : decode cX8_taken 29 = .ok (.invokevirtual 196, 3) := tb_d tk_X8_taken_1 16 (29, .invokevirtual 196, 3) rfl
theorem dX8_taken_32 : decode cX8_taken 32 = .ok (.ifCond .eq 7, 3) := tb_d tk_X8_taken_1 17 (32, .ifCond .eq 7, 3) rfl
theorem dX8_taken_35 : decode cX8_taken 35 = .ok (.iconst 1, 1) := tb_d tk_X8_taken_1 18 (35, .iconst 1, 1) rfl
theorem dX8_taken_36 : decode cX8_taken 36 = .ok (.goto 4, 3) := tb_d tk_X8_taken_1 19 (36, .goto 4, 3) rfl
theorem dX8_taken_39 : decode cX8_taken 39 = .ok (.iconst 0, 1) := tb_d tk_X8_taken_1 20 (39, .iconst 0, 1) rfl
theorem dX8_taken_40 : decode cX8_taken 40 = .ok (.ireturn, 1) := tb_d tk_X8_taken_1 21 (40, .ireturn, 1) rfl
theorem ggX8_safe_X8_isGate : GoodIn wsX8_safe wsX8_isGate := fun w h => ⟨List.mem_cons_of_mem _ (List.mem_append_right _ (List.mem_append_right _ (List.mem_append_right _ (List.mem_append_right _ (List.mem_append_right _ (List.mem_append_right _ (List.mem_append_left _ h))))))), good_of_word (gdX8_isGate w h)⟩
set_option maxRecDepth 20000 in
theorem gX8_safe_X8_isGate : GoodIn wsX8_safe (wsV RX8 180 RX8 yX8_isGate wsX8_isGate) := goodIn_app (a := bkV RX8 180 RX8 yX8_isGate) (fun w h => ⟨List.mem_cons_of_mem _ (List.mem_append_right _ (List.mem_append_left _ h)), good_of_word (gd_bV _ _ _ _ w h)⟩) ggX8_safe_X8_isGate
theorem ggX8_safe_X8_isHour : GoodIn wsX8_safe wsX8_isHour := fun w h => ⟨List.mem_cons_of_mem _ (List.mem_append_right _ (List.mem_append_right _ (List.mem_append_right _ (List.mem_append_right _ (List.mem_append_right _ (List.mem_append_right _ (List.mem_append_right _ (List.mem_append_left _ h)))))))), good_of_word (gdX8_isHour w h)⟩
set_option maxRecDepth 20000 in
theorem gX8_safe_X8_isHour : GoodIn wsX8_safe (va_wsS RX8 193 yX8_isHour wsX8_isHour) := goodIn_app (a := bkS RX8 193 yX8_isHour) (fun w h => ⟨List.mem_cons_of_mem _ (List.mem_append_right _ (List.mem_append_right _ (List.mem_append_left _ h))), good_of_word (gd_bS _ _ _ w h)⟩) ggX8_safe_X8_isHour
theorem ggX8_safe_X8_isFar : GoodIn wsX8_safe wsX8_isFar := fun w h => ⟨List.mem_cons_of_mem _ (List.mem_append_right _ (List.mem_append_right _ (List.mem_append_right _ (List.mem_append_right _ (List.mem_append_right _ (List.mem_append_right _ (List.mem_append_right _ (List.mem_append_right _ (List.mem_append_left _ h))))))))), good_of_word (gdX8_isFar w h)⟩
set_option maxRecDepth 20000 in
theorem gX8_safe_X8_isFar : GoodIn wsX8_safe (va_wsS RX8 205 yX8_isFar wsX8_isFar) := goodIn_app (a := bkS RX8 205 yX8_isFar) (fun w h => ⟨List.mem_cons_of_mem _ (List.mem_append_right _ (List.mem_append_right _ (List.mem_append_right _ (List.mem_append_left _ h)))), good_of_word (gd_bS _ _ _ w h)⟩) ggX8_safe_X8_isFar
theorem ggX8_safe_X8_isTakenNow : GoodIn wsX8_safe wsX8_isTakenNow := fun w h => ⟨List.mem_cons_of_mem _ (List.mem_append_right _ (List.mem_append_right _ (List.mem_append_right _ (List.mem_append_right _ (List.mem_append_right _ (List.mem_append_right _ (List.mem_append_right _ (List.mem_append_right _ (List.mem_append_right _ (List.mem_append_left _ h)))))))))), good_of_word (gdX8_isTakenNow w h)⟩
set_option maxRecDepth 20000 in
theorem gX8_safe_X8_isTakenNow : GoodIn wsX8_safe (wsV RX8 196 RX8 yX8_isTakenNow wsX8_isTakenNow) := goodIn_app (a := bkV RX8 196 RX8 yX8_isTakenNow) (fun w h => ⟨List.mem_cons_of_mem _ (List.mem_append_right _ (List.mem_append_right _ (List.mem_append_right _ (List.mem_append_right _ (List.mem_append_left _ h))))), good_of_word (gd_bV _ _ _ _ w h)⟩) ggX8_safe_X8_isTakenNow
def tb_X8_safe_1 : List (Nat × Instr × Nat) := [(0, .aload_n 0, 1), (1, .invokevirtual 180, 3), (4, .ifCond .ne 6, 3), (7, .ldc 183, 2), (9, .ireturn, 1), (10, .iload_n 1, 1), (11, .invokestatic 193, 3), (14, .ifCond .eq 10, 3), (17, .iload_n 2, 1), (18, .invokestatic 205, 3), (21, .ifCond .ne 6, 3), (24, .ldc 64, 2), (26, .ireturn, 1), (27, .iconst 0, 1), (28, .istore_n 3, 1), (29, .iconst 0, 1), (30, .istore 4, 2), (32, .iload 4, 2), (34, .aload_n 0, 1), (35, .getfield 25, 3), (38, .iconst 3, 1), (39, .iaload, 1), (40, .if_icmp .ge 31, 3), (43, .iload_n 3, 1), (44, .aload_n 0, 1), (45, .iload 4, 2), (47, .iload_n 1, 1), (48, .iload_n 2, 1), (49, .invokevirtual 196, 3), (52, .ifCond .eq 7, 3), (55, .iconst 0, 1), (56, .goto 7, 3), (59, .iconst 1, 1), (60, .iload 4, 2), (62, .ishl, 1), (63, .ior, 1), (64, .istore_n 3, 1), (65, .iinc 4 1, 3), (68, .goto (-36), 3), (71, .iload_n 3, 1)]
set_option maxRecDepth 100000 in
theorem tk_X8_safe_1 : (tb_X8_safe_1.all fun q => decide (decode cX8_safe q.1 = .ok q.2)) = true := by decide +kernel
theorem dX8_safe_0 : decode cX8_safe 0 = .ok (.aload_n 0, 1) := tb_d tk_X8_safe_1 0 (0, .aload_n 0, 1) rfl
theorem dX8_safe_1 : decode cX8_safe 1 = .ok (.invokevirtual 180, 3) := tb_d tk_X8_safe_1 1 (1, .invokevirtual 180, 3) rfl
theorem dX8_safe_4 : decode cX8_safe 4 = .ok (.ifCond .ne 6, 3) := tb_d tk_X8_safe_1 2 (4, .ifCond .ne 6, 3) rfl
theorem dX8_safe_7 : decode cX8_safe 7 = .ok (.ldc 183, 2) := tb_d tk_X8_safe_1 3 (7, .ldc 183, 2) rfl
theorem dX8_safe_9 : decode cX8_safe 9 = .ok (.ireturn, 1) := tb_d tk_X8_safe_1 4 (9, .ireturn, 1) rfl
theorem dX8_safe_10 : decode cX8_safe 10 = .ok (.iload_n 1, 1) := tb_d tk_X8_safe_1 5 (10, .iload_n 1, 1) rfl
theorem dX8_safe_11 : decode cX8_safe 11 = .ok (.invokestatic 193, 3) := tb_d tk_X8_safe_1 6 (11, .invokestatic 193, 3) rfl
theorem dX8_safe_14 : decode cX8_safe 14 = .ok (.ifCond .eq 10, 3) := tb_d tk_X8_safe_1 7 (14, .ifCond .eq 10, 3) rfl
theorem dX8_safe_17 : decode cX8_safe 17 = .ok (.iload_n 2, 1) := tb_d tk_X8_safe_1 8 (17, .iload_n 2, 1) rfl
theorem dX8_safe_18 : decode cX8_safe 18 = .ok (.invokestatic 205, 3) := tb_d tk_X8_safe_1 9 (18, .invokestatic 205, 3) rfl
theorem dX8_safe_21 : decode cX8_safe 21 = .ok (.ifCond .ne 6, 3) := tb_d tk_X8_safe_1 10 (21, .ifCond .ne 6, 3) rfl
theorem dX8_safe_24 : decode cX8_safe 24 = .ok (.ldc 64, 2) := tb_d tk_X8_safe_1 11 (24, .ldc 64, 2) rfl
theorem dX8_safe_26 : decode cX8_safe 26 = .ok (.ireturn, 1) := tb_d tk_X8_safe_1 12 (26, .ireturn, 1) rfl
theorem dX8_safe_27 : decode cX8_safe 27 = .ok (.iconst 0, 1) := tb_d tk_X8_safe_1 13 (27, .iconst 0, 1) rfl
theorem dX8_safe_28 : decode cX8_safe 28 = .ok (.istore_n 3, 1) := tb_d tk_X8_safe_1 14 (28, .istore_n 3, 1) rfl
theorem dX8_safe_29 : decode cX8_safe 29 = .ok (.iconst 0, 1) := tb_d tk_X8_safe_1 15 (29, .iconst 0, 1) rfl
theorem dX8_safe_30 : decode cX8_safe 30 = .ok (.istore 4, 2) := tb_d tk_X8_safe_1 16 (30, .istore 4, 2) rfl
theorem dX8_safe_32 : decode cX8_safe 32 = .ok (.iload 4, 2) := tb_d tk_X8_safe_1 17 (32, .iload 4, 2) rfl
theorem dX8_safe_34 : decode cX8_safe 34 = .ok (.aload_n 0, 1) := tb_d tk_X8_safe_1 18 (34, .aload_n 0, 1) rfl
theorem dX8_safe_35 : decode cX8_safe 35 = .ok (.getfield 25, 3) := tb_d tk_X8_safe_1 19 (35, .getfield 25, 3) rfl
theorem dX8_safe_38 : decode cX8_safe 38 = .ok (.iconst 3, 1) := tb_d tk_X8_safe_1 20 (38, .iconst 3, 1) rfl
theorem dX8_safe_39 : decode cX8_safe 39 = .ok (.iaload, 1) := tb_d tk_X8_safe_1 21 (39, .iaload, 1) rfl
theorem dX8_safe_40 : decode cX8_safe 40 = .ok (.if_icmp .ge 31, 3) := tb_d tk_X8_safe_1 22 (40, .if_icmp .ge 31, 3) rfl
theorem dX8_safe_43 : decode cX8_safe 43 = .ok (.iload_n 3, 1) := tb_d tk_X8_safe_1 23 (43, .iload_n 3, 1) rfl
theorem dX8_safe_44 : decode cX8_safe 44 = .ok (.aload_n 0, 1) := tb_d tk_X8_safe_1 24 (44, .aload_n 0, 1) rfl
theorem dX8_safe_45 : decode cX8_safe 45 = .ok (.iload 4, 2) := tb_d tk_X8_safe_1 25 (45, .iload 4, 2) rfl
theorem dX8_safe_47 : decode cX8_safe 47 = .ok (.iload_n 1, 1) := tb_d tk_X8_safe_1 26 (47, .iload_n 1, 1) rfl
theorem dX8_safe_48 : decode cX8_safe 48 = .ok (.iload_n 2, 1) := tb_d tk_X8_safe_1 27 (48, .iload_n 2, 1) rfl
theorem dX8_safe_49 : decode cX8_safe 49 = .ok (.invokevirtual 196, 3) := tb_d tk_X8_safe_1 28 (49, .invokevirtual 196, 3) rfl
theorem dX8_safe_52 : decode cX8_safe 52 = .ok (.ifCond .eq 7, 3) := tb_d tk_X8_safe_1 29 (52, .ifCond .eq 7, 3) rfl
theorem dX8_safe_55 : decode cX8_safe 55 = .ok (.iconst 0, 1) := tb_d tk_X8_safe_1 30 (55, .iconst 0, 1) rfl
theorem dX8_safe_56 : decode cX8_safe 56 = .ok (.goto 7, 3) := tb_d tk_X8_safe_1 31 (56, .goto 7, 3) rfl
theorem dX8_safe_59 : decode cX8_safe 59 = .ok (.iconst 1, 1) := tb_d tk_X8_safe_1 32 (59, .iconst 1, 1) rfl
theorem dX8_safe_60 : decode cX8_safe 60 = .ok (.iload 4, 2) := tb_d tk_X8_safe_1 33 (60, .iload 4, 2) rfl
theorem dX8_safe_62 : decode cX8_safe 62 = .ok (.ishl, 1) := tb_d tk_X8_safe_1 34 (62, .ishl, 1) rfl
theorem dX8_safe_63 : decode cX8_safe 63 = .ok (.ior, 1) := tb_d tk_X8_safe_1 35 (63, .ior, 1) rfl
theorem dX8_safe_64 : decode cX8_safe 64 = .ok (.istore_n 3, 1) := tb_d tk_X8_safe_1 36 (64, .istore_n 3, 1) rfl
theorem dX8_safe_65 : decode cX8_safe 65 = .ok (.iinc 4 1, 3) := tb_d tk_X8_safe_1 37 (65, .iinc 4 1, 3) rfl
theorem dX8_safe_68 : decode cX8_safe 68 = .ok (.goto (-36), 3) := tb_d tk_X8_safe_1 38 (68, .goto (-36), 3) rfl
theorem dX8_safe_71 : decode cX8_safe 71 = .ok (.iload_n 3, 1) := tb_d tk_X8_safe_1 39 (71, .iload_n 3, 1) rfl
def tb_X8_safe_2 : List (Nat × Instr × Nat) := [(72, .ireturn, 1)]
set_option maxRecDepth 100000 in
theorem tk_X8_safe_2 : (tb_X8_safe_2.all fun q => decide (decode cX8_safe q.1 = .ok q.2)) = true := by decide +kernel
theorem dX8_safe_72 : decode cX8_safe 72 = .ok (.ireturn, 1) := tb_d tk_X8_safe_2 0 (72, .ireturn, 1) rfl
theorem ggX8_areIn_X8_has : GoodIn wsX8_areIn wsX8_has := fun w h => ⟨List.mem_cons_of_mem _ (List.mem_append_right _ (List.mem_append_right _ (List.mem_append_right _ (List.mem_append_right _ (List.mem_append_right _ (List.mem_append_left _ h)))))), good_of_word (gdX8_has w h)⟩
set_option maxRecDepth 20000 in
theorem gX8_areIn_X8_has : GoodIn wsX8_areIn (va_wsS RX8 161 yX8_has wsX8_has) := goodIn_app (a := bkS RX8 161 yX8_has) (fun w h => ⟨List.mem_cons_of_mem _ (List.mem_append_right _ (List.mem_append_left _ h)), good_of_word (gd_bS _ _ _ w h)⟩) ggX8_areIn_X8_has
theorem ggX8_areIn_X8_secretOf : GoodIn wsX8_areIn wsX8_secretOf := fun w h => ⟨List.mem_cons_of_mem _ (List.mem_append_right _ (List.mem_append_right _ (List.mem_append_right _ (List.mem_append_right _ (List.mem_append_right _ (List.mem_append_right _ (List.mem_append_left _ h))))))), good_of_word (gdX8_secretOf w h)⟩
set_option maxRecDepth 20000 in
theorem gX8_areIn_X8_secretOf : GoodIn wsX8_areIn (va_wsS RX8 172 yX8_secretOf wsX8_secretOf) := goodIn_app (a := bkS RX8 172 yX8_secretOf) (fun w h => ⟨List.mem_cons_of_mem _ (List.mem_append_right _ (List.mem_append_right _ (List.mem_append_left _ h))), good_of_word (gd_bS _ _ _ w h)⟩) ggX8_areIn_X8_secretOf
theorem ggX8_areIn_X8_isTaken : GoodIn wsX8_areIn wsX8_isTaken := fun w h => ⟨List.mem_cons_of_mem _ (List.mem_append_right _ (List.mem_append_right _ (List.mem_append_right _ (List.mem_append_right _ (List.mem_append_right _ (List.mem_append_right _ (List.mem_append_right _ (List.mem_append_left _ h)))))))), good_of_word (gdX8_isTaken w h)⟩
set_option maxRecDepth 20000 in
theorem gX8_areIn_X8_isTaken : GoodIn wsX8_areIn (wsV RX8 176 RX8 yX8_isTaken wsX8_isTaken) := goodIn_app (a := bkV RX8 176 RX8 yX8_isTaken) (fun w h => ⟨List.mem_cons_of_mem _ (List.mem_append_right _ (List.mem_append_right _ (List.mem_append_right _ (List.mem_append_left _ h)))), good_of_word (gd_bV _ _ _ _ w h)⟩) ggX8_areIn_X8_isTaken
def tb_X8_areIn_1 : List (Nat × Instr × Nat) := [(0, .aload_n 0, 1), (1, .getfield 25, 3), (4, .iconst 5, 1), (5, .iaload, 1), (6, .iload_n 3, 1), (7, .iadd, 1), (8, .istore 5, 2), (10, .iconst 1, 1), (11, .istore 6, 2), (13, .iconst 0, 1), (14, .istore 7, 2), (16, .iload 7, 2), (18, .aload_n 0, 1), (19, .getfield 25, 3), (22, .iconst 3, 1), (23, .iaload, 1), (24, .if_icmp .ge 53, 3), (27, .iload 6, 2), (29, .ifCond .eq 39, 3), (32, .iload_n 1, 1), (33, .iload 7, 2), (35, .invokestatic 161, 3), (38, .ifCond .eq 26, 3), (41, .aload_n 0, 1), (42, .iload 7, 2), (44, .iload_n 2, 1), (45, .iload 5, 2), (47, .iload 4, 2), (49, .aload_n 0, 1), (50, .getfield 25, 3), (53, .iload 5, 2), (55, .invokestatic 172, 3), (58, .invokevirtual 176, 3), (61, .ifCond .ne 7, 3), (64, .iconst 1, 1), (65, .goto 4, 3), (68, .iconst 0, 1), (69, .istore 6, 2), (71, .iinc 7 1, 3), (74, .goto (-58), 3)]
set_option maxRecDepth 100000 in
theorem tk_X8_areIn_1 : (tb_X8_areIn_1.all fun q => decide (decode cX8_areIn q.1 = .ok q.2)) = true := by decide +kernel
theorem dX8_areIn_0 : decode cX8_areIn 0 = .ok (.aload_n 0, 1) := tb_d tk_X8_areIn_1 0 (0, .aload_n 0, 1) rfl
theorem dX8_areIn_1 : decode cX8_areIn 1 = .ok (.getfield 25, 3) := tb_d tk_X8_areIn_1 1 (1, .getfield 25, 3) rfl
theorem dX8_areIn_4 : decode cX8_areIn 4 = .ok (.iconst 5, 1) := tb_d tk_X8_areIn_1 2 (4, .iconst 5, 1) rfl
theorem dX8_areIn_5 : decode cX8_areIn 5 = .ok (.iaload, 1) := tb_d tk_X8_areIn_1 3 (5, .iaload, 1) rfl
theorem dX8_areIn_6 : decode cX8_areIn 6 = .ok (.iload_n 3, 1) := tb_d tk_X8_areIn_1 4 (6, .iload_n 3, 1) rfl
theorem dX8_areIn_7 : decode cX8_areIn 7 = .ok (.iadd, 1) := tb_d tk_X8_areIn_1 5 (7, .iadd, 1) rfl
theorem dX8_areIn_8 : decode cX8_areIn 8 = .ok (.istore 5, 2) := tb_d tk_X8_areIn_1 6 (8, .istore 5, 2) rfl
theorem dX8_areIn_10 : decode cX8_areIn 10 = .ok (.iconst 1, 1) := tb_d tk_X8_areIn_1 7 (10, .iconst 1, 1) rfl
theorem dX8_areIn_11 : decode cX8_areIn 11 = .ok (.istore 6, 2) := tb_d tk_X8_areIn_1 8 (11, .istore 6, 2) rfl
theorem dX8_areIn_13 : decode cX8_areIn 13 = .ok (.iconst 0, 1) := tb_d tk_X8_areIn_1 9 (13, .iconst 0, 1) rfl
theorem dX8_areIn_14 : decode cX8_areIn 14 = .ok (.istore 7, 2) := tb_d tk_X8_areIn_1 10 (14, .istore 7, 2) rfl
theorem dX8_areIn_16 : decode cX8_areIn 16 = .ok (.iload 7, 2) := tb_d tk_X8_areIn_1 11 (16, .iload 7, 2) rfl
theorem dX8_areIn_18 : decode cX8_areIn 18 = .ok (.aload_n 0, 1) := tb_d tk_X8_areIn_1 12 (18, .aload_n 0, 1) rfl
theorem dX8_areIn_19 : decode cX8_areIn 19 = .ok (.getfield 25, 3) := tb_d tk_X8_areIn_1 13 (19, .getfield 25, 3) rfl
theorem dX8_areIn_22 : decode cX8_areIn 22 = .ok (.iconst 3, 1) := tb_d tk_X8_areIn_1 14 (22, .iconst 3, 1) rfl
theorem dX8_areIn_23 : decode cX8_areIn 23 = .ok (.iaload, 1) := tb_d tk_X8_areIn_1 15 (23, .iaload, 1) rfl
theorem dX8_areIn_24 : decode cX8_areIn 24 = .ok (.if_icmp .ge 53, 3) := tb_d tk_X8_areIn_1 16 (24, .if_icmp .ge 53, 3) rfl
theorem dX8_areIn_27 : decode cX8_areIn 27 = .ok (.iload 6, 2) := tb_d tk_X8_areIn_1 17 (27, .iload 6, 2) rfl
theorem dX8_areIn_29 : decode cX8_areIn 29 = .ok (.ifCond .eq 39, 3) := tb_d tk_X8_areIn_1 18 (29, .ifCond .eq 39, 3) rfl
theorem dX8_areIn_32 : decode cX8_areIn 32 = .ok (.iload_n 1, 1) := tb_d tk_X8_areIn_1 19 (32, .iload_n 1, 1) rfl
theorem dX8_areIn_33 : decode cX8_areIn 33 = .ok (.iload 7, 2) := tb_d tk_X8_areIn_1 20 (33, .iload 7, 2) rfl
theorem dX8_areIn_35 : decode cX8_areIn 35 = .ok (.invokestatic 161, 3) := tb_d tk_X8_areIn_1 21 (35, .invokestatic 161, 3) rfl
theorem dX8_areIn_38 : decode cX8_areIn 38 = .ok (.ifCond .eq 26, 3) := tb_d tk_X8_areIn_1 22 (38, .ifCond .eq 26, 3) rfl
theorem dX8_areIn_41 : decode cX8_areIn 41 = .ok (.aload_n 0, 1) := tb_d tk_X8_areIn_1 23 (41, .aload_n 0, 1) rfl
theorem dX8_areIn_42 : decode cX8_areIn 42 = .ok (.iload 7, 2) := tb_d tk_X8_areIn_1 24 (42, .iload 7, 2) rfl
theorem dX8_areIn_44 : decode cX8_areIn 44 = .ok (.iload_n 2, 1) := tb_d tk_X8_areIn_1 25 (44, .iload_n 2, 1) rfl
theorem dX8_areIn_45 : decode cX8_areIn 45 = .ok (.iload 5, 2) := tb_d tk_X8_areIn_1 26 (45, .iload 5, 2) rfl
theorem dX8_areIn_47 : decode cX8_areIn 47 = .ok (.iload 4, 2) := tb_d tk_X8_areIn_1 27 (47, .iload 4, 2) rfl
theorem dX8_areIn_49 : decode cX8_areIn 49 = .ok (.aload_n 0, 1) := tb_d tk_X8_areIn_1 28 (49, .aload_n 0, 1) rfl
theorem dX8_areIn_50 : decode cX8_areIn 50 = .ok (.getfield 25, 3) := tb_d tk_X8_areIn_1 29 (50, .getfield 25, 3) rfl
theorem dX8_areIn_53 : decode cX8_areIn 53 = .ok (.iload 5, 2) := tb_d tk_X8_areIn_1 30 (53, .iload 5, 2) rfl
theorem dX8_areIn_55 : decode cX8_areIn 55 = .ok (.invokestatic 172, 3) := tb_d tk_X8_areIn_1 31 (55, .invokestatic 172, 3) rfl
theorem dX8_areIn_58 : decode cX8_areIn 58 = .ok (.invokevirtual 176, 3) := tb_d tk_X8_areIn_1 32 (58, .invokevirtual 176, 3) rfl
theorem dX8_areIn_61 : decode cX8_areIn 61 = .ok (.ifCond .ne 7, 3) := tb_d tk_X8_areIn_1 33 (61, .ifCond .ne 7, 3) rfl
theorem dX8_areIn_64 : decode cX8_areIn 64 = .ok (.iconst 1, 1) := tb_d tk_X8_areIn_1 34 (64, .iconst 1, 1) rfl
theorem dX8_areIn_65 : decode cX8_areIn 65 = .ok (.goto 4, 3) := tb_d tk_X8_areIn_1 35 (65, .goto 4, 3) rfl
theorem dX8_areIn_68 : decode cX8_areIn 68 = .ok (.iconst 0, 1) := tb_d tk_X8_areIn_1 36 (68, .iconst 0, 1) rfl
theorem dX8_areIn_69 : decode cX8_areIn 69 = .ok (.istore 6, 2) := tb_d tk_X8_areIn_1 37 (69, .istore 6, 2) rfl
theorem dX8_areIn_71 : decode cX8_areIn 71 = .ok (.iinc 7 1, 3) := tb_d tk_X8_areIn_1 38 (71, .iinc 7 1, 3) rfl
theorem dX8_areIn_74 : decode cX8_areIn 74 = .ok (.goto (-58), 3) := tb_d tk_X8_areIn_1 39 (74, .goto (-58), 3) rfl
def tb_X8_areIn_2 : List (Nat × Instr × Nat) := [(77, .iload 6, 2), (79, .ireturn, 1)]
set_option maxRecDepth 100000 in
theorem tk_X8_areIn_2 : (tb_X8_areIn_2.all fun q => decide (decode cX8_areIn q.1 = .ok q.2)) = true := by decide +kernel
theorem dX8_areIn_77 : decode cX8_areIn 77 = .ok (.iload 6, 2) := tb_d tk_X8_areIn_2 0 (77, .iload 6, 2) rfl
theorem dX8_areIn_79 : decode cX8_areIn 79 = .ok (.ireturn, 1) := tb_d tk_X8_areIn_2 1 (79, .ireturn, 1) rfl
theorem ggX8_open_X8_isGate : GoodIn wsX8_open wsX8_isGate := fun w h => ⟨List.mem_cons_of_mem _ (List.mem_append_right _ (List.mem_append_right _ (List.mem_append_right _ (List.mem_append_right _ (List.mem_append_right _ (List.mem_append_right _ (List.mem_append_left _ h))))))), good_of_word (gdX8_isGate w h)⟩
set_option maxRecDepth 20000 in
theorem gX8_open_X8_isGate : GoodIn wsX8_open (wsV RX8 180 RX8 yX8_isGate wsX8_isGate) := goodIn_app (a := bkV RX8 180 RX8 yX8_isGate) (fun w h => ⟨List.mem_cons_of_mem _ (List.mem_append_right _ (List.mem_append_left _ h)), good_of_word (gd_bV _ _ _ _ w h)⟩) ggX8_open_X8_isGate
theorem ggX8_open_X8_areWords : GoodIn wsX8_open wsX8_areWords := fun w h => ⟨List.mem_cons_of_mem _ (List.mem_append_right _ (List.mem_append_right _ (List.mem_append_right _ (List.mem_append_right _ (List.mem_append_right _ (List.mem_append_right _ (List.mem_append_right _ (List.mem_append_left _ h)))))))), good_of_word (gdX8_areWords w h)⟩
set_option maxRecDepth 20000 in
theorem gX8_open_X8_areWords : GoodIn wsX8_open (wsV RX8 208 RX8 yX8_areWords wsX8_areWords) := goodIn_app (a := bkV RX8 208 RX8 yX8_areWords) (fun w h => ⟨List.mem_cons_of_mem _ (List.mem_append_right _ (List.mem_append_right _ (List.mem_append_left _ h))), good_of_word (gd_bV _ _ _ _ w h)⟩) ggX8_open_X8_areWords
theorem ggX8_open_X8_isFar : GoodIn wsX8_open wsX8_isFar := fun w h => ⟨List.mem_cons_of_mem _ (List.mem_append_right _ (List.mem_append_right _ (List.mem_append_right _ (List.mem_append_right _ (List.mem_append_right _ (List.mem_append_right _ (List.mem_append_right _ (List.mem_append_right _ (List.mem_append_left _ h))))))))), good_of_word (gdX8_isFar w h)⟩
set_option maxRecDepth 20000 in
theorem gX8_open_X8_isFar : GoodIn wsX8_open (va_wsS RX8 205 yX8_isFar wsX8_isFar) := goodIn_app (a := bkS RX8 205 yX8_isFar) (fun w h => ⟨List.mem_cons_of_mem _ (List.mem_append_right _ (List.mem_append_right _ (List.mem_append_right _ (List.mem_append_left _ h)))), good_of_word (gd_bS _ _ _ w h)⟩) ggX8_open_X8_isFar
theorem ggX8_open_X8_areIn : GoodIn wsX8_open wsX8_areIn := fun w h => ⟨List.mem_cons_of_mem _ (List.mem_append_right _ (List.mem_append_right _ (List.mem_append_right _ (List.mem_append_right _ (List.mem_append_right _ (List.mem_append_right _ (List.mem_append_right _ (List.mem_append_right _ (List.mem_append_right _ (List.mem_append_left _ h)))))))))), good_of_word (gdX8_areIn w h)⟩
set_option maxRecDepth 20000 in
theorem gX8_open_X8_areIn : GoodIn wsX8_open (wsV RX8 211 RX8 yX8_areIn wsX8_areIn) := goodIn_app (a := bkV RX8 211 RX8 yX8_areIn) (fun w h => ⟨List.mem_cons_of_mem _ (List.mem_append_right _ (List.mem_append_right _ (List.mem_append_right _ (List.mem_append_right _ (List.mem_append_left _ h))))), good_of_word (gd_bV _ _ _ _ w h)⟩) ggX8_open_X8_areIn
def tb_X8_open_1 : List (Nat × Instr × Nat) := [(0, .aload_n 0, 1), (1, .invokevirtual 180, 3), (4, .ifCond .ne 6, 3), (7, .ldc 183, 2), (9, .ireturn, 1), (10, .aload_n 0, 1), (11, .iload_n 1, 1), (12, .invokevirtual 208, 3), (15, .ifCond .eq 10, 3), (18, .iload_n 2, 1), (19, .invokestatic 205, 3), (22, .ifCond .ne 6, 3), (25, .ldc 64, 2), (27, .ireturn, 1), (28, .iconst 0, 1), (29, .istore_n 3, 1), (30, .iconst 0, 1), (31, .istore 4, 2), (33, .iload 4, 2), (35, .bipush 6, 2), (37, .if_icmp .ge 38, 3), (40, .iload_n 3, 1), (41, .aload_n 0, 1), (42, .iload_n 1, 1), (43, .iload 4, 2), (45, .iload_n 2, 1), (46, .aload_n 0, 1), (47, .getfield 25, 3), (50, .bipush 6, 2), (52, .iaload, 1), (53, .invokevirtual 211, 3), (56, .ifCond .eq 10, 3), (59, .iconst 1, 1), (60, .iload 4, 2), (62, .ishl, 1), (63, .goto 4, 3), (66, .iconst 0, 1), (67, .ior, 1), (68, .istore_n 3, 1), (69, .iinc 4 1, 3)]
set_option maxRecDepth 100000 in
theorem tk_X8_open_1 : (tb_X8_open_1.all fun q => decide (decode cX8_open q.1 = .ok q.2)) = true := by decide +kernel
theorem dX8_open_0 : decode cX8_open 0 = .ok (.aload_n 0, 1) := tb_d tk_X8_open_1 0 (0, .aload_n 0, 1) rfl
theorem dX8_open_1 : decode cX8_open 1 = .ok (.invokevirtual 180, 3) := tb_d tk_X8_open_1 1 (1, .invokevirtual 180, 3) rfl
theorem dX8_open_4 : decode cX8_open 4 = .ok (.ifCond .ne 6, 3) := tb_d tk_X8_open_1 2 (4, .ifCond .ne 6, 3) rfl
theorem dX8_open_7 : decode cX8_open 7 = .ok (.ldc 183, 2) := tb_d tk_X8_open_1 3 (7, .ldc 183, 2) rfl
theorem dX8_open_9 : decode cX8_open 9 = .ok (.ireturn, 1) := tb_d tk_X8_open_1 4 (9, .ireturn, 1) rfl
theorem dX8_open_10 : decode cX8_open 10 = .ok (.aload_n 0, 1) := tb_d tk_X8_open_1 5 (10, .aload_n 0, 1) rfl
theorem dX8_open_11 : decode cX8_open 11 = .ok (.iload_n 1, 1) := tb_d tk_X8_open_1 6 (11, .iload_n 1, 1) rfl
theorem dX8_open_12 : decode cX8_open 12 = .ok (.invokevirtual 208, 3) := tb_d tk_X8_open_1 7 (12, .invokevirtual 208, 3) rfl
theorem dX8_open_15 : decode cX8_open 15 = .ok (.ifCond .eq 10, 3) := tb_d tk_X8_open_1 8 (15, .ifCond .eq 10, 3) rfl
theorem dX8_open_18 : decode cX8_open 18 = .ok (.iload_n 2, 1) := tb_d tk_X8_open_1 9 (18, .iload_n 2, 1) rfl
theorem dX8_open_19 : decode cX8_open 19 = .ok (.invokestatic 205, 3) := tb_d tk_X8_open_1 10 (19, .invokestatic 205, 3) rfl
theorem dX8_open_22 : decode cX8_open 22 = .ok (.ifCond .ne 6, 3) := tb_d tk_X8_open_1 11 (22, .ifCond .ne 6, 3) rfl
theorem dX8_open_25 : decode cX8_open 25 = .ok (.ldc 64, 2) := tb_d tk_X8_open_1 12 (25, .ldc 64, 2) rfl
theorem dX8_open_27 : decode cX8_open 27 = .ok (.ireturn, 1) := tb_d tk_X8_open_1 13 (27, .ireturn, 1) rfl
theorem dX8_open_28 : decode cX8_open 28 = .ok (.iconst 0, 1) := tb_d tk_X8_open_1 14 (28, .iconst 0, 1) rfl
theorem dX8_open_29 : decode cX8_open 29 = .ok (.istore_n 3, 1) := tb_d tk_X8_open_1 15 (29, .istore_n 3, 1) rfl
theorem dX8_open_30 : decode cX8_open 30 = .ok (.iconst 0, 1) := tb_d tk_X8_open_1 16 (30, .iconst 0, 1) rfl
theorem dX8_open_31 : decode cX8_open 31 = .ok (.istore 4, 2) := tb_d tk_X8_open_1 17 (31, .istore 4, 2) rfl
theorem dX8_open_33 : decode cX8_open 33 = .ok (.iload 4, 2) := tb_d tk_X8_open_1 18 (33, .iload 4, 2) rfl
theorem dX8_open_35 : decode cX8_open 35 = .ok (.bipush 6, 2) := tb_d tk_X8_open_1 19 (35, .bipush 6, 2) rfl
theorem dX8_open_37 : decode cX8_open 37 = .ok (.if_icmp .ge 38, 3) := tb_d tk_X8_open_1 20 (37, .if_icmp .ge 38, 3) rfl
theorem dX8_open_40 : decode cX8_open 40 = .ok (.iload_n 3, 1) := tb_d tk_X8_open_1 21 (40, .iload_n 3, 1) rfl
theorem dX8_open_41 : decode cX8_open 41 = .ok (.aload_n 0, 1) := tb_d tk_X8_open_1 22 (41, .aload_n 0, 1) rfl
theorem dX8_open_42 : decode cX8_open 42 = .ok (.iload_n 1, 1) := tb_d tk_X8_open_1 23 (42, .iload_n 1, 1) rfl
theorem dX8_open_43 : decode cX8_open 43 = .ok (.iload 4, 2) := tb_d tk_X8_open_1 24 (43, .iload 4, 2) rfl
theorem dX8_open_45 : decode cX8_open 45 = .ok (.iload_n 2, 1) := tb_d tk_X8_open_1 25 (45, .iload_n 2, 1) rfl
theorem dX8_open_46 : decode cX8_open 46 = .ok (.aload_n 0, 1) := tb_d tk_X8_open_1 26 (46, .aload_n 0, 1) rfl
theorem dX8_open_47 : decode cX8_open 47 = .ok (.getfield 25, 3) := tb_d tk_X8_open_1 27 (47, .getfield 25, 3) rfl
theorem dX8_open_50 : decode cX8_open 50 = .ok (.bipush 6, 2) := tb_d tk_X8_open_1 28 (50, .bipush 6, 2) rfl
theorem dX8_open_52 : decode cX8_open 52 = .ok (.iaload, 1) := tb_d tk_X8_open_1 29 (52, .iaload, 1) rfl
theorem dX8_open_53 : decode cX8_open 53 = .ok (.invokevirtual 211, 3) := tb_d tk_X8_open_1 30 (53, .invokevirtual 211, 3) rfl
theorem dX8_open_56 : decode cX8_open 56 = .ok (.ifCond .eq 10, 3) := tb_d tk_X8_open_1 31 (56, .ifCond .eq 10, 3) rfl
theorem dX8_open_59 : decode cX8_open 59 = .ok (.iconst 1, 1) := tb_d tk_X8_open_1 32 (59, .iconst 1, 1) rfl
theorem dX8_open_60 : decode cX8_open 60 = .ok (.iload 4, 2) := tb_d tk_X8_open_1 33 (60, .iload 4, 2) rfl
theorem dX8_open_62 : decode cX8_open 62 = .ok (.ishl, 1) := tb_d tk_X8_open_1 34 (62, .ishl, 1) rfl
theorem dX8_open_63 : decode cX8_open 63 = .ok (.goto 4, 3) := tb_d tk_X8_open_1 35 (63, .goto 4, 3) rfl
theorem dX8_open_66 : decode cX8_open 66 = .ok (.iconst 0, 1) := tb_d tk_X8_open_1 36 (66, .iconst 0, 1) rfl
theorem dX8_open_67 : decode cX8_open 67 = .ok (.ior, 1) := tb_d tk_X8_open_1 37 (67, .ior, 1) rfl
theorem dX8_open_68 : decode cX8_open 68 = .ok (.istore_n 3, 1) := tb_d tk_X8_open_1 38 (68, .istore_n 3, 1) rfl
theorem dX8_open_69 : decode cX8_open 69 = .ok (.iinc 4 1, 3) := tb_d tk_X8_open_1 39 (69, .iinc 4 1, 3) rfl
def tb_X8_open_2 : List (Nat × Instr × Nat) := [(72, .goto (-39), 3), (75, .iload_n 3, 1), (76, .ireturn, 1)]
set_option maxRecDepth 100000 in
theorem tk_X8_open_2 : (tb_X8_open_2.all fun q => decide (decode cX8_open q.1 = .ok q.2)) = true := by decide +kernel
theorem dX8_open_72 : decode cX8_open 72 = .ok (.goto (-39), 3) := tb_d tk_X8_open_2 0 (72, .goto (-39), 3) rfl
theorem dX8_open_75 : decode cX8_open 75 = .ok (.iload_n 3, 1) := tb_d tk_X8_open_2 1 (75, .iload_n 3, 1) rfl
theorem dX8_open_76 : decode cX8_open 76 = .ok (.ireturn, 1) := tb_d tk_X8_open_2 2 (76, .ireturn, 1) rfl
theorem ggX8_next_X8_isWord : GoodIn wsX8_next wsX8_isWord := fun w h => ⟨List.mem_cons_of_mem _ (List.mem_append_right _ (List.mem_append_right _ (List.mem_append_right _ (List.mem_append_right _ (List.mem_append_left _ h))))), good_of_word (gdX8_isWord w h)⟩
set_option maxRecDepth 20000 in
theorem gX8_next_X8_isWord : GoodIn wsX8_next (wsV RX8 190 RX8 yX8_isWord wsX8_isWord) := goodIn_app (a := bkV RX8 190 RX8 yX8_isWord) (fun w h => ⟨List.mem_cons_of_mem _ (List.mem_append_right _ (List.mem_append_left _ h)), good_of_word (gd_bV _ _ _ _ w h)⟩) ggX8_next_X8_isWord
theorem ggX8_next_X8_secretOf : GoodIn wsX8_next wsX8_secretOf := fun w h => ⟨List.mem_cons_of_mem _ (List.mem_append_right _ (List.mem_append_right _ (List.mem_append_right _ (List.mem_append_right _ (List.mem_append_right _ (List.mem_append_left _ h)))))), good_of_word (gdX8_secretOf w h)⟩
set_option maxRecDepth 20000 in
theorem gX8_next_X8_secretOf : GoodIn wsX8_next (va_wsS RX8 172 yX8_secretOf wsX8_secretOf) := goodIn_app (a := bkS RX8 172 yX8_secretOf) (fun w h => ⟨List.mem_cons_of_mem _ (List.mem_append_right _ (List.mem_append_right _ (List.mem_append_left _ h))), good_of_word (gd_bS _ _ _ w h)⟩) ggX8_next_X8_secretOf
def tb_X8_next_1 : List (Nat × Instr × Nat) := [(0, .aload_n 0, 1), (1, .iload_n 1, 1), (2, .invokevirtual 190, 3), (5, .ifCond .ne 6, 3), (8, .ldc 64, 2), (10, .ireturn, 1), (11, .iconst 0, 1), (12, .istore_n 2, 1), (13, .iload_n 2, 1), (14, .bipush 61, 2), (16, .if_icmp .ge 30, 3), (19, .aload_n 0, 1), (20, .getfield 25, 3), (23, .aload_n 0, 1), (24, .getfield 25, 3), (27, .iconst 5, 1), (28, .iaload, 1), (29, .iload_n 2, 1), (30, .iadd, 1), (31, .invokestatic 172, 3), (34, .iload_n 1, 1), (35, .if_icmp .ne 5, 3), (38, .iload_n 2, 1), (39, .ireturn, 1), (40, .iinc 2 1, 3), (43, .goto (-30), 3), (46, .ldc 50, 2), (48, .ireturn, 1)]
set_option maxRecDepth 100000 in
theorem tk_X8_next_1 : (tb_X8_next_1.all fun q => decide (decode cX8_next q.1 = .ok q.2)) = true := by decide +kernel
theorem dX8_next_0 : decode cX8_next 0 = .ok (.aload_n 0, 1) := tb_d tk_X8_next_1 0 (0, .aload_n 0, 1) rfl
theorem dX8_next_1 : decode cX8_next 1 = .ok (.iload_n 1, 1) := tb_d tk_X8_next_1 1 (1, .iload_n 1, 1) rfl
theorem dX8_next_2 : decode cX8_next 2 = .ok (.invokevirtual 190, 3) := tb_d tk_X8_next_1 2 (2, .invokevirtual 190, 3) rfl
theorem dX8_next_5 : decode cX8_next 5 = .ok (.ifCond .ne 6, 3) := tb_d tk_X8_next_1 3 (5, .ifCond .ne 6, 3) rfl
theorem dX8_next_8 : decode cX8_next 8 = .ok (.ldc 64, 2) := tb_d tk_X8_next_1 4 (8, .ldc 64, 2) rfl
theorem dX8_next_10 : decode cX8_next 10 = .ok (.ireturn, 1) := tb_d tk_X8_next_1 5 (10, .ireturn, 1) rfl
theorem dX8_next_11 : decode cX8_next 11 = .ok (.iconst 0, 1) := tb_d tk_X8_next_1 6 (11, .iconst 0, 1) rfl
theorem dX8_next_12 : decode cX8_next 12 = .ok (.istore_n 2, 1) := tb_d tk_X8_next_1 7 (12, .istore_n 2, 1) rfl
theorem dX8_next_13 : decode cX8_next 13 = .ok (.iload_n 2, 1) := tb_d tk_X8_next_1 8 (13, .iload_n 2, 1) rfl
theorem dX8_next_14 : decode cX8_next 14 = .ok (.bipush 61, 2) := tb_d tk_X8_next_1 9 (14, .bipush 61, 2) rfl
theorem dX8_next_16 : decode cX8_next 16 = .ok (.if_icmp .ge 30, 3) := tb_d tk_X8_next_1 10 (16, .if_icmp .ge 30, 3) rfl
theorem dX8_next_19 : decode cX8_next 19 = .ok (.aload_n 0, 1) := tb_d tk_X8_next_1 11 (19, .aload_n 0, 1) rfl
theorem dX8_next_20 : decode cX8_next 20 = .ok (.getfield 25, 3) := tb_d tk_X8_next_1 12 (20, .getfield 25, 3) rfl
theorem dX8_next_23 : decode cX8_next 23 = .ok (.aload_n 0, 1) := tb_d tk_X8_next_1 13 (23, .aload_n 0, 1) rfl
theorem dX8_next_24 : decode cX8_next 24 = .ok (.getfield 25, 3) := tb_d tk_X8_next_1 14 (24, .getfield 25, 3) rfl
theorem dX8_next_27 : decode cX8_next 27 = .ok (.iconst 5, 1) := tb_d tk_X8_next_1 15 (27, .iconst 5, 1) rfl
theorem dX8_next_28 : decode cX8_next 28 = .ok (.iaload, 1) := tb_d tk_X8_next_1 16 (28, .iaload, 1) rfl
theorem dX8_next_29 : decode cX8_next 29 = .ok (.iload_n 2, 1) := tb_d tk_X8_next_1 17 (29, .iload_n 2, 1) rfl
theorem dX8_next_30 : decode cX8_next 30 = .ok (.iadd, 1) := tb_d tk_X8_next_1 18 (30, .iadd, 1) rfl
theorem dX8_next_31 : decode cX8_next 31 = .ok (.invokestatic 172, 3) := tb_d tk_X8_next_1 19 (31, .invokestatic 172, 3) rfl
theorem dX8_next_34 : decode cX8_next 34 = .ok (.iload_n 1, 1) := tb_d tk_X8_next_1 20 (34, .iload_n 1, 1) rfl
theorem dX8_next_35 : decode cX8_next 35 = .ok (.if_icmp .ne 5, 3) := tb_d tk_X8_next_1 21 (35, .if_icmp .ne 5, 3) rfl
theorem dX8_next_38 : decode cX8_next 38 = .ok (.iload_n 2, 1) := tb_d tk_X8_next_1 22 (38, .iload_n 2, 1) rfl
theorem dX8_next_39 : decode cX8_next 39 = .ok (.ireturn, 1) := tb_d tk_X8_next_1 23 (39, .ireturn, 1) rfl
theorem dX8_next_40 : decode cX8_next 40 = .ok (.iinc 2 1, 3) := tb_d tk_X8_next_1 24 (40, .iinc 2 1, 3) rfl
theorem dX8_next_43 : decode cX8_next 43 = .ok (.goto (-30), 3) := tb_d tk_X8_next_1 25 (43, .goto (-30), 3) rfl
theorem dX8_next_46 : decode cX8_next 46 = .ok (.ldc 50, 2) := tb_d tk_X8_next_1 26 (46, .ldc 50, 2) rfl
theorem dX8_next_48 : decode cX8_next 48 = .ok (.ireturn, 1) := tb_d tk_X8_next_1 27 (48, .ireturn, 1) rfl
theorem ggX8_agreeing_X8_kindIn : GoodIn wsX8_agreeing wsX8_kindIn := fun w h => ⟨List.mem_cons_of_mem _ (List.mem_append_right _ (List.mem_append_right _ (List.mem_append_right _ (List.mem_append_right _ (List.mem_append_left _ h))))), good_of_word (gdX8_kindIn w h)⟩
set_option maxRecDepth 20000 in
theorem gX8_agreeing_X8_kindIn : GoodIn wsX8_agreeing (wsV RX8 165 RX8 yX8_kindIn wsX8_kindIn) := goodIn_app (a := bkV RX8 165 RX8 yX8_kindIn) (fun w h => ⟨List.mem_cons_of_mem _ (List.mem_append_right _ (List.mem_append_left _ h)), good_of_word (gd_bV _ _ _ _ w h)⟩) ggX8_agreeing_X8_kindIn
theorem ggX8_agreeing_X8_takesBy : GoodIn wsX8_agreeing wsX8_takesBy := fun w h => ⟨List.mem_cons_of_mem _ (List.mem_append_right _ (List.mem_append_right _ (List.mem_append_right _ (List.mem_append_right _ (List.mem_append_right _ (List.mem_append_left _ h)))))), good_of_word (gdX8_takesBy w h)⟩
set_option maxRecDepth 20000 in
theorem gX8_agreeing_X8_takesBy : GoodIn wsX8_agreeing (wsV RX8 168 RX8 yX8_takesBy wsX8_takesBy) := goodIn_app (a := bkV RX8 168 RX8 yX8_takesBy) (fun w h => ⟨List.mem_cons_of_mem _ (List.mem_append_right _ (List.mem_append_right _ (List.mem_append_left _ h))), good_of_word (gd_bV _ _ _ _ w h)⟩) ggX8_agreeing_X8_takesBy
def tb_X8_agreeing_1 : List (Nat × Instr × Nat) := [(0, .iconst 0, 1), (1, .istore_n 1, 1), (2, .iconst 0, 1), (3, .istore_n 2, 1), (4, .iload_n 2, 1), (5, .aload_n 0, 1), (6, .getfield 25, 3), (9, .iconst 3, 1), (10, .iaload, 1), (11, .if_icmp .ge 134, 3), (14, .iconst 1, 1), (15, .istore_n 3, 1), (16, .iconst 0, 1), (17, .istore 4, 2), (19, .iload 4, 2), (21, .aload_n 0, 1), (22, .getfield 25, 3), (25, .bipush 7, 2), (27, .iaload, 1), (28, .if_icmp .ge 97, 3), (31, .aload_n 0, 1), (32, .getfield 25, 3), (35, .bipush 38, 2), (37, .iconst 3, 1), (38, .iload 4, 2), (40, .imul, 1), (41, .iadd, 1), (42, .iconst 1, 1), (43, .iadd, 1), (44, .iaload, 1), (45, .iconst 1, 1), (46, .isub, 1), (47, .istore 5, 2), (49, .iload_n 3, 1), (50, .ifCond .eq 67, 3), (53, .iload 5, 2), (55, .ifCond .lt 58, 3), (58, .aload_n 0, 1), (59, .aload_n 0, 1), (60, .iload 5, 2)]
set_option maxRecDepth 100000 in
theorem tk_X8_agreeing_1 : (tb_X8_agreeing_1.all fun q => decide (decode cX8_agreeing q.1 = .ok q.2)) = true := by decide +kernel
theorem dX8_agreeing_0 : decode cX8_agreeing 0 = .ok (.iconst 0, 1) := tb_d tk_X8_agreeing_1 0 (0, .iconst 0, 1) rfl
theorem dX8_agreeing_1 : decode cX8_agreeing 1 = .ok (.istore_n 1, 1) := tb_d tk_X8_agreeing_1 1 (1, .istore_n 1, 1) rfl
theorem dX8_agreeing_2 : decode cX8_agreeing 2 = .ok (.iconst 0, 1) := tb_d tk_X8_agreeing_1 2 (2, .iconst 0, 1) rfl
theorem dX8_agreeing_3 : decode cX8_agreeing 3 = .ok (.istore_n 2, 1) := tb_d tk_X8_agreeing_1 3 (3, .istore_n 2, 1) rfl
theorem dX8_agreeing_4 : decode cX8_agreeing 4 = .ok (.iload_n 2, 1) := tb_d tk_X8_agreeing_1 4 (4, .iload_n 2, 1) rfl
theorem dX8_agreeing_5 : decode cX8_agreeing 5 = .ok (.aload_n 0, 1) := tb_d tk_X8_agreeing_1 5 (5, .aload_n 0, 1) rfl
theorem dX8_agreeing_6 : decode cX8_agreeing 6 = .ok (.getfield 25, 3) := tb_d tk_X8_agreeing_1 6 (6, .getfield 25, 3) rfl
theorem dX8_agreeing_9 : decode cX8_agreeing 9 = .ok (.iconst 3, 1) := tb_d tk_X8_agreeing_1 7 (9, .iconst 3, 1) rfl
theorem dX8_agreeing_10 : decode cX8_agreeing 10 = .ok (.iaload, 1) := tb_d tk_X8_agreeing_1 8 (10, .iaload, 1) rfl
theorem dX8_agreeing_11 : decode cX8_agreeing 11 = .ok (.if_icmp .ge 134, 3) := tb_d tk_X8_agreeing_1 9 (11, .if_icmp .ge 134, 3) rfl
theorem dX8_agreeing_14 : decode cX8_agreeing 14 = .ok (.iconst 1, 1) := tb_d tk_X8_agreeing_1 10 (14, .iconst 1, 1) rfl
theorem dX8_agreeing_15 : decode cX8_agreeing 15 = .ok (.istore_n 3, 1) := tb_d tk_X8_agreeing_1 11 (15, .istore_n 3, 1) rfl
theorem dX8_agreeing_16 : decode cX8_agreeing 16 = .ok (.iconst 0, 1) := tb_d tk_X8_agreeing_1 12 (16, .iconst 0, 1) rfl
theorem dX8_agreeing_17 : decode cX8_agreeing 17 = .ok (.istore 4, 2) := tb_d tk_X8_agreeing_1 13 (17, .istore 4, 2) rfl
theorem dX8_agreeing_19 : decode cX8_agreeing 19 = .ok (.iload 4, 2) := tb_d tk_X8_agreeing_1 14 (19, .iload 4, 2) rfl
theorem dX8_agreeing_21 : decode cX8_agreeing 21 = .ok (.aload_n 0, 1) := tb_d tk_X8_agreeing_1 15 (21, .aload_n 0, 1) rfl
theorem dX8_agreeing_22 : decode cX8_agreeing 22 = .ok (.getfield 25, 3) := tb_d tk_X8_agreeing_1 16 (22, .getfield 25, 3) rfl
theorem dX8_agreeing_25 : decode cX8_agreeing 25 = .ok (.bipush 7, 2) := tb_d tk_X8_agreeing_1 17 (25, .bipush 7, 2) rfl
theorem dX8_agreeing_27 : decode cX8_agreeing 27 = .ok (.iaload, 1) := tb_d tk_X8_agreeing_1 18 (27, .iaload, 1) rfl
theorem dX8_agreeing_28 : decode cX8_agreeing 28 = .ok (.if_icmp .ge 97, 3) := tb_d tk_X8_agreeing_1 19 (28, .if_icmp .ge 97, 3) rfl
theorem dX8_agreeing_31 : decode cX8_agreeing 31 = .ok (.aload_n 0, 1) := tb_d tk_X8_agreeing_1 20 (31, .aload_n 0, 1) rfl
theorem dX8_agreeing_32 : decode cX8_agreeing 32 = .ok (.getfield 25, 3) := tb_d tk_X8_agreeing_1 21 (32, .getfield 25, 3) rfl
theorem dX8_agreeing_35 : decode cX8_agreeing 35 = .ok (.bipush 38, 2) := tb_d tk_X8_agreeing_1 22 (35, .bipush 38, 2) rfl
theorem dX8_agreeing_37 : decode cX8_agreeing 37 = .ok (.iconst 3, 1) := tb_d tk_X8_agreeing_1 23 (37, .iconst 3, 1) rfl
theorem dX8_agreeing_38 : decode cX8_agreeing 38 = .ok (.iload 4, 2) := tb_d tk_X8_agreeing_1 24 (38, .iload 4, 2) rfl
theorem dX8_agreeing_40 : decode cX8_agreeing 40 = .ok (.imul, 1) := tb_d tk_X8_agreeing_1 25 (40, .imul, 1) rfl
theorem dX8_agreeing_41 : decode cX8_agreeing 41 = .ok (.iadd, 1) := tb_d tk_X8_agreeing_1 26 (41, .iadd, 1) rfl
theorem dX8_agreeing_42 : decode cX8_agreeing 42 = .ok (.iconst 1, 1) := tb_d tk_X8_agreeing_1 27 (42, .iconst 1, 1) rfl
theorem dX8_agreeing_43 : decode cX8_agreeing 43 = .ok (.iadd, 1) := tb_d tk_X8_agreeing_1 28 (43, .iadd, 1) rfl
theorem dX8_agreeing_44 : decode cX8_agreeing 44 = .ok (.iaload, 1) := tb_d tk_X8_agreeing_1 29 (44, .iaload, 1) rfl
theorem dX8_agreeing_45 : decode cX8_agreeing 45 = .ok (.iconst 1, 1) := tb_d tk_X8_agreeing_1 30 (45, .iconst 1, 1) rfl
theorem dX8_agreeing_46 : decode cX8_agreeing 46 = .ok (.isub, 1) := tb_d tk_X8_agreeing_1 31 (46, .isub, 1) rfl
theorem dX8_agreeing_47 : decode cX8_agreeing 47 = .ok (.istore 5, 2) := tb_d tk_X8_agreeing_1 32 (47, .istore 5, 2) rfl
theorem dX8_agreeing_49 : decode cX8_agreeing 49 = .ok (.iload_n 3, 1) := tb_d tk_X8_agreeing_1 33 (49, .iload_n 3, 1) rfl
theorem dX8_agreeing_50 : decode cX8_agreeing 50 = .ok (.ifCond .eq 67, 3) := tb_d tk_X8_agreeing_1 34 (50, .ifCond .eq 67, 3) rfl
theorem dX8_agreeing_53 : decode cX8_agreeing 53 = .ok (.iload 5, 2) := tb_d tk_X8_agreeing_1 35 (53, .iload 5, 2) rfl
theorem dX8_agreeing_55 : decode cX8_agreeing 55 = .ok (.ifCond .lt 58, 3) := tb_d tk_X8_agreeing_1 36 (55, .ifCond .lt 58, 3) rfl
theorem dX8_agreeing_58 : decode cX8_agreeing 58 = .ok (.aload_n 0, 1) := tb_d tk_X8_agreeing_1 37 (58, .aload_n 0, 1) rfl
theorem dX8_agreeing_59 : decode cX8_agreeing 59 = .ok (.aload_n 0, 1) := tb_d tk_X8_agreeing_1 38 (59, .aload_n 0, 1) rfl
theorem dX8_agreeing_60 : decode cX8_agreeing 60 = .ok (.iload 5, 2) := tb_d tk_X8_agreeing_1 39 (60, .iload 5, 2) rfl
def tb_X8_agreeing_2 : List (Nat × Instr × Nat) := [(62, .invokevirtual 165, 3), (65, .aload_n 0, 1), (66, .getfield 25, 3), (69, .bipush 38, 2), (71, .iconst 3, 1), (72, .iload 4, 2), (74, .imul, 1), (75, .iadd, 1), (76, .iaload, 1), (77, .iload_n 2, 1), (78, .aload_n 0, 1), (79, .getfield 25, 3), (82, .iconst 5, 1), (83, .iaload, 1), (84, .invokevirtual 168, 3), (87, .aload_n 0, 1), (88, .getfield 25, 3), (91, .bipush 38, 2), (93, .iconst 3, 1), (94, .iload 4, 2), (96, .imul, 1), (97, .iadd, 1), (98, .iconst 2, 1), (99, .iadd, 1), (100, .iaload, 1), (101, .iconst 1, 1), (102, .if_icmp .ne 7, 3), (105, .iconst 1, 1), (106, .goto 4, 3), (109, .iconst 0, 1), (110, .if_icmp .ne 7, 3), (113, .iconst 1, 1), (114, .goto 4, 3), (117, .iconst 0, 1), (118, .istore_n 3, 1), (119, .iinc 4 1, 3), (122, .goto (-103), 3), (125, .iload_n 1, 1), (126, .iload_n 3, 1), (127, .ifCond .eq 9, 3)]
set_option maxRecDepth 100000 in
theorem tk_X8_agreeing_2 : (tb_X8_agreeing_2.all fun q => decide (decode cX8_agreeing q.1 = .ok q.2)) = true := by decide +kernel
theorem dX8_agreeing_62 : decode cX8_agreeing 62 = .ok (.invokevirtual 165, 3) := tb_d tk_X8_agreeing_2 0 (62, .invokevirtual 165, 3) rfl
theorem dX8_agreeing_65 : decode cX8_agreeing 65 = .ok (.aload_n 0, 1) := tb_d tk_X8_agreeing_2 1 (65, .aload_n 0, 1) rfl
theorem dX8_agreeing_66 : decode cX8_agreeing 66 = .ok (.getfield 25, 3) := tb_d tk_X8_agreeing_2 2 (66, .getfield 25, 3) rfl
theorem dX8_agreeing_69 : decode cX8_agreeing 69 = .ok (.bipush 38, 2) := tb_d tk_X8_agreeing_2 3 (69, .bipush 38, 2) rfl
theorem dX8_agreeing_71 : decode cX8_agreeing 71 = .ok (.iconst 3, 1) := tb_d tk_X8_agreeing_2 4 (71, .iconst 3, 1) rfl
theorem dX8_agreeing_72 : decode cX8_agreeing 72 = .ok (.iload 4, 2) := tb_d tk_X8_agreeing_2 5 (72, .iload 4, 2) rfl
theorem dX8_agreeing_74 : decode cX8_agreeing 74 = .ok (.imul, 1) := tb_d tk_X8_agreeing_2 6 (74, .imul, 1) rfl
theorem dX8_agreeing_75 : decode cX8_agreeing 75 = .ok (.iadd, 1) := tb_d tk_X8_agreeing_2 7 (75, .iadd, 1) rfl
theorem dX8_agreeing_76 : decode cX8_agreeing 76 = .ok (.iaload, 1) := tb_d tk_X8_agreeing_2 8 (76, .iaload, 1) rfl
theorem dX8_agreeing_77 : decode cX8_agreeing 77 = .ok (.iload_n 2, 1) := tb_d tk_X8_agreeing_2 9 (77, .iload_n 2, 1) rfl
theorem dX8_agreeing_78 : decode cX8_agreeing 78 = .ok (.aload_n 0, 1) := tb_d tk_X8_agreeing_2 10 (78, .aload_n 0, 1) rfl
theorem dX8_agreeing_79 : decode cX8_agreeing 79 = .ok (.getfield 25, 3) := tb_d tk_X8_agreeing_2 11 (79, .getfield 25, 3) rfl
theorem dX8_agreeing_82 : decode cX8_agreeing 82 = .ok (.iconst 5, 1) := tb_d tk_X8_agreeing_2 12 (82, .iconst 5, 1) rfl
theorem dX8_agreeing_83 : decode cX8_agreeing 83 = .ok (.iaload, 1) := tb_d tk_X8_agreeing_2 13 (83, .iaload, 1) rfl
theorem dX8_agreeing_84 : decode cX8_agreeing 84 = .ok (.invokevirtual 168, 3) := tb_d tk_X8_agreeing_2 14 (84, .invokevirtual 168, 3) rfl
theorem dX8_agreeing_87 : decode cX8_agreeing 87 = .ok (.aload_n 0, 1) := tb_d tk_X8_agreeing_2 15 (87, .aload_n 0, 1) rfl
theorem dX8_agreeing_88 : decode cX8_agreeing 88 = .ok (.getfield 25, 3) := tb_d tk_X8_agreeing_2 16 (88, .getfield 25, 3) rfl
theorem dX8_agreeing_91 : decode cX8_agreeing 91 = .ok (.bipush 38, 2) := tb_d tk_X8_agreeing_2 17 (91, .bipush 38, 2) rfl
theorem dX8_agreeing_93 : decode cX8_agreeing 93 = .ok (.iconst 3, 1) := tb_d tk_X8_agreeing_2 18 (93, .iconst 3, 1) rfl
theorem dX8_agreeing_94 : decode cX8_agreeing 94 = .ok (.iload 4, 2) := tb_d tk_X8_agreeing_2 19 (94, .iload 4, 2) rfl
theorem dX8_agreeing_96 : decode cX8_agreeing 96 = .ok (.imul, 1) := tb_d tk_X8_agreeing_2 20 (96, .imul, 1) rfl
theorem dX8_agreeing_97 : decode cX8_agreeing 97 = .ok (.iadd, 1) := tb_d tk_X8_agreeing_2 21 (97, .iadd, 1) rfl
theorem dX8_agreeing_98 : decode cX8_agreeing 98 = .ok (.iconst 2, 1) := tb_d tk_X8_agreeing_2 22 (98, .iconst 2, 1) rfl
theorem dX8_agreeing_99 : decode cX8_agreeing 99 = .ok (.iadd, 1) := tb_d tk_X8_agreeing_2 23 (99, .iadd, 1) rfl
theorem dX8_agreeing_100 : decode cX8_agreeing 100 = .ok (.iaload, 1) := tb_d tk_X8_agreeing_2 24 (100, .iaload, 1) rfl
theorem dX8_agreeing_101 : decode cX8_agreeing 101 = .ok (.iconst 1, 1) := tb_d tk_X8_agreeing_2 25 (101, .iconst 1, 1) rfl
theorem dX8_agreeing_102 : decode cX8_agreeing 102 = .ok (.if_icmp .ne 7, 3) := tb_d tk_X8_agreeing_2 26 (102, .if_icmp .ne 7, 3) rfl
theorem dX8_agreeing_105 : decode cX8_agreeing 105 = .ok (.iconst 1, 1) := tb_d tk_X8_agreeing_2 27 (105, .iconst 1, 1) rfl
theorem dX8_agreeing_106 : decode cX8_agreeing 106 = .ok (.goto 4, 3) := tb_d tk_X8_agreeing_2 28 (106, .goto 4, 3) rfl
theorem dX8_agreeing_109 : decode cX8_agreeing 109 = .ok (.iconst 0, 1) := tb_d tk_X8_agreeing_2 29 (109, .iconst 0, 1) rfl
theorem dX8_agreeing_110 : decode cX8_agreeing 110 = .ok (.if_icmp .ne 7, 3) := tb_d tk_X8_agreeing_2 30 (110, .if_icmp .ne 7, 3) rfl
theorem dX8_agreeing_113 : decode cX8_agreeing 113 = .ok (.iconst 1, 1) := tb_d tk_X8_agreeing_2 31 (113, .iconst 1, 1) rfl
theorem dX8_agreeing_114 : decode cX8_agreeing 114 = .ok (.goto 4, 3) := tb_d tk_X8_agreeing_2 32 (114, .goto 4, 3) rfl
theorem dX8_agreeing_117 : decode cX8_agreeing 117 = .ok (.iconst 0, 1) := tb_d tk_X8_agreeing_2 33 (117, .iconst 0, 1) rfl
theorem dX8_agreeing_118 : decode cX8_agreeing 118 = .ok (.istore_n 3, 1) := tb_d tk_X8_agreeing_2 34 (118, .istore_n 3, 1) rfl
theorem dX8_agreeing_119 : decode cX8_agreeing 119 = .ok (.iinc 4 1, 3) := tb_d tk_X8_agreeing_2 35 (119, .iinc 4 1, 3) rfl
theorem dX8_agreeing_122 : decode cX8_agreeing 122 = .ok (.goto (-103), 3) := tb_d tk_X8_agreeing_2 36 (122, .goto (-103), 3) rfl
theorem dX8_agreeing_125 : decode cX8_agreeing 125 = .ok (.iload_n 1, 1) := tb_d tk_X8_agreeing_2 37 (125, .iload_n 1, 1) rfl
theorem dX8_agreeing_126 : decode cX8_agreeing 126 = .ok (.iload_n 3, 1) := tb_d tk_X8_agreeing_2 38 (126, .iload_n 3, 1) rfl
theorem dX8_agreeing_127 : decode cX8_agreeing 127 = .ok (.ifCond .eq 9, 3) := tb_d tk_X8_agreeing_2 39 (127, .ifCond .eq 9, 3) rfl
def tb_X8_agreeing_3 : List (Nat × Instr × Nat) := [(130, .iconst 1, 1), (131, .iload_n 2, 1), (132, .ishl, 1), (133, .goto 4, 3), (136, .iconst 0, 1), (137, .ior, 1), (138, .istore_n 1, 1), (139, .iinc 2 1, 3), (142, .goto (-138), 3), (145, .iload_n 1, 1), (146, .ireturn, 1)]
set_option maxRecDepth 100000 in
theorem tk_X8_agreeing_3 : (tb_X8_agreeing_3.all fun q => decide (decode cX8_agreeing q.1 = .ok q.2)) = true := by decide +kernel
theorem dX8_agreeing_130 : decode cX8_agreeing 130 = .ok (.iconst 1, 1) := tb_d tk_X8_agreeing_3 0 (130, .iconst 1, 1) rfl
theorem dX8_agreeing_131 : decode cX8_agreeing 131 = .ok (.iload_n 2, 1) := tb_d tk_X8_agreeing_3 1 (131, .iload_n 2, 1) rfl
theorem dX8_agreeing_132 : decode cX8_agreeing 132 = .ok (.ishl, 1) := tb_d tk_X8_agreeing_3 2 (132, .ishl, 1) rfl
theorem dX8_agreeing_133 : decode cX8_agreeing 133 = .ok (.goto 4, 3) := tb_d tk_X8_agreeing_3 3 (133, .goto 4, 3) rfl
theorem dX8_agreeing_136 : decode cX8_agreeing 136 = .ok (.iconst 0, 1) := tb_d tk_X8_agreeing_3 4 (136, .iconst 0, 1) rfl
theorem dX8_agreeing_137 : decode cX8_agreeing 137 = .ok (.ior, 1) := tb_d tk_X8_agreeing_3 5 (137, .ior, 1) rfl
theorem dX8_agreeing_138 : decode cX8_agreeing 138 = .ok (.istore_n 1, 1) := tb_d tk_X8_agreeing_3 6 (138, .istore_n 1, 1) rfl
theorem dX8_agreeing_139 : decode cX8_agreeing 139 = .ok (.iinc 2 1, 3) := tb_d tk_X8_agreeing_3 7 (139, .iinc 2 1, 3) rfl
theorem dX8_agreeing_142 : decode cX8_agreeing 142 = .ok (.goto (-138), 3) := tb_d tk_X8_agreeing_3 8 (142, .goto (-138), 3) rfl
theorem dX8_agreeing_145 : decode cX8_agreeing 145 = .ok (.iload_n 1, 1) := tb_d tk_X8_agreeing_3 9 (145, .iload_n 1, 1) rfl
theorem dX8_agreeing_146 : decode cX8_agreeing 146 = .ok (.ireturn, 1) := tb_d tk_X8_agreeing_3 10 (146, .ireturn, 1) rfl
theorem ggX8_agree_X8_isGate : GoodIn wsX8_agree wsX8_isGate := fun w h => ⟨List.mem_cons_of_mem _ (List.mem_append_right _ (List.mem_append_right _ (List.mem_append_right _ (List.mem_append_right _ (List.mem_append_left _ h))))), good_of_word (gdX8_isGate w h)⟩
set_option maxRecDepth 20000 in
theorem gX8_agree_X8_isGate : GoodIn wsX8_agree (wsV RX8 180 RX8 yX8_isGate wsX8_isGate) := goodIn_app (a := bkV RX8 180 RX8 yX8_isGate) (fun w h => ⟨List.mem_cons_of_mem _ (List.mem_append_right _ (List.mem_append_left _ h)), good_of_word (gd_bV _ _ _ _ w h)⟩) ggX8_agree_X8_isGate
theorem ggX8_agree_X8_agreeing : GoodIn wsX8_agree wsX8_agreeing := fun w h => ⟨List.mem_cons_of_mem _ (List.mem_append_right _ (List.mem_append_right _ (List.mem_append_right _ (List.mem_append_right _ (List.mem_append_right _ (List.mem_append_left _ h)))))), good_of_word (gdX8_agreeing w h)⟩
set_option maxRecDepth 20000 in
theorem gX8_agree_X8_agreeing : GoodIn wsX8_agree (wsV RX8 214 RX8 yX8_agreeing wsX8_agreeing) := goodIn_app (a := bkV RX8 214 RX8 yX8_agreeing) (fun w h => ⟨List.mem_cons_of_mem _ (List.mem_append_right _ (List.mem_append_right _ (List.mem_append_left _ h))), good_of_word (gd_bV _ _ _ _ w h)⟩) ggX8_agree_X8_agreeing
def tb_X8_agree_1 : List (Nat × Instr × Nat) := [(0, .aload_n 0, 1), (1, .invokevirtual 180, 3), (4, .ifCond .eq 10, 3), (7, .aload_n 0, 1), (8, .invokevirtual 214, 3), (11, .goto 5, 3), (14, .ldc 183, 2), (16, .ireturn, 1)]
set_option maxRecDepth 100000 in
theorem tk_X8_agree_1 : (tb_X8_agree_1.all fun q => decide (decode cX8_agree q.1 = .ok q.2)) = true := by decide +kernel
theorem dX8_agree_0 : decode cX8_agree 0 = .ok (.aload_n 0, 1) := tb_d tk_X8_agree_1 0 (0, .aload_n 0, 1) rfl
theorem dX8_agree_1 : decode cX8_agree 1 = .ok (.invokevirtual 180, 3) := tb_d tk_X8_agree_1 1 (1, .invokevirtual 180, 3) rfl
theorem dX8_agree_4 : decode cX8_agree 4 = .ok (.ifCond .eq 10, 3) := tb_d tk_X8_agree_1 2 (4, .ifCond .eq 10, 3) rfl
theorem dX8_agree_7 : decode cX8_agree 7 = .ok (.aload_n 0, 1) := tb_d tk_X8_agree_1 3 (7, .aload_n 0, 1) rfl
theorem dX8_agree_8 : decode cX8_agree 8 = .ok (.invokevirtual 214, 3) := tb_d tk_X8_agree_1 4 (8, .invokevirtual 214, 3) rfl
theorem dX8_agree_11 : decode cX8_agree 11 = .ok (.goto 5, 3) := tb_d tk_X8_agree_1 5 (11, .goto 5, 3) rfl
theorem dX8_agree_14 : decode cX8_agree 14 = .ok (.ldc 183, 2) := tb_d tk_X8_agree_1 6 (14, .ldc 183, 2) rfl
theorem dX8_agree_16 : decode cX8_agree 16 = .ok (.ireturn, 1) := tb_d tk_X8_agree_1 7 (16, .ireturn, 1) rfl
theorem ggX8_takenOf_X8_has : GoodIn wsX8_takenOf wsX8_has := fun w h => ⟨List.mem_cons_of_mem _ (List.mem_append_right _ (List.mem_append_right _ (List.mem_append_right _ (List.mem_append_right _ (List.mem_append_left _ h))))), good_of_word (gdX8_has w h)⟩
set_option maxRecDepth 20000 in
theorem gX8_takenOf_X8_has : GoodIn wsX8_takenOf (va_wsS RX8 161 yX8_has wsX8_has) := goodIn_app (a := bkS RX8 161 yX8_has) (fun w h => ⟨List.mem_cons_of_mem _ (List.mem_append_right _ (List.mem_append_left _ h)), good_of_word (gd_bS _ _ _ w h)⟩) ggX8_takenOf_X8_has
theorem ggX8_takenOf_X8_isTaken : GoodIn wsX8_takenOf wsX8_isTaken := fun w h => ⟨List.mem_cons_of_mem _ (List.mem_append_right _ (List.mem_append_right _ (List.mem_append_right _ (List.mem_append_right _ (List.mem_append_right _ (List.mem_append_left _ h)))))), good_of_word (gdX8_isTaken w h)⟩
set_option maxRecDepth 20000 in
theorem gX8_takenOf_X8_isTaken : GoodIn wsX8_takenOf (wsV RX8 176 RX8 yX8_isTaken wsX8_isTaken) := goodIn_app (a := bkV RX8 176 RX8 yX8_isTaken) (fun w h => ⟨List.mem_cons_of_mem _ (List.mem_append_right _ (List.mem_append_right _ (List.mem_append_left _ h))), good_of_word (gd_bV _ _ _ _ w h)⟩) ggX8_takenOf_X8_isTaken
def tb_X8_takenOf_1 : List (Nat × Instr × Nat) := [(0, .iconst 0, 1), (1, .istore 4, 2), (3, .iconst 0, 1), (4, .istore 5, 2), (6, .iload 5, 2), (8, .aload_n 0, 1), (9, .getfield 25, 3), (12, .iconst 3, 1), (13, .iaload, 1), (14, .if_icmp .ge 55, 3), (17, .iload 4, 2), (19, .iload_n 1, 1), (20, .iload 5, 2), (22, .invokestatic 161, 3), (25, .ifCond .eq 34, 3), (28, .aload_n 0, 1), (29, .iload_n 2, 1), (30, .iload_n 3, 1), (31, .aload_n 0, 1), (32, .getfield 25, 3), (35, .iconst 5, 1), (36, .iaload, 1), (37, .aload_n 0, 1), (38, .getfield 25, 3), (41, .bipush 6, 2), (43, .iaload, 1), (44, .iload 5, 2), (46, .invokevirtual 176, 3), (49, .ifCond .eq 10, 3), (52, .iconst 1, 1), (53, .iload 5, 2), (55, .ishl, 1), (56, .goto 4, 3), (59, .iconst 0, 1), (60, .ior, 1), (61, .istore 4, 2), (63, .iinc 5 1, 3), (66, .goto (-60), 3), (69, .iload 4, 2), (71, .ireturn, 1)]
set_option maxRecDepth 100000 in
theorem tk_X8_takenOf_1 : (tb_X8_takenOf_1.all fun q => decide (decode cX8_takenOf q.1 = .ok q.2)) = true := by decide +kernel
theorem dX8_takenOf_0 : decode cX8_takenOf 0 = .ok (.iconst 0, 1) := tb_d tk_X8_takenOf_1 0 (0, .iconst 0, 1) rfl
theorem dX8_takenOf_1 : decode cX8_takenOf 1 = .ok (.istore 4, 2) := tb_d tk_X8_takenOf_1 1 (1, .istore 4, 2) rfl
theorem dX8_takenOf_3 : decode cX8_takenOf 3 = .ok (.iconst 0, 1) := tb_d tk_X8_takenOf_1 2 (3, .iconst 0, 1) rfl
theorem dX8_takenOf_4 : decode cX8_takenOf 4 = .ok (.istore 5, 2) := tb_d tk_X8_takenOf_1 3 (4, .istore 5, 2) rfl
theorem dX8_takenOf_6 : decode cX8_takenOf 6 = .ok (.iload 5, 2) := tb_d tk_X8_takenOf_1 4 (6, .iload 5, 2) rfl
theorem dX8_takenOf_8 : decode cX8_takenOf 8 = .ok (.aload_n 0, 1) := tb_d tk_X8_takenOf_1 5 (8, .aload_n 0, 1) rfl
theorem dX8_takenOf_9 : decode cX8_takenOf 9 = .ok (.getfield 25, 3) := tb_d tk_X8_takenOf_1 6 (9, .getfield 25, 3) rfl
theorem dX8_takenOf_12 : decode cX8_takenOf 12 = .ok (.iconst 3, 1) := tb_d tk_X8_takenOf_1 7 (12, .iconst 3, 1) rfl
theorem dX8_takenOf_13 : decode cX8_takenOf 13 = .ok (.iaload, 1) := tb_d tk_X8_takenOf_1 8 (13, .iaload, 1) rfl
theorem dX8_takenOf_14 : decode cX8_takenOf 14 = .ok (.if_icmp .ge 55, 3) := tb_d tk_X8_takenOf_1 9 (14, .if_icmp .ge 55, 3) rfl
theorem dX8_takenOf_17 : decode cX8_takenOf 17 = .ok (.iload 4, 2) := tb_d tk_X8_takenOf_1 10 (17, .iload 4, 2) rfl
theorem dX8_takenOf_19 : decode cX8_takenOf 19 = .ok (.iload_n 1, 1) := tb_d tk_X8_takenOf_1 11 (19, .iload_n 1, 1) rfl
theorem dX8_takenOf_20 : decode cX8_takenOf 20 = .ok (.iload 5, 2) := tb_d tk_X8_takenOf_1 12 (20, .iload 5, 2) rfl
theorem dX8_takenOf_22 : decode cX8_takenOf 22 = .ok (.invokestatic 161, 3) := tb_d tk_X8_takenOf_1 13 (22, .invokestatic 161, 3) rfl
theorem dX8_takenOf_25 : decode cX8_takenOf 25 = .ok (.ifCond .eq 34, 3) := tb_d tk_X8_takenOf_1 14 (25, .ifCond .eq 34, 3) rfl
theorem dX8_takenOf_28 : decode cX8_takenOf 28 = .ok (.aload_n 0, 1) := tb_d tk_X8_takenOf_1 15 (28, .aload_n 0, 1) rfl
theorem dX8_takenOf_29 : decode cX8_takenOf 29 = .ok (.iload_n 2, 1) := tb_d tk_X8_takenOf_1 16 (29, .iload_n 2, 1) rfl
theorem dX8_takenOf_30 : decode cX8_takenOf 30 = .ok (.iload_n 3, 1) := tb_d tk_X8_takenOf_1 17 (30, .iload_n 3, 1) rfl
theorem dX8_takenOf_31 : decode cX8_takenOf 31 = .ok (.aload_n 0, 1) := tb_d tk_X8_takenOf_1 18 (31, .aload_n 0, 1) rfl
theorem dX8_takenOf_32 : decode cX8_takenOf 32 = .ok (.getfield 25, 3) := tb_d tk_X8_takenOf_1 19 (32, .getfield 25, 3) rfl
theorem dX8_takenOf_35 : decode cX8_takenOf 35 = .ok (.iconst 5, 1) := tb_d tk_X8_takenOf_1 20 (35, .iconst 5, 1) rfl
theorem dX8_takenOf_36 : decode cX8_takenOf 36 = .ok (.iaload, 1) := tb_d tk_X8_takenOf_1 21 (36, .iaload, 1) rfl
theorem dX8_takenOf_37 : decode cX8_takenOf 37 = .ok (.aload_n 0, 1) := tb_d tk_X8_takenOf_1 22 (37, .aload_n 0, 1) rfl
theorem dX8_takenOf_38 : decode cX8_takenOf 38 = .ok (.getfield 25, 3) := tb_d tk_X8_takenOf_1 23 (38, .getfield 25, 3) rfl
theorem dX8_takenOf_41 : decode cX8_takenOf 41 = .ok (.bipush 6, 2) := tb_d tk_X8_takenOf_1 24 (41, .bipush 6, 2) rfl
theorem dX8_takenOf_43 : decode cX8_takenOf 43 = .ok (.iaload, 1) := tb_d tk_X8_takenOf_1 25 (43, .iaload, 1) rfl
theorem dX8_takenOf_44 : decode cX8_takenOf 44 = .ok (.iload 5, 2) := tb_d tk_X8_takenOf_1 26 (44, .iload 5, 2) rfl
theorem dX8_takenOf_46 : decode cX8_takenOf 46 = .ok (.invokevirtual 176, 3) := tb_d tk_X8_takenOf_1 27 (46, .invokevirtual 176, 3) rfl
theorem dX8_takenOf_49 : decode cX8_takenOf 49 = .ok (.ifCond .eq 10, 3) := tb_d tk_X8_takenOf_1 28 (49, .ifCond .eq 10, 3) rfl
theorem dX8_takenOf_52 : decode cX8_takenOf 52 = .ok (.iconst 1, 1) := tb_d tk_X8_takenOf_1 29 (52, .iconst 1, 1) rfl
theorem dX8_takenOf_53 : decode cX8_takenOf 53 = .ok (.iload 5, 2) := tb_d tk_X8_takenOf_1 30 (53, .iload 5, 2) rfl
theorem dX8_takenOf_55 : decode cX8_takenOf 55 = .ok (.ishl, 1) := tb_d tk_X8_takenOf_1 31 (55, .ishl, 1) rfl
theorem dX8_takenOf_56 : decode cX8_takenOf 56 = .ok (.goto 4, 3) := tb_d tk_X8_takenOf_1 32 (56, .goto 4, 3) rfl
theorem dX8_takenOf_59 : decode cX8_takenOf 59 = .ok (.iconst 0, 1) := tb_d tk_X8_takenOf_1 33 (59, .iconst 0, 1) rfl
theorem dX8_takenOf_60 : decode cX8_takenOf 60 = .ok (.ior, 1) := tb_d tk_X8_takenOf_1 34 (60, .ior, 1) rfl
theorem dX8_takenOf_61 : decode cX8_takenOf 61 = .ok (.istore 4, 2) := tb_d tk_X8_takenOf_1 35 (61, .istore 4, 2) rfl
theorem dX8_takenOf_63 : decode cX8_takenOf 63 = .ok (.iinc 5 1, 3) := tb_d tk_X8_takenOf_1 36 (63, .iinc 5 1, 3) rfl
theorem dX8_takenOf_66 : decode cX8_takenOf 66 = .ok (.goto (-60), 3) := tb_d tk_X8_takenOf_1 37 (66, .goto (-60), 3) rfl
theorem dX8_takenOf_69 : decode cX8_takenOf 69 = .ok (.iload 4, 2) := tb_d tk_X8_takenOf_1 38 (69, .iload 4, 2) rfl
theorem dX8_takenOf_71 : decode cX8_takenOf 71 = .ok (.ireturn, 1) := tb_d tk_X8_takenOf_1 39 (71, .ireturn, 1) rfl
theorem ggX8_man_X8_isGate : GoodIn wsX8_man wsX8_isGate := fun w h => ⟨List.mem_cons_of_mem _ (List.mem_append_right _ (List.mem_append_right _ (List.mem_append_right _ (List.mem_append_right _ (List.mem_append_right _ (List.mem_append_right _ (List.mem_append_right _ (List.mem_append_left _ h)))))))), good_of_word (gdX8_isGate w h)⟩
set_option maxRecDepth 20000 in
theorem gX8_man_X8_isGate : GoodIn wsX8_man (wsV RX8 180 RX8 yX8_isGate wsX8_isGate) := goodIn_app (a := bkV RX8 180 RX8 yX8_isGate) (fun w h => ⟨List.mem_cons_of_mem _ (List.mem_append_right _ (List.mem_append_left _ h)), good_of_word (gd_bV _ _ _ _ w h)⟩) ggX8_man_X8_isGate
theorem ggX8_man_X8_in : GoodIn wsX8_man wsX8_in := fun w h => ⟨List.mem_cons_of_mem _ (List.mem_append_right _ (List.mem_append_right _ (List.mem_append_right _ (List.mem_append_right _ (List.mem_append_right _ (List.mem_append_right _ (List.mem_append_right _ (List.mem_append_right _ (List.mem_append_left _ h))))))))), good_of_word (gdX8_in w h)⟩
set_option maxRecDepth 20000 in
theorem gX8_man_X8_in : GoodIn wsX8_man (va_wsS RX8 56 yX8_in wsX8_in) := goodIn_app (a := bkS RX8 56 yX8_in) (fun w h => ⟨List.mem_cons_of_mem _ (List.mem_append_right _ (List.mem_append_right _ (List.mem_append_left _ h))), good_of_word (gd_bS _ _ _ w h)⟩) ggX8_man_X8_in
theorem ggX8_man_X8_agreeing : GoodIn wsX8_man wsX8_agreeing := fun w h => ⟨List.mem_cons_of_mem _ (List.mem_append_right _ (List.mem_append_right _ (List.mem_append_right _ (List.mem_append_right _ (List.mem_append_right _ (List.mem_append_right _ (List.mem_append_right _ (List.mem_append_right _ (List.mem_append_right _ (List.mem_append_left _ h)))))))))), good_of_word (gdX8_agreeing w h)⟩
set_option maxRecDepth 20000 in
theorem gX8_man_X8_agreeing : GoodIn wsX8_man (wsV RX8 214 RX8 yX8_agreeing wsX8_agreeing) := goodIn_app (a := bkV RX8 214 RX8 yX8_agreeing) (fun w h => ⟨List.mem_cons_of_mem _ (List.mem_append_right _ (List.mem_append_right _ (List.mem_append_right _ (List.mem_append_left _ h)))), good_of_word (gd_bV _ _ _ _ w h)⟩) ggX8_man_X8_agreeing
theorem ggX8_man_X8_ones : GoodIn wsX8_man wsX8_ones := fun w h => ⟨List.mem_cons_of_mem _ (List.mem_append_right _ (List.mem_append_right _ (List.mem_append_right _ (List.mem_append_right _ (List.mem_append_right _ (List.mem_append_right _ (List.mem_append_right _ (List.mem_append_right _ (List.mem_append_right _ (List.mem_append_right _ (List.mem_append_left _ h))))))))))), good_of_word (gdX8_ones w h)⟩
set_option maxRecDepth 20000 in
theorem gX8_man_X8_ones : GoodIn wsX8_man (va_wsS RX8 217 yX8_ones wsX8_ones) := goodIn_app (a := bkS RX8 217 yX8_ones) (fun w h => ⟨List.mem_cons_of_mem _ (List.mem_append_right _ (List.mem_append_right _ (List.mem_append_right _ (List.mem_append_right _ (List.mem_append_left _ h))))), good_of_word (gd_bS _ _ _ w h)⟩) ggX8_man_X8_ones
theorem ggX8_man_X8_takenOf : GoodIn wsX8_man wsX8_takenOf := fun w h => ⟨List.mem_cons_of_mem _ (List.mem_append_right _ (List.mem_append_right _ (List.mem_append_right _ (List.mem_append_right _ (List.mem_append_right _ (List.mem_append_right _ (List.mem_append_right _ (List.mem_append_right _ (List.mem_append_right _ (List.mem_append_right _ (List.mem_append_right _ (List.mem_append_left _ h)))))))))))), good_of_word (gdX8_takenOf w h)⟩
set_option maxRecDepth 20000 in
theorem gX8_man_X8_takenOf : GoodIn wsX8_man (wsV RX8 220 RX8 yX8_takenOf wsX8_takenOf) := goodIn_app (a := bkV RX8 220 RX8 yX8_takenOf) (fun w h => ⟨List.mem_cons_of_mem _ (List.mem_append_right _ (List.mem_append_right _ (List.mem_append_right _ (List.mem_append_right _ (List.mem_append_right _ (List.mem_append_left _ h)))))), good_of_word (gd_bV _ _ _ _ w h)⟩) ggX8_man_X8_takenOf
def tb_X8_man_1 : List (Nat × Instr × Nat) := [(0, .aload_n 0, 1), (1, .invokevirtual 180, 3), (4, .ifCond .ne 6, 3), (7, .ldc 183, 2), (9, .ireturn, 1), (10, .iload_n 1, 1), (11, .iconst 0, 1), (12, .iconst 2, 1), (13, .invokestatic 56, 3), (16, .ifCond .ne 6, 3), (19, .ldc 64, 2), (21, .ireturn, 1), (22, .aload_n 0, 1), (23, .invokevirtual 214, 3), (26, .istore_n 2, 1), (27, .iload_n 2, 1), (28, .invokestatic 217, 3), (31, .istore_n 3, 1), (32, .iconst 0, 1), (33, .istore 4, 2), (35, .iconst 0, 1), (36, .istore 5, 2), (38, .bipush 9, 2), (40, .istore 6, 2), (42, .iconst 0, 1), (43, .istore 7, 2), (45, .iload 7, 2), (47, .aload_n 0, 1), (48, .getfield 25, 3), (51, .iconst 3, 1), (52, .iaload, 1), (53, .if_icmp .ge 107, 3), (56, .iconst 0, 1), (57, .istore 8, 2), (59, .iload 8, 2), (61, .bipush 6, 2), (63, .if_icmp .ge 91, 3), (66, .aload_n 0, 1), (67, .iload_n 2, 1), (68, .iload 7, 2)]
set_option maxRecDepth 100000 in
theorem tk_X8_man_1 : (tb_X8_man_1.all fun q => decide (decode cX8_man q.1 = .ok q.2)) = true := by decide +kernel
theorem dX8_man_0 : decode cX8_man 0 = .ok (.aload_n 0, 1) := tb_d tk_X8_man_1 0 (0, .aload_n 0, 1) rfl
theorem dX8_man_1 : decode cX8_man 1 = .ok (.invokevirtual 180, 3) := tb_d tk_X8_man_1 1 (1, .invokevirtual 180, 3) rfl
theorem dX8_man_4 : decode cX8_man 4 = .ok (.ifCond .ne 6, 3) := tb_d tk_X8_man_1 2 (4, .ifCond .ne 6, 3) rfl
theorem dX8_man_7 : decode cX8_man 7 = .ok (.ldc 183, 2) := tb_d tk_X8_man_1 3 (7, .ldc 183, 2) rfl
theorem dX8_man_9 : decode cX8_man 9 = .ok (.ireturn, 1) := tb_d tk_X8_man_1 4 (9, .ireturn, 1) rfl
theorem dX8_man_10 : decode cX8_man 10 = .ok (.iload_n 1, 1) := tb_d tk_X8_man_1 5 (10, .iload_n 1, 1) rfl
theorem dX8_man_11 : decode cX8_man 11 = .ok (.iconst 0, 1) := tb_d tk_X8_man_1 6 (11, .iconst 0, 1) rfl
theorem dX8_man_12 : decode cX8_man 12 = .ok (.iconst 2, 1) := tb_d tk_X8_man_1 7 (12, .iconst 2, 1) rfl
theorem dX8_man_13 : decode cX8_man 13 = .ok (.invokestatic 56, 3) := tb_d tk_X8_man_1 8 (13, .invokestatic 56, 3) rfl
theorem dX8_man_16 : decode cX8_man 16 = .ok (.ifCond .ne 6, 3) := tb_d tk_X8_man_1 9 (16, .ifCond .ne 6, 3) rfl
theorem dX8_man_19 : decode cX8_man 19 = .ok (.ldc 64, 2) := tb_d tk_X8_man_1 10 (19, .ldc 64, 2) rfl
theorem dX8_man_21 : decode cX8_man 21 = .ok (.ireturn, 1) := tb_d tk_X8_man_1 11 (21, .ireturn, 1) rfl
theorem dX8_man_22 : decode cX8_man 22 = .ok (.aload_n 0, 1) := tb_d tk_X8_man_1 12 (22, .aload_n 0, 1) rfl
theorem dX8_man_23 : decode cX8_man 23 = .ok (.invokevirtual 214, 3) := tb_d tk_X8_man_1 13 (23, .invokevirtual 214, 3) rfl
theorem dX8_man_26 : decode cX8_man 26 = .ok (.istore_n 2, 1) := tb_d tk_X8_man_1 14 (26, .istore_n 2, 1) rfl
theorem dX8_man_27 : decode cX8_man 27 = .ok (.iload_n 2, 1) := tb_d tk_X8_man_1 15 (27, .iload_n 2, 1) rfl
theorem dX8_man_28 : decode cX8_man 28 = .ok (.invokestatic 217, 3) := tb_d tk_X8_man_1 16 (28, .invokestatic 217, 3) rfl
theorem dX8_man_31 : decode cX8_man 31 = .ok (.istore_n 3, 1) := tb_d tk_X8_man_1 17 (31, .istore_n 3, 1) rfl
theorem dX8_man_32 : decode cX8_man 32 = .ok (.iconst 0, 1) := tb_d tk_X8_man_1 18 (32, .iconst 0, 1) rfl
theorem dX8_man_33 : decode cX8_man 33 = .ok (.istore 4, 2) := tb_d tk_X8_man_1 19 (33, .istore 4, 2) rfl
theorem dX8_man_35 : decode cX8_man 35 = .ok (.iconst 0, 1) := tb_d tk_X8_man_1 20 (35, .iconst 0, 1) rfl
theorem dX8_man_36 : decode cX8_man 36 = .ok (.istore 5, 2) := tb_d tk_X8_man_1 21 (36, .istore 5, 2) rfl
theorem dX8_man_38 : decode cX8_man 38 = .ok (.bipush 9, 2) := tb_d tk_X8_man_1 22 (38, .bipush 9, 2) rfl
theorem dX8_man_40 : decode cX8_man 40 = .ok (.istore 6, 2) := tb_d tk_X8_man_1 23 (40, .istore 6, 2) rfl
theorem dX8_man_42 : decode cX8_man 42 = .ok (.iconst 0, 1) := tb_d tk_X8_man_1 24 (42, .iconst 0, 1) rfl
theorem dX8_man_43 : decode cX8_man 43 = .ok (.istore 7, 2) := tb_d tk_X8_man_1 25 (43, .istore 7, 2) rfl
theorem dX8_man_45 : decode cX8_man 45 = .ok (.iload 7, 2) := tb_d tk_X8_man_1 26 (45, .iload 7, 2) rfl
theorem dX8_man_47 : decode cX8_man 47 = .ok (.aload_n 0, 1) := tb_d tk_X8_man_1 27 (47, .aload_n 0, 1) rfl
theorem dX8_man_48 : decode cX8_man 48 = .ok (.getfield 25, 3) := tb_d tk_X8_man_1 28 (48, .getfield 25, 3) rfl
theorem dX8_man_51 : decode cX8_man 51 = .ok (.iconst 3, 1) := tb_d tk_X8_man_1 29 (51, .iconst 3, 1) rfl
theorem dX8_man_52 : decode cX8_man 52 = .ok (.iaload, 1) := tb_d tk_X8_man_1 30 (52, .iaload, 1) rfl
theorem dX8_man_53 : decode cX8_man 53 = .ok (.if_icmp .ge 107, 3) := tb_d tk_X8_man_1 31 (53, .if_icmp .ge 107, 3) rfl
theorem dX8_man_56 : decode cX8_man 56 = .ok (.iconst 0, 1) := tb_d tk_X8_man_1 32 (56, .iconst 0, 1) rfl
theorem dX8_man_57 : decode cX8_man 57 = .ok (.istore 8, 2) := tb_d tk_X8_man_1 33 (57, .istore 8, 2) rfl
theorem dX8_man_59 : decode cX8_man 59 = .ok (.iload 8, 2) := tb_d tk_X8_man_1 34 (59, .iload 8, 2) rfl
theorem dX8_man_61 : decode cX8_man 61 = .ok (.bipush 6, 2) := tb_d tk_X8_man_1 35 (61, .bipush 6, 2) rfl
theorem dX8_man_63 : decode cX8_man 63 = .ok (.if_icmp .ge 91, 3) := tb_d tk_X8_man_1 36 (63, .if_icmp .ge 91, 3) rfl
theorem dX8_man_66 : decode cX8_man 66 = .ok (.aload_n 0, 1) := tb_d tk_X8_man_1 37 (66, .aload_n 0, 1) rfl
theorem dX8_man_67 : decode cX8_man 67 = .ok (.iload_n 2, 1) := tb_d tk_X8_man_1 38 (67, .iload_n 2, 1) rfl
theorem dX8_man_68 : decode cX8_man 68 = .ok (.iload 7, 2) := tb_d tk_X8_man_1 39 (68, .iload 7, 2) rfl
def tb_X8_man_2 : List (Nat × Instr × Nat) := [(70, .iload 8, 2), (72, .invokevirtual 220, 3), (75, .invokestatic 217, 3), (78, .istore 9, 2), (80, .iload 9, 2), (82, .iload_n 3, 1), (83, .iload 9, 2), (85, .isub, 1), (86, .if_icmp .le 8, 3), (89, .iload 9, 2), (91, .goto 7, 3), (94, .iload_n 3, 1), (95, .iload 9, 2), (97, .isub, 1), (98, .istore 10, 2), (100, .iload 10, 2), (102, .iload 6, 2), (104, .if_icmp .ge 8, 3), (107, .iload 7, 2), (109, .goto 5, 3), (112, .iload 4, 2), (114, .istore 4, 2), (116, .iload 10, 2), (118, .iload 6, 2), (120, .if_icmp .ge 8, 3), (123, .iload 8, 2), (125, .goto 5, 3), (128, .iload 5, 2), (130, .istore 5, 2), (132, .iload 10, 2), (134, .iload 6, 2), (136, .if_icmp .ge 8, 3), (139, .iload 10, 2), (141, .goto 5, 3), (144, .iload 6, 2), (146, .istore 6, 2), (148, .iinc 8 1, 3), (151, .goto (-92), 3), (154, .iinc 7 1, 3), (157, .goto (-112), 3)]
set_option maxRecDepth 100000 in
theorem tk_X8_man_2 : (tb_X8_man_2.all fun q => decide (decode cX8_man q.1 = .ok q.2)) = true := by decide +kernel
theorem dX8_man_70 : decode cX8_man 70 = .ok (.iload 8, 2) := tb_d tk_X8_man_2 0 (70, .iload 8, 2) rfl
theorem dX8_man_72 : decode cX8_man 72 = .ok (.invokevirtual 220, 3) := tb_d tk_X8_man_2 1 (72, .invokevirtual 220, 3) rfl
theorem dX8_man_75 : decode cX8_man 75 = .ok (.invokestatic 217, 3) := tb_d tk_X8_man_2 2 (75, .invokestatic 217, 3) rfl
theorem dX8_man_78 : decode cX8_man 78 = .ok (.istore 9, 2) := tb_d tk_X8_man_2 3 (78, .istore 9, 2) rfl
theorem dX8_man_80 : decode cX8_man 80 = .ok (.iload 9, 2) := tb_d tk_X8_man_2 4 (80, .iload 9, 2) rfl
theorem dX8_man_82 : decode cX8_man 82 = .ok (.iload_n 3, 1) := tb_d tk_X8_man_2 5 (82, .iload_n 3, 1) rfl
theorem dX8_man_83 : decode cX8_man 83 = .ok (.iload 9, 2) := tb_d tk_X8_man_2 6 (83, .iload 9, 2) rfl
theorem dX8_man_85 : decode cX8_man 85 = .ok (.isub, 1) := tb_d tk_X8_man_2 7 (85, .isub, 1) rfl
theorem dX8_man_86 : decode cX8_man 86 = .ok (.if_icmp .le 8, 3) := tb_d tk_X8_man_2 8 (86, .if_icmp .le 8, 3) rfl
theorem dX8_man_89 : decode cX8_man 89 = .ok (.iload 9, 2) := tb_d tk_X8_man_2 9 (89, .iload 9, 2) rfl
theorem dX8_man_91 : decode cX8_man 91 = .ok (.goto 7, 3) := tb_d tk_X8_man_2 10 (91, .goto 7, 3) rfl
theorem dX8_man_94 : decode cX8_man 94 = .ok (.iload_n 3, 1) := tb_d tk_X8_man_2 11 (94, .iload_n 3, 1) rfl
theorem dX8_man_95 : decode cX8_man 95 = .ok (.iload 9, 2) := tb_d tk_X8_man_2 12 (95, .iload 9, 2) rfl
theorem dX8_man_97 : decode cX8_man 97 = .ok (.isub, 1) := tb_d tk_X8_man_2 13 (97, .isub, 1) rfl
theorem dX8_man_98 : decode cX8_man 98 = .ok (.istore 10, 2) := tb_d tk_X8_man_2 14 (98, .istore 10, 2) rfl
theorem dX8_man_100 : decode cX8_man 100 = .ok (.iload 10, 2) := tb_d tk_X8_man_2 15 (100, .iload 10, 2) rfl
theorem dX8_man_102 : decode cX8_man 102 = .ok (.iload 6, 2) := tb_d tk_X8_man_2 16 (102, .iload 6, 2) rfl
theorem dX8_man_104 : decode cX8_man 104 = .ok (.if_icmp .ge 8, 3) := tb_d tk_X8_man_2 17 (104, .if_icmp .ge 8, 3) rfl
theorem dX8_man_107 : decode cX8_man 107 = .ok (.iload 7, 2) := tb_d tk_X8_man_2 18 (107, .iload 7, 2) rfl
theorem dX8_man_109 : decode cX8_man 109 = .ok (.goto 5, 3) := tb_d tk_X8_man_2 19 (109, .goto 5, 3) rfl
theorem dX8_man_112 : decode cX8_man 112 = .ok (.iload 4, 2) := tb_d tk_X8_man_2 20 (112, .iload 4, 2) rfl
theorem dX8_man_114 : decode cX8_man 114 = .ok (.istore 4, 2) := tb_d tk_X8_man_2 21 (114, .istore 4, 2) rfl
theorem dX8_man_116 : decode cX8_man 116 = .ok (.iload 10, 2) := tb_d tk_X8_man_2 22 (116, .iload 10, 2) rfl
theorem dX8_man_118 : decode cX8_man 118 = .ok (.iload 6, 2) := tb_d tk_X8_man_2 23 (118, .iload 6, 2) rfl
theorem dX8_man_120 : decode cX8_man 120 = .ok (.if_icmp .ge 8, 3) := tb_d tk_X8_man_2 24 (120, .if_icmp .ge 8, 3) rfl
theorem dX8_man_123 : decode cX8_man 123 = .ok (.iload 8, 2) := tb_d tk_X8_man_2 25 (123, .iload 8, 2) rfl
theorem dX8_man_125 : decode cX8_man 125 = .ok (.goto 5, 3) := tb_d tk_X8_man_2 26 (125, .goto 5, 3) rfl
theorem dX8_man_128 : decode cX8_man 128 = .ok (.iload 5, 2) := tb_d tk_X8_man_2 27 (128, .iload 5, 2) rfl
theorem dX8_man_130 : decode cX8_man 130 = .ok (.istore 5, 2) := tb_d tk_X8_man_2 28 (130, .istore 5, 2) rfl
theorem dX8_man_132 : decode cX8_man 132 = .ok (.iload 10, 2) := tb_d tk_X8_man_2 29 (132, .iload 10, 2) rfl
theorem dX8_man_134 : decode cX8_man 134 = .ok (.iload 6, 2) := tb_d tk_X8_man_2 30 (134, .iload 6, 2) rfl
theorem dX8_man_136 : decode cX8_man 136 = .ok (.if_icmp .ge 8, 3) := tb_d tk_X8_man_2 31 (136, .if_icmp .ge 8, 3) rfl
theorem dX8_man_139 : decode cX8_man 139 = .ok (.iload 10, 2) := tb_d tk_X8_man_2 32 (139, .iload 10, 2) rfl
theorem dX8_man_141 : decode cX8_man 141 = .ok (.goto 5, 3) := tb_d tk_X8_man_2 33 (141, .goto 5, 3) rfl
theorem dX8_man_144 : decode cX8_man 144 = .ok (.iload 6, 2) := tb_d tk_X8_man_2 34 (144, .iload 6, 2) rfl
theorem dX8_man_146 : decode cX8_man 146 = .ok (.istore 6, 2) := tb_d tk_X8_man_2 35 (146, .istore 6, 2) rfl
theorem dX8_man_148 : decode cX8_man 148 = .ok (.iinc 8 1, 3) := tb_d tk_X8_man_2 36 (148, .iinc 8 1, 3) rfl
theorem dX8_man_151 : decode cX8_man 151 = .ok (.goto (-92), 3) := tb_d tk_X8_man_2 37 (151, .goto (-92), 3) rfl
theorem dX8_man_154 : decode cX8_man 154 = .ok (.iinc 7 1, 3) := tb_d tk_X8_man_2 38 (154, .iinc 7 1, 3) rfl
theorem dX8_man_157 : decode cX8_man 157 = .ok (.goto (-112), 3) := tb_d tk_X8_man_2 39 (157, .goto (-112), 3) rfl
def tb_X8_man_3 : List (Nat × Instr × Nat) := [(160, .iload_n 1, 1), (161, .ifCond .ne 8, 3), (164, .iload 4, 2), (166, .goto 15, 3), (169, .iload_n 1, 1), (170, .iconst 1, 1), (171, .if_icmp .ne 8, 3), (174, .iload 5, 2), (176, .goto 5, 3), (179, .iload 6, 2), (181, .ireturn, 1)]
set_option maxRecDepth 100000 in
theorem tk_X8_man_3 : (tb_X8_man_3.all fun q => decide (decode cX8_man q.1 = .ok q.2)) = true := by decide +kernel
theorem dX8_man_160 : decode cX8_man 160 = .ok (.iload_n 1, 1) := tb_d tk_X8_man_3 0 (160, .iload_n 1, 1) rfl
theorem dX8_man_161 : decode cX8_man 161 = .ok (.ifCond .ne 8, 3) := tb_d tk_X8_man_3 1 (161, .ifCond .ne 8, 3) rfl
theorem dX8_man_164 : decode cX8_man 164 = .ok (.iload 4, 2) := tb_d tk_X8_man_3 2 (164, .iload 4, 2) rfl
theorem dX8_man_166 : decode cX8_man 166 = .ok (.goto 15, 3) := tb_d tk_X8_man_3 3 (166, .goto 15, 3) rfl
theorem dX8_man_169 : decode cX8_man 169 = .ok (.iload_n 1, 1) := tb_d tk_X8_man_3 4 (169, .iload_n 1, 1) rfl
theorem dX8_man_170 : decode cX8_man 170 = .ok (.iconst 1, 1) := tb_d tk_X8_man_3 5 (170, .iconst 1, 1) rfl
theorem dX8_man_171 : decode cX8_man 171 = .ok (.if_icmp .ne 8, 3) := tb_d tk_X8_man_3 6 (171, .if_icmp .ne 8, 3) rfl
theorem dX8_man_174 : decode cX8_man 174 = .ok (.iload 5, 2) := tb_d tk_X8_man_3 7 (174, .iload 5, 2) rfl
theorem dX8_man_176 : decode cX8_man 176 = .ok (.goto 5, 3) := tb_d tk_X8_man_3 8 (176, .goto 5, 3) rfl
theorem dX8_man_179 : decode cX8_man 179 = .ok (.iload 6, 2) := tb_d tk_X8_man_3 9 (179, .iload 6, 2) rfl
theorem dX8_man_181 : decode cX8_man 181 = .ok (.ireturn, 1) := tb_d tk_X8_man_3 10 (181, .ireturn, 1) rfl
theorem ggX8_menFor_X8_ones : GoodIn wsX8_menFor wsX8_ones := fun w h => ⟨List.mem_cons_of_mem _ (List.mem_append_right _ (List.mem_append_right _ (List.mem_append_right _ (List.mem_append_right _ (List.mem_append_left _ h))))), good_of_word (gdX8_ones w h)⟩
set_option maxRecDepth 20000 in
theorem gX8_menFor_X8_ones : GoodIn wsX8_menFor (va_wsS RX8 217 yX8_ones wsX8_ones) := goodIn_app (a := bkS RX8 217 yX8_ones) (fun w h => ⟨List.mem_cons_of_mem _ (List.mem_append_right _ (List.mem_append_left _ h)), good_of_word (gd_bS _ _ _ w h)⟩) ggX8_menFor_X8_ones
theorem ggX8_menFor_X8_takenOf : GoodIn wsX8_menFor wsX8_takenOf := fun w h => ⟨List.mem_cons_of_mem _ (List.mem_append_right _ (List.mem_append_right _ (List.mem_append_right _ (List.mem_append_right _ (List.mem_append_right _ (List.mem_append_left _ h)))))), good_of_word (gdX8_takenOf w h)⟩
set_option maxRecDepth 20000 in
theorem gX8_menFor_X8_takenOf : GoodIn wsX8_menFor (wsV RX8 220 RX8 yX8_takenOf wsX8_takenOf) := goodIn_app (a := bkV RX8 220 RX8 yX8_takenOf) (fun w h => ⟨List.mem_cons_of_mem _ (List.mem_append_right _ (List.mem_append_right _ (List.mem_append_left _ h))), good_of_word (gd_bV _ _ _ _ w h)⟩) ggX8_menFor_X8_takenOf
def tb_X8_menFor_1 : List (Nat × Instr × Nat) := [(0, .iload_n 1, 1), (1, .invokestatic 217, 3), (4, .iconst 2, 1), (5, .if_icmp .ge 5, 3), (8, .iconst 0, 1), (9, .ireturn, 1), (10, .ldc 50, 2), (12, .istore_n 2, 1), (13, .iconst 0, 1), (14, .istore_n 3, 1), (15, .iload_n 3, 1), (16, .aload_n 0, 1), (17, .getfield 25, 3), (20, .iconst 3, 1), (21, .iaload, 1), (22, .if_icmp .ge 134, 3), (25, .iconst 0, 1), (26, .istore 4, 2), (28, .iload 4, 2), (30, .bipush 6, 2), (32, .if_icmp .ge 118, 3), (35, .aload_n 0, 1), (36, .iload_n 1, 1), (37, .iload_n 3, 1), (38, .iload 4, 2), (40, .invokevirtual 220, 3), (43, .istore 5, 2), (45, .iload_n 1, 1), (46, .iload 5, 2), (48, .iconst (-1), 1), (49, .ixor, 1), (50, .iand, 1), (51, .istore 6, 2), (53, .iload 5, 2), (55, .ifCond .eq 89, 3), (58, .iload 6, 2), (60, .ifCond .eq 84, 3), (63, .aload_n 0, 1), (64, .getfield 44, 3), (67, .iload 5, 2)]
set_option maxRecDepth 100000 in
theorem tk_X8_menFor_1 : (tb_X8_menFor_1.all fun q => decide (decode cX8_menFor q.1 = .ok q.2)) = true := by decide +kernel
theorem dX8_menFor_0 : decode cX8_menFor 0 = .ok (.iload_n 1, 1) := tb_d tk_X8_menFor_1 0 (0, .iload_n 1, 1) rfl
theorem dX8_menFor_1 : decode cX8_menFor 1 = .ok (.invokestatic 217, 3) := tb_d tk_X8_menFor_1 1 (1, .invokestatic 217, 3) rfl
theorem dX8_menFor_4 : decode cX8_menFor 4 = .ok (.iconst 2, 1) := tb_d tk_X8_menFor_1 2 (4, .iconst 2, 1) rfl
theorem dX8_menFor_5 : decode cX8_menFor 5 = .ok (.if_icmp .ge 5, 3) := tb_d tk_X8_menFor_1 3 (5, .if_icmp .ge 5, 3) rfl
theorem dX8_menFor_8 : decode cX8_menFor 8 = .ok (.iconst 0, 1) := tb_d tk_X8_menFor_1 4 (8, .iconst 0, 1) rfl
theorem dX8_menFor_9 : decode cX8_menFor 9 = .ok (.ireturn, 1) := tb_d tk_X8_menFor_1 5 (9, .ireturn, 1) rfl
theorem dX8_menFor_10 : decode cX8_menFor 10 = .ok (.ldc 50, 2) := tb_d tk_X8_menFor_1 6 (10, .ldc 50, 2) rfl
theorem dX8_menFor_12 : decode cX8_menFor 12 = .ok (.istore_n 2, 1) := tb_d tk_X8_menFor_1 7 (12, .istore_n 2, 1) rfl
theorem dX8_menFor_13 : decode cX8_menFor 13 = .ok (.iconst 0, 1) := tb_d tk_X8_menFor_1 8 (13, .iconst 0, 1) rfl
theorem dX8_menFor_14 : decode cX8_menFor 14 = .ok (.istore_n 3, 1) := tb_d tk_X8_menFor_1 9 (14, .istore_n 3, 1) rfl
theorem dX8_menFor_15 : decode cX8_menFor 15 = .ok (.iload_n 3, 1) := tb_d tk_X8_menFor_1 10 (15, .iload_n 3, 1) rfl
theorem dX8_menFor_16 : decode cX8_menFor 16 = .ok (.aload_n 0, 1) := tb_d tk_X8_menFor_1 11 (16, .aload_n 0, 1) rfl
theorem dX8_menFor_17 : decode cX8_menFor 17 = .ok (.getfield 25, 3) := tb_d tk_X8_menFor_1 12 (17, .getfield 25, 3) rfl
theorem dX8_menFor_20 : decode cX8_menFor 20 = .ok (.iconst 3, 1) := tb_d tk_X8_menFor_1 13 (20, .iconst 3, 1) rfl
theorem dX8_menFor_21 : decode cX8_menFor 21 = .ok (.iaload, 1) := tb_d tk_X8_menFor_1 14 (21, .iaload, 1) rfl
theorem dX8_menFor_22 : decode cX8_menFor 22 = .ok (.if_icmp .ge 134, 3) := tb_d tk_X8_menFor_1 15 (22, .if_icmp .ge 134, 3) rfl
theorem dX8_menFor_25 : decode cX8_menFor 25 = .ok (.iconst 0, 1) := tb_d tk_X8_menFor_1 16 (25, .iconst 0, 1) rfl
theorem dX8_menFor_26 : decode cX8_menFor 26 = .ok (.istore 4, 2) := tb_d tk_X8_menFor_1 17 (26, .istore 4, 2) rfl
theorem dX8_menFor_28 : decode cX8_menFor 28 = .ok (.iload 4, 2) := tb_d tk_X8_menFor_1 18 (28, .iload 4, 2) rfl
theorem dX8_menFor_30 : decode cX8_menFor 30 = .ok (.bipush 6, 2) := tb_d tk_X8_menFor_1 19 (30, .bipush 6, 2) rfl
theorem dX8_menFor_32 : decode cX8_menFor 32 = .ok (.if_icmp .ge 118, 3) := tb_d tk_X8_menFor_1 20 (32, .if_icmp .ge 118, 3) rfl
theorem dX8_menFor_35 : decode cX8_menFor 35 = .ok (.aload_n 0, 1) := tb_d tk_X8_menFor_1 21 (35, .aload_n 0, 1) rfl
theorem dX8_menFor_36 : decode cX8_menFor 36 = .ok (.iload_n 1, 1) := tb_d tk_X8_menFor_1 22 (36, .iload_n 1, 1) rfl
theorem dX8_menFor_37 : decode cX8_menFor 37 = .ok (.iload_n 3, 1) := tb_d tk_X8_menFor_1 23 (37, .iload_n 3, 1) rfl
theorem dX8_menFor_38 : decode cX8_menFor 38 = .ok (.iload 4, 2) := tb_d tk_X8_menFor_1 24 (38, .iload 4, 2) rfl
theorem dX8_menFor_40 : decode cX8_menFor 40 = .ok (.invokevirtual 220, 3) := tb_d tk_X8_menFor_1 25 (40, .invokevirtual 220, 3) rfl
theorem dX8_menFor_43 : decode cX8_menFor 43 = .ok (.istore 5, 2) := tb_d tk_X8_menFor_1 26 (43, .istore 5, 2) rfl
theorem dX8_menFor_45 : decode cX8_menFor 45 = .ok (.iload_n 1, 1) := tb_d tk_X8_menFor_1 27 (45, .iload_n 1, 1) rfl
theorem dX8_menFor_46 : decode cX8_menFor 46 = .ok (.iload 5, 2) := tb_d tk_X8_menFor_1 28 (46, .iload 5, 2) rfl
theorem dX8_menFor_48 : decode cX8_menFor 48 = .ok (.iconst (-1), 1) := tb_d tk_X8_menFor_1 29 (48, .iconst (-1), 1) rfl
theorem dX8_menFor_49 : decode cX8_menFor 49 = .ok (.ixor, 1) := tb_d tk_X8_menFor_1 30 (49, .ixor, 1) rfl
theorem dX8_menFor_50 : decode cX8_menFor 50 = .ok (.iand, 1) := tb_d tk_X8_menFor_1 31 (50, .iand, 1) rfl
theorem dX8_menFor_51 : decode cX8_menFor 51 = .ok (.istore 6, 2) := tb_d tk_X8_menFor_1 32 (51, .istore 6, 2) rfl
theorem dX8_menFor_53 : decode cX8_menFor 53 = .ok (.iload 5, 2) := tb_d tk_X8_menFor_1 33 (53, .iload 5, 2) rfl
theorem dX8_menFor_55 : decode cX8_menFor 55 = .ok (.ifCond .eq 89, 3) := tb_d tk_X8_menFor_1 34 (55, .ifCond .eq 89, 3) rfl
theorem dX8_menFor_58 : decode cX8_menFor 58 = .ok (.iload 6, 2) := tb_d tk_X8_menFor_1 35 (58, .iload 6, 2) rfl
theorem dX8_menFor_60 : decode cX8_menFor 60 = .ok (.ifCond .eq 84, 3) := tb_d tk_X8_menFor_1 36 (60, .ifCond .eq 84, 3) rfl
theorem dX8_menFor_63 : decode cX8_menFor 63 = .ok (.aload_n 0, 1) := tb_d tk_X8_menFor_1 37 (63, .aload_n 0, 1) rfl
theorem dX8_menFor_64 : decode cX8_menFor 64 = .ok (.getfield 44, 3) := tb_d tk_X8_menFor_1 38 (64, .getfield 44, 3) rfl
theorem dX8_menFor_67 : decode cX8_menFor 67 = .ok (.iload 5, 2) := tb_d tk_X8_menFor_1 39 (67, .iload 5, 2) rfl
def tb_X8_menFor_2 : List (Nat × Instr × Nat) := [(69, .iaload, 1), (70, .ldc 50, 2), (72, .if_icmp .eq 72, 3), (75, .aload_n 0, 1), (76, .getfield 44, 3), (79, .iload 6, 2), (81, .iaload, 1), (82, .ldc 50, 2), (84, .if_icmp .eq 60, 3), (87, .iconst 1, 1), (88, .aload_n 0, 1), (89, .getfield 44, 3), (92, .iload 5, 2), (94, .iaload, 1), (95, .aload_n 0, 1), (96, .getfield 44, 3), (99, .iload 6, 2), (101, .iaload, 1), (102, .if_icmp .le 13, 3), (105, .aload_n 0, 1), (106, .getfield 44, 3), (109, .iload 5, 2), (111, .iaload, 1), (112, .goto 10, 3), (115, .aload_n 0, 1), (116, .getfield 44, 3), (119, .iload 6, 2), (121, .iaload, 1), (122, .iadd, 1), (123, .istore 7, 2), (125, .iload_n 2, 1), (126, .ldc 50, 2), (128, .if_icmp .eq 9, 3), (131, .iload 7, 2), (133, .iload_n 2, 1), (134, .if_icmp .ge 8, 3), (137, .iload 7, 2), (139, .goto 4, 3), (142, .iload_n 2, 1), (143, .istore_n 2, 1)]
set_option maxRecDepth 100000 in
theorem tk_X8_menFor_2 : (tb_X8_menFor_2.all fun q => decide (decode cX8_menFor q.1 = .ok q.2)) = true := by decide +kernel
theorem dX8_menFor_69 : decode cX8_menFor 69 = .ok (.iaload, 1) := tb_d tk_X8_menFor_2 0 (69, .iaload, 1) rfl
theorem dX8_menFor_70 : decode cX8_menFor 70 = .ok (.ldc 50, 2) := tb_d tk_X8_menFor_2 1 (70, .ldc 50, 2) rfl
theorem dX8_menFor_72 : decode cX8_menFor 72 = .ok (.if_icmp .eq 72, 3) := tb_d tk_X8_menFor_2 2 (72, .if_icmp .eq 72, 3) rfl
theorem dX8_menFor_75 : decode cX8_menFor 75 = .ok (.aload_n 0, 1) := tb_d tk_X8_menFor_2 3 (75, .aload_n 0, 1) rfl
theorem dX8_menFor_76 : decode cX8_menFor 76 = .ok (.getfield 44, 3) := tb_d tk_X8_menFor_2 4 (76, .getfield 44, 3) rfl
theorem dX8_menFor_79 : decode cX8_menFor 79 = .ok (.iload 6, 2) := tb_d tk_X8_menFor_2 5 (79, .iload 6, 2) rfl
theorem dX8_menFor_81 : decode cX8_menFor 81 = .ok (.iaload, 1) := tb_d tk_X8_menFor_2 6 (81, .iaload, 1) rfl
theorem dX8_menFor_82 : decode cX8_menFor 82 = .ok (.ldc 50, 2) := tb_d tk_X8_menFor_2 7 (82, .ldc 50, 2) rfl
theorem dX8_menFor_84 : decode cX8_menFor 84 = .ok (.if_icmp .eq 60, 3) := tb_d tk_X8_menFor_2 8 (84, .if_icmp .eq 60, 3) rfl
theorem dX8_menFor_87 : decode cX8_menFor 87 = .ok (.iconst 1, 1) := tb_d tk_X8_menFor_2 9 (87, .iconst 1, 1) rfl
theorem dX8_menFor_88 : decode cX8_menFor 88 = .ok (.aload_n 0, 1) := tb_d tk_X8_menFor_2 10 (88, .aload_n 0, 1) rfl
theorem dX8_menFor_89 : decode cX8_menFor 89 = .ok (.getfield 44, 3) := tb_d tk_X8_menFor_2 11 (89, .getfield 44, 3) rfl
theorem dX8_menFor_92 : decode cX8_menFor 92 = .ok (.iload 5, 2) := tb_d tk_X8_menFor_2 12 (92, .iload 5, 2) rfl
theorem dX8_menFor_94 : decode cX8_menFor 94 = .ok (.iaload, 1) := tb_d tk_X8_menFor_2 13 (94, .iaload, 1) rfl
theorem dX8_menFor_95 : decode cX8_menFor 95 = .ok (.aload_n 0, 1) := tb_d tk_X8_menFor_2 14 (95, .aload_n 0, 1) rfl
theorem dX8_menFor_96 : decode cX8_menFor 96 = .ok (.getfield 44, 3) := tb_d tk_X8_menFor_2 15 (96, .getfield 44, 3) rfl
theorem dX8_menFor_99 : decode cX8_menFor 99 = .ok (.iload 6, 2) := tb_d tk_X8_menFor_2 16 (99, .iload 6, 2) rfl
theorem dX8_menFor_101 : decode cX8_menFor 101 = .ok (.iaload, 1) := tb_d tk_X8_menFor_2 17 (101, .iaload, 1) rfl
theorem dX8_menFor_102 : decode cX8_menFor 102 = .ok (.if_icmp .le 13, 3) := tb_d tk_X8_menFor_2 18 (102, .if_icmp .le 13, 3) rfl
theorem dX8_menFor_105 : decode cX8_menFor 105 = .ok (.aload_n 0, 1) := tb_d tk_X8_menFor_2 19 (105, .aload_n 0, 1) rfl
theorem dX8_menFor_106 : decode cX8_menFor 106 = .ok (.getfield 44, 3) := tb_d tk_X8_menFor_2 20 (106, .getfield 44, 3) rfl
theorem dX8_menFor_109 : decode cX8_menFor 109 = .ok (.iload 5, 2) := tb_d tk_X8_menFor_2 21 (109, .iload 5, 2) rfl
theorem dX8_menFor_111 : decode cX8_menFor 111 = .ok (.iaload, 1) := tb_d tk_X8_menFor_2 22 (111, .iaload, 1) rfl
theorem dX8_menFor_112 : decode cX8_menFor 112 = .ok (.goto 10, 3) := tb_d tk_X8_menFor_2 23 (112, .goto 10, 3) rfl
theorem dX8_menFor_115 : decode cX8_menFor 115 = .ok (.aload_n 0, 1) := tb_d tk_X8_menFor_2 24 (115, .aload_n 0, 1) rfl
theorem dX8_menFor_116 : decode cX8_menFor 116 = .ok (.getfield 44, 3) := tb_d tk_X8_menFor_2 25 (116, .getfield 44, 3) rfl
theorem dX8_menFor_119 : decode cX8_menFor 119 = .ok (.iload 6, 2) := tb_d tk_X8_menFor_2 26 (119, .iload 6, 2) rfl
theorem dX8_menFor_121 : decode cX8_menFor 121 = .ok (.iaload, 1) := tb_d tk_X8_menFor_2 27 (121, .iaload, 1) rfl
theorem dX8_menFor_122 : decode cX8_menFor 122 = .ok (.iadd, 1) := tb_d tk_X8_menFor_2 28 (122, .iadd, 1) rfl
theorem dX8_menFor_123 : decode cX8_menFor 123 = .ok (.istore 7, 2) := tb_d tk_X8_menFor_2 29 (123, .istore 7, 2) rfl
theorem dX8_menFor_125 : decode cX8_menFor 125 = .ok (.iload_n 2, 1) := tb_d tk_X8_menFor_2 30 (125, .iload_n 2, 1) rfl
theorem dX8_menFor_126 : decode cX8_menFor 126 = .ok (.ldc 50, 2) := tb_d tk_X8_menFor_2 31 (126, .ldc 50, 2) rfl
theorem dX8_menFor_128 : decode cX8_menFor 128 = .ok (.if_icmp .eq 9, 3) := tb_d tk_X8_menFor_2 32 (128, .if_icmp .eq 9, 3) rfl
theorem dX8_menFor_131 : decode cX8_menFor 131 = .ok (.iload 7, 2) := tb_d tk_X8_menFor_2 33 (131, .iload 7, 2) rfl
theorem dX8_menFor_133 : decode cX8_menFor 133 = .ok (.iload_n 2, 1) := tb_d tk_X8_menFor_2 34 (133, .iload_n 2, 1) rfl
theorem dX8_menFor_134 : decode cX8_menFor 134 = .ok (.if_icmp .ge 8, 3) := tb_d tk_X8_menFor_2 35 (134, .if_icmp .ge 8, 3) rfl
theorem dX8_menFor_137 : decode cX8_menFor 137 = .ok (.iload 7, 2) := tb_d tk_X8_menFor_2 36 (137, .iload 7, 2) rfl
theorem dX8_menFor_139 : decode cX8_menFor 139 = .ok (.goto 4, 3) := tb_d tk_X8_menFor_2 37 (139, .goto 4, 3) rfl
theorem dX8_menFor_142 : decode cX8_menFor 142 = .ok (.iload_n 2, 1) := tb_d tk_X8_menFor_2 38 (142, .iload_n 2, 1) rfl
theorem dX8_menFor_143 : decode cX8_menFor 143 = .ok (.istore_n 2, 1) := tb_d tk_X8_menFor_2 39 (143, .istore_n 2, 1) rfl
def tb_X8_menFor_3 : List (Nat × Instr × Nat) := [(144, .iinc 4 1, 3), (147, .goto (-119), 3), (150, .iinc 3 1, 3), (153, .goto (-138), 3), (156, .iload_n 2, 1), (157, .ireturn, 1)]
set_option maxRecDepth 100000 in
theorem tk_X8_menFor_3 : (tb_X8_menFor_3.all fun q => decide (decode cX8_menFor q.1 = .ok q.2)) = true := by decide +kernel
theorem dX8_menFor_144 : decode cX8_menFor 144 = .ok (.iinc 4 1, 3) := tb_d tk_X8_menFor_3 0 (144, .iinc 4 1, 3) rfl
theorem dX8_menFor_147 : decode cX8_menFor 147 = .ok (.goto (-119), 3) := tb_d tk_X8_menFor_3 1 (147, .goto (-119), 3) rfl
theorem dX8_menFor_150 : decode cX8_menFor 150 = .ok (.iinc 3 1, 3) := tb_d tk_X8_menFor_3 2 (150, .iinc 3 1, 3) rfl
theorem dX8_menFor_153 : decode cX8_menFor 153 = .ok (.goto (-138), 3) := tb_d tk_X8_menFor_3 3 (153, .goto (-138), 3) rfl
theorem dX8_menFor_156 : decode cX8_menFor 156 = .ok (.iload_n 2, 1) := tb_d tk_X8_menFor_3 4 (156, .iload_n 2, 1) rfl
theorem dX8_menFor_157 : decode cX8_menFor 157 = .ok (.ireturn, 1) := tb_d tk_X8_menFor_3 5 (157, .ireturn, 1) rfl
theorem ggX8_fewest_X8_isGate : GoodIn wsX8_fewest wsX8_isGate := fun w h => ⟨List.mem_cons_of_mem _ (List.mem_append_right _ (List.mem_append_right _ (List.mem_append_right _ (List.mem_append_right _ (List.mem_append_right _ (List.mem_append_left _ h)))))), good_of_word (gdX8_isGate w h)⟩
set_option maxRecDepth 20000 in
theorem gX8_fewest_X8_isGate : GoodIn wsX8_fewest (wsV RX8 180 RX8 yX8_isGate wsX8_isGate) := goodIn_app (a := bkV RX8 180 RX8 yX8_isGate) (fun w h => ⟨List.mem_cons_of_mem _ (List.mem_append_right _ (List.mem_append_left _ h)), good_of_word (gd_bV _ _ _ _ w h)⟩) ggX8_fewest_X8_isGate
theorem ggX8_fewest_X8_agreeing : GoodIn wsX8_fewest wsX8_agreeing := fun w h => ⟨List.mem_cons_of_mem _ (List.mem_append_right _ (List.mem_append_right _ (List.mem_append_right _ (List.mem_append_right _ (List.mem_append_right _ (List.mem_append_right _ (List.mem_append_left _ h))))))), good_of_word (gdX8_agreeing w h)⟩
set_option maxRecDepth 20000 in
theorem gX8_fewest_X8_agreeing : GoodIn wsX8_fewest (wsV RX8 214 RX8 yX8_agreeing wsX8_agreeing) := goodIn_app (a := bkV RX8 214 RX8 yX8_agreeing) (fun w h => ⟨List.mem_cons_of_mem _ (List.mem_append_right _ (List.mem_append_right _ (List.mem_append_left _ h))), good_of_word (gd_bV _ _ _ _ w h)⟩) ggX8_fewest_X8_agreeing
theorem ggX8_fewest_X8_menFor : GoodIn wsX8_fewest wsX8_menFor := fun w h => ⟨List.mem_cons_of_mem _ (List.mem_append_right _ (List.mem_append_right _ (List.mem_append_right _ (List.mem_append_right _ (List.mem_append_right _ (List.mem_append_right _ (List.mem_append_right _ (List.mem_append_left _ h)))))))), good_of_word (gdX8_menFor w h)⟩
set_option maxRecDepth 20000 in
theorem gX8_fewest_X8_menFor : GoodIn wsX8_fewest (wsV RX8 224 RX8 yX8_menFor wsX8_menFor) := goodIn_app (a := bkV RX8 224 RX8 yX8_menFor) (fun w h => ⟨List.mem_cons_of_mem _ (List.mem_append_right _ (List.mem_append_right _ (List.mem_append_right _ (List.mem_append_left _ h)))), good_of_word (gd_bV _ _ _ _ w h)⟩) ggX8_fewest_X8_menFor
def tb_X8_fewest_1 : List (Nat × Instr × Nat) := [(0, .aload_n 0, 1), (1, .invokevirtual 180, 3), (4, .ifCond .ne 6, 3), (7, .ldc 183, 2), (9, .ireturn, 1), (10, .aload_n 0, 1), (11, .invokevirtual 214, 3), (14, .istore_n 1, 1), (15, .iconst 0, 1), (16, .istore_n 2, 1), (17, .iload_n 2, 1), (18, .iload_n 1, 1), (19, .if_icmp .gt 20, 3), (22, .aload_n 0, 1), (23, .getfield 44, 3), (26, .iload_n 2, 1), (27, .aload_n 0, 1), (28, .iload_n 2, 1), (29, .invokevirtual 224, 3), (32, .iastore, 1), (33, .iinc 2 1, 3), (36, .goto (-19), 3), (39, .aload_n 0, 1), (40, .getfield 44, 3), (43, .iload_n 1, 1), (44, .iaload, 1), (45, .ireturn, 1)]
set_option maxRecDepth 100000 in
theorem tk_X8_fewest_1 : (tb_X8_fewest_1.all fun q => decide (decode cX8_fewest q.1 = .ok q.2)) = true := by decide +kernel
theorem dX8_fewest_0 : decode cX8_fewest 0 = .ok (.aload_n 0, 1) := tb_d tk_X8_fewest_1 0 (0, .aload_n 0, 1) rfl
theorem dX8_fewest_1 : decode cX8_fewest 1 = .ok (.invokevirtual 180, 3) := tb_d tk_X8_fewest_1 1 (1, .invokevirtual 180, 3) rfl
theorem dX8_fewest_4 : decode cX8_fewest 4 = .ok (.ifCond .ne 6, 3) := tb_d tk_X8_fewest_1 2 (4, .ifCond .ne 6, 3) rfl
theorem dX8_fewest_7 : decode cX8_fewest 7 = .ok (.ldc 183, 2) := tb_d tk_X8_fewest_1 3 (7, .ldc 183, 2) rfl
theorem dX8_fewest_9 : decode cX8_fewest 9 = .ok (.ireturn, 1) := tb_d tk_X8_fewest_1 4 (9, .ireturn, 1) rfl
theorem dX8_fewest_10 : decode cX8_fewest 10 = .ok (.aload_n 0, 1) := tb_d tk_X8_fewest_1 5 (10, .aload_n 0, 1) rfl
theorem dX8_fewest_11 : decode cX8_fewest 11 = .ok (.invokevirtual 214, 3) := tb_d tk_X8_fewest_1 6 (11, .invokevirtual 214, 3) rfl
theorem dX8_fewest_14 : decode cX8_fewest 14 = .ok (.istore_n 1, 1) := tb_d tk_X8_fewest_1 7 (14, .istore_n 1, 1) rfl
theorem dX8_fewest_15 : decode cX8_fewest 15 = .ok (.iconst 0, 1) := tb_d tk_X8_fewest_1 8 (15, .iconst 0, 1) rfl
theorem dX8_fewest_16 : decode cX8_fewest 16 = .ok (.istore_n 2, 1) := tb_d tk_X8_fewest_1 9 (16, .istore_n 2, 1) rfl
theorem dX8_fewest_17 : decode cX8_fewest 17 = .ok (.iload_n 2, 1) := tb_d tk_X8_fewest_1 10 (17, .iload_n 2, 1) rfl
theorem dX8_fewest_18 : decode cX8_fewest 18 = .ok (.iload_n 1, 1) := tb_d tk_X8_fewest_1 11 (18, .iload_n 1, 1) rfl
theorem dX8_fewest_19 : decode cX8_fewest 19 = .ok (.if_icmp .gt 20, 3) := tb_d tk_X8_fewest_1 12 (19, .if_icmp .gt 20, 3) rfl
theorem dX8_fewest_22 : decode cX8_fewest 22 = .ok (.aload_n 0, 1) := tb_d tk_X8_fewest_1 13 (22, .aload_n 0, 1) rfl
theorem dX8_fewest_23 : decode cX8_fewest 23 = .ok (.getfield 44, 3) := tb_d tk_X8_fewest_1 14 (23, .getfield 44, 3) rfl
theorem dX8_fewest_26 : decode cX8_fewest 26 = .ok (.iload_n 2, 1) := tb_d tk_X8_fewest_1 15 (26, .iload_n 2, 1) rfl
theorem dX8_fewest_27 : decode cX8_fewest 27 = .ok (.aload_n 0, 1) := tb_d tk_X8_fewest_1 16 (27, .aload_n 0, 1) rfl
theorem dX8_fewest_28 : decode cX8_fewest 28 = .ok (.iload_n 2, 1) := tb_d tk_X8_fewest_1 17 (28, .iload_n 2, 1) rfl
theorem dX8_fewest_29 : decode cX8_fewest 29 = .ok (.invokevirtual 224, 3) := tb_d tk_X8_fewest_1 18 (29, .invokevirtual 224, 3) rfl
theorem dX8_fewest_32 : decode cX8_fewest 32 = .ok (.iastore, 1) := tb_d tk_X8_fewest_1 19 (32, .iastore, 1) rfl
theorem dX8_fewest_33 : decode cX8_fewest 33 = .ok (.iinc 2 1, 3) := tb_d tk_X8_fewest_1 20 (33, .iinc 2 1, 3) rfl
theorem dX8_fewest_36 : decode cX8_fewest 36 = .ok (.goto (-19), 3) := tb_d tk_X8_fewest_1 21 (36, .goto (-19), 3) rfl
theorem dX8_fewest_39 : decode cX8_fewest 39 = .ok (.aload_n 0, 1) := tb_d tk_X8_fewest_1 22 (39, .aload_n 0, 1) rfl
theorem dX8_fewest_40 : decode cX8_fewest 40 = .ok (.getfield 44, 3) := tb_d tk_X8_fewest_1 23 (40, .getfield 44, 3) rfl
theorem dX8_fewest_43 : decode cX8_fewest 43 = .ok (.iload_n 1, 1) := tb_d tk_X8_fewest_1 24 (43, .iload_n 1, 1) rfl
theorem dX8_fewest_44 : decode cX8_fewest 44 = .ok (.iaload, 1) := tb_d tk_X8_fewest_1 25 (44, .iaload, 1) rfl
theorem dX8_fewest_45 : decode cX8_fewest 45 = .ok (.ireturn, 1) := tb_d tk_X8_fewest_1 26 (45, .ireturn, 1) rfl
theorem ggX8_march_X8_isGate : GoodIn wsX8_march wsX8_isGate := fun w h => ⟨List.mem_cons_of_mem _ (List.mem_append_right _ (List.mem_append_right _ (List.mem_append_right _ (List.mem_append_right _ (List.mem_append_right _ (List.mem_append_right _ (List.mem_append_right _ (List.mem_append_right _ (List.mem_append_right _ (List.mem_append_right _ (List.mem_append_right _ (List.mem_append_left _ h)))))))))))), good_of_word (gdX8_isGate w h)⟩
set_option maxRecDepth 20000 in
theorem gX8_march_X8_isGate : GoodIn wsX8_march (wsV RX8 180 RX8 yX8_isGate wsX8_isGate) := goodIn_app (a := bkV RX8 180 RX8 yX8_isGate) (fun w h => ⟨List.mem_cons_of_mem _ (List.mem_append_right _ (List.mem_append_left _ h)), good_of_word (gd_bV _ _ _ _ w h)⟩) ggX8_march_X8_isGate
theorem ggX8_march_X8_isRow : GoodIn wsX8_march wsX8_isRow := fun w h => ⟨List.mem_cons_of_mem _ (List.mem_append_right _ (List.mem_append_right _ (List.mem_append_right _ (List.mem_append_right _ (List.mem_append_right _ (List.mem_append_right _ (List.mem_append_right _ (List.mem_append_right _ (List.mem_append_right _ (List.mem_append_right _ (List.mem_append_right _ (List.mem_append_right _ (List.mem_append_left _ h))))))))))))), good_of_word (gdX8_isRow w h)⟩
set_option maxRecDepth 20000 in
theorem gX8_march_X8_isRow : GoodIn wsX8_march (va_wsS RX8 60 yX8_isRow wsX8_isRow) := goodIn_app (a := bkS RX8 60 yX8_isRow) (fun w h => ⟨List.mem_cons_of_mem _ (List.mem_append_right _ (List.mem_append_right _ (List.mem_append_left _ h))), good_of_word (gd_bS _ _ _ w h)⟩) ggX8_march_X8_isRow
theorem ggX8_march_X8_in : GoodIn wsX8_march wsX8_in := fun w h => ⟨List.mem_cons_of_mem _ (List.mem_append_right _ (List.mem_append_right _ (List.mem_append_right _ (List.mem_append_right _ (List.mem_append_right _ (List.mem_append_right _ (List.mem_append_right _ (List.mem_append_right _ (List.mem_append_right _ (List.mem_append_right _ (List.mem_append_right _ (List.mem_append_right _ (List.mem_append_right _ (List.mem_append_left _ h)))))))))))))), good_of_word (gdX8_in w h)⟩
set_option maxRecDepth 20000 in
theorem gX8_march_X8_in : GoodIn wsX8_march (va_wsS RX8 56 yX8_in wsX8_in) := goodIn_app (a := bkS RX8 56 yX8_in) (fun w h => ⟨List.mem_cons_of_mem _ (List.mem_append_right _ (List.mem_append_right _ (List.mem_append_right _ (List.mem_append_left _ h)))), good_of_word (gd_bS _ _ _ w h)⟩) ggX8_march_X8_in
theorem ggX8_march_X8_isMissing : GoodIn wsX8_march wsX8_isMissing := fun w h => ⟨List.mem_cons_of_mem _ (List.mem_append_right _ (List.mem_append_right _ (List.mem_append_right _ (List.mem_append_right _ (List.mem_append_right _ (List.mem_append_right _ (List.mem_append_right _ (List.mem_append_right _ (List.mem_append_right _ (List.mem_append_right _ (List.mem_append_right _ (List.mem_append_right _ (List.mem_append_right _ (List.mem_append_right _ (List.mem_append_left _ h))))))))))))))), good_of_word (gdX8_isMissing w h)⟩
set_option maxRecDepth 20000 in
theorem gX8_march_X8_isMissing : GoodIn wsX8_march (wsV RX8 72 RX8 yX8_isMissing wsX8_isMissing) := goodIn_app (a := bkV RX8 72 RX8 yX8_isMissing) (fun w h => ⟨List.mem_cons_of_mem _ (List.mem_append_right _ (List.mem_append_right _ (List.mem_append_right _ (List.mem_append_right _ (List.mem_append_left _ h))))), good_of_word (gd_bV _ _ _ _ w h)⟩) ggX8_march_X8_isMissing
theorem ggX8_march_X8_found : GoodIn wsX8_march wsX8_found := fun w h => ⟨List.mem_cons_of_mem _ (List.mem_append_right _ (List.mem_append_right _ (List.mem_append_right _ (List.mem_append_right _ (List.mem_append_right _ (List.mem_append_right _ (List.mem_append_right _ (List.mem_append_right _ (List.mem_append_right _ (List.mem_append_right _ (List.mem_append_right _ (List.mem_append_right _ (List.mem_append_right _ (List.mem_append_right _ (List.mem_append_right _ (List.mem_append_left _ h)))))))))))))))), good_of_word (gdX8_found w h)⟩
set_option maxRecDepth 20000 in
theorem gX8_march_X8_found : GoodIn wsX8_march (wsV RX8 65 RX8 yX8_found wsX8_found) := goodIn_app (a := bkV RX8 65 RX8 yX8_found) (fun w h => ⟨List.mem_cons_of_mem _ (List.mem_append_right _ (List.mem_append_right _ (List.mem_append_right _ (List.mem_append_right _ (List.mem_append_right _ (List.mem_append_left _ h)))))), good_of_word (gd_bV _ _ _ _ w h)⟩) ggX8_march_X8_found
theorem ggX8_march_X8_isPart : GoodIn wsX8_march wsX8_isPart := fun w h => ⟨List.mem_cons_of_mem _ (List.mem_append_right _ (List.mem_append_right _ (List.mem_append_right _ (List.mem_append_right _ (List.mem_append_right _ (List.mem_append_right _ (List.mem_append_right _ (List.mem_append_right _ (List.mem_append_right _ (List.mem_append_right _ (List.mem_append_right _ (List.mem_append_right _ (List.mem_append_right _ (List.mem_append_right _ (List.mem_append_right _ (List.mem_append_right _ (List.mem_append_left _ h))))))))))))))))), good_of_word (gdX8_isPart w h)⟩
set_option maxRecDepth 20000 in
theorem gX8_march_X8_isPart : GoodIn wsX8_march (wsV RX8 79 RX8 yX8_isPart wsX8_isPart) := goodIn_app (a := bkV RX8 79 RX8 yX8_isPart) (fun w h => ⟨List.mem_cons_of_mem _ (List.mem_append_right _ (List.mem_append_right _ (List.mem_append_right _ (List.mem_append_right _ (List.mem_append_right _ (List.mem_append_right _ (List.mem_append_left _ h))))))), good_of_word (gd_bV _ _ _ _ w h)⟩) ggX8_march_X8_isPart
theorem ggX8_march_X8_isWord : GoodIn wsX8_march wsX8_isWord := fun w h => ⟨List.mem_cons_of_mem _ (List.mem_append_right _ (List.mem_append_right _ (List.mem_append_right _ (List.mem_append_right _ (List.mem_append_right _ (List.mem_append_right _ (List.mem_append_right _ (List.mem_append_right _ (List.mem_append_right _ (List.mem_append_right _ (List.mem_append_right _ (List.mem_append_right _ (List.mem_append_right _ (List.mem_append_right _ (List.mem_append_right _ (List.mem_append_right _ (List.mem_append_right _ (List.mem_append_left _ h)))))))))))))))))), good_of_word (gdX8_isWord w h)⟩
set_option maxRecDepth 20000 in
theorem gX8_march_X8_isWord : GoodIn wsX8_march (wsV RX8 190 RX8 yX8_isWord wsX8_isWord) := goodIn_app (a := bkV RX8 190 RX8 yX8_isWord) (fun w h => ⟨List.mem_cons_of_mem _ (List.mem_append_right _ (List.mem_append_right _ (List.mem_append_right _ (List.mem_append_right _ (List.mem_append_right _ (List.mem_append_right _ (List.mem_append_right _ (List.mem_append_left _ h)))))))), good_of_word (gd_bV _ _ _ _ w h)⟩) ggX8_march_X8_isWord
theorem ggX8_march_X8_isTakenNow : GoodIn wsX8_march wsX8_isTakenNow := fun w h => ⟨List.mem_cons_of_mem _ (List.mem_append_right _ (List.mem_append_right _ (List.mem_append_right _ (List.mem_append_right _ (List.mem_append_right _ (List.mem_append_right _ (List.mem_append_right _ (List.mem_append_right _ (List.mem_append_right _ (List.mem_append_right _ (List.mem_append_right _ (List.mem_append_right _ (List.mem_append_right _ (List.mem_append_right _ (List.mem_append_right _ (List.mem_append_right _ (List.mem_append_right _ (List.mem_append_right _ (List.mem_append_left _ h))))))))))))))))))), good_of_word (gdX8_isTakenNow w h)⟩
set_option maxRecDepth 20000 in
theorem gX8_march_X8_isTakenNow : GoodIn wsX8_march (wsV RX8 196 RX8 yX8_isTakenNow wsX8_isTakenNow) := goodIn_app (a := bkV RX8 196 RX8 yX8_isTakenNow) (fun w h => ⟨List.mem_cons_of_mem _ (List.mem_append_right _ (List.mem_append_right _ (List.mem_append_right _ (List.mem_append_right _ (List.mem_append_right _ (List.mem_append_right _ (List.mem_append_right _ (List.mem_append_right _ (List.mem_append_left _ h))))))))), good_of_word (gd_bV _ _ _ _ w h)⟩) ggX8_march_X8_isTakenNow
theorem ggX8_march_X8_well : GoodIn wsX8_march wsX8_well := fun w h => ⟨List.mem_cons_of_mem _ (List.mem_append_right _ (List.mem_append_right _ (List.mem_append_right _ (List.mem_append_right _ (List.mem_append_right _ (List.mem_append_right _ (List.mem_append_right _ (List.mem_append_right _ (List.mem_append_right _ (List.mem_append_right _ (List.mem_append_right _ (List.mem_append_right _ (List.mem_append_right _ (List.mem_append_right _ (List.mem_append_right _ (List.mem_append_right _ (List.mem_append_right _ (List.mem_append_right _ (List.mem_append_right _ (List.mem_append_left _ h)))))))))))))))))))), good_of_word (gdX8_well w h)⟩
set_option maxRecDepth 20000 in
theorem gX8_march_X8_well : GoodIn wsX8_march (wsV RX8 69 RX8 yX8_well wsX8_well) := goodIn_app (a := bkV RX8 69 RX8 yX8_well) (fun w h => ⟨List.mem_cons_of_mem _ (List.mem_append_right _ (List.mem_append_right _ (List.mem_append_right _ (List.mem_append_right _ (List.mem_append_right _ (List.mem_append_right _ (List.mem_append_right _ (List.mem_append_right _ (List.mem_append_right _ (List.mem_append_left _ h)))))))))), good_of_word (gd_bV _ _ _ _ w h)⟩) ggX8_march_X8_well
def tb_X8_march_1 : List (Nat × Instr × Nat) := [(0, .aload_n 0, 1), (1, .invokevirtual 180, 3), (4, .ifCond .ne 6, 3), (7, .ldc 183, 2), (9, .ireturn, 1), (10, .iload_n 1, 1), (11, .invokestatic 60, 3), (14, .ifCond .eq 25, 3), (17, .iload_n 3, 1), (18, .iconst 1, 1), (19, .bipush 6, 2), (21, .invokestatic 56, 3), (24, .ifCond .eq 15, 3), (27, .iload 4, 2), (29, .iconst (-1), 1), (30, .iload_n 3, 1), (31, .iconst 1, 1), (32, .isub, 1), (33, .invokestatic 56, 3), (36, .ifCond .ne 6, 3), (39, .ldc 64, 2), (41, .ireturn, 1), (42, .aload_n 0, 1), (43, .iload_n 1, 1), (44, .invokevirtual 72, 3), (47, .ifCond .eq 9, 3), (50, .aload_n 0, 1), (51, .iconst 1, 1), (52, .invokevirtual 65, 3), (55, .ireturn, 1), (56, .aload_n 0, 1), (57, .iload_n 1, 1), (58, .iload_n 2, 1), (59, .iload_n 3, 1), (60, .invokevirtual 79, 3), (63, .ifCond .ne 9, 3), (66, .aload_n 0, 1), (67, .iconst 2, 1), (68, .invokevirtual 65, 3), (71, .ireturn, 1)]
set_option maxRecDepth 100000 in
theorem tk_X8_march_1 : (tb_X8_march_1.all fun q => decide (decode cX8_march q.1 = .ok q.2)) = true := by decide +kernel
theorem dX8_march_0 : decode cX8_march 0 = .ok (.aload_n 0, 1) := tb_d tk_X8_march_1 0 (0, .aload_n 0, 1) rfl
theorem dX8_march_1 : decode cX8_march 1 = .ok (.invokevirtual 180, 3) := tb_d tk_X8_march_1 1 (1, .invokevirtual 180, 3) rfl
theorem dX8_march_4 : decode cX8_march 4 = .ok (.ifCond .ne 6, 3) := tb_d tk_X8_march_1 2 (4, .ifCond .ne 6, 3) rfl
theorem dX8_march_7 : decode cX8_march 7 = .ok (.ldc 183, 2) := tb_d tk_X8_march_1 3 (7, .ldc 183, 2) rfl
theorem dX8_march_9 : decode cX8_march 9 = .ok (.ireturn, 1) := tb_d tk_X8_march_1 4 (9, .ireturn, 1) rfl
theorem dX8_march_10 : decode cX8_march 10 = .ok (.iload_n 1, 1) := tb_d tk_X8_march_1 5 (10, .iload_n 1, 1) rfl
theorem dX8_march_11 : decode cX8_march 11 = .ok (.invokestatic 60, 3) := tb_d tk_X8_march_1 6 (11, .invokestatic 60, 3) rfl
theorem dX8_march_14 : decode cX8_march 14 = .ok (.ifCond .eq 25, 3) := tb_d tk_X8_march_1 7 (14, .ifCond .eq 25, 3) rfl
theorem dX8_march_17 : decode cX8_march 17 = .ok (.iload_n 3, 1) := tb_d tk_X8_march_1 8 (17, .iload_n 3, 1) rfl
theorem dX8_march_18 : decode cX8_march 18 = .ok (.iconst 1, 1) := tb_d tk_X8_march_1 9 (18, .iconst 1, 1) rfl
theorem dX8_march_19 : decode cX8_march 19 = .ok (.bipush 6, 2) := tb_d tk_X8_march_1 10 (19, .bipush 6, 2) rfl
theorem dX8_march_21 : decode cX8_march 21 = .ok (.invokestatic 56, 3) := tb_d tk_X8_march_1 11 (21, .invokestatic 56, 3) rfl
theorem dX8_march_24 : decode cX8_march 24 = .ok (.ifCond .eq 15, 3) := tb_d tk_X8_march_1 12 (24, .ifCond .eq 15, 3) rfl
theorem dX8_march_27 : decode cX8_march 27 = .ok (.iload 4, 2) := tb_d tk_X8_march_1 13 (27, .iload 4, 2) rfl
theorem dX8_march_29 : decode cX8_march 29 = .ok (.iconst (-1), 1) := tb_d tk_X8_march_1 14 (29, .iconst (-1), 1) rfl
theorem dX8_march_30 : decode cX8_march 30 = .ok (.iload_n 3, 1) := tb_d tk_X8_march_1 15 (30, .iload_n 3, 1) rfl
theorem dX8_march_31 : decode cX8_march 31 = .ok (.iconst 1, 1) := tb_d tk_X8_march_1 16 (31, .iconst 1, 1) rfl
theorem dX8_march_32 : decode cX8_march 32 = .ok (.isub, 1) := tb_d tk_X8_march_1 17 (32, .isub, 1) rfl
theorem dX8_march_33 : decode cX8_march 33 = .ok (.invokestatic 56, 3) := tb_d tk_X8_march_1 18 (33, .invokestatic 56, 3) rfl
theorem dX8_march_36 : decode cX8_march 36 = .ok (.ifCond .ne 6, 3) := tb_d tk_X8_march_1 19 (36, .ifCond .ne 6, 3) rfl
theorem dX8_march_39 : decode cX8_march 39 = .ok (.ldc 64, 2) := tb_d tk_X8_march_1 20 (39, .ldc 64, 2) rfl
theorem dX8_march_41 : decode cX8_march 41 = .ok (.ireturn, 1) := tb_d tk_X8_march_1 21 (41, .ireturn, 1) rfl
theorem dX8_march_42 : decode cX8_march 42 = .ok (.aload_n 0, 1) := tb_d tk_X8_march_1 22 (42, .aload_n 0, 1) rfl
theorem dX8_march_43 : decode cX8_march 43 = .ok (.iload_n 1, 1) := tb_d tk_X8_march_1 23 (43, .iload_n 1, 1) rfl
theorem dX8_march_44 : decode cX8_march 44 = .ok (.invokevirtual 72, 3) := tb_d tk_X8_march_1 24 (44, .invokevirtual 72, 3) rfl
theorem dX8_march_47 : decode cX8_march 47 = .ok (.ifCond .eq 9, 3) := tb_d tk_X8_march_1 25 (47, .ifCond .eq 9, 3) rfl
theorem dX8_march_50 : decode cX8_march 50 = .ok (.aload_n 0, 1) := tb_d tk_X8_march_1 26 (50, .aload_n 0, 1) rfl
theorem dX8_march_51 : decode cX8_march 51 = .ok (.iconst 1, 1) := tb_d tk_X8_march_1 27 (51, .iconst 1, 1) rfl
theorem dX8_march_52 : decode cX8_march 52 = .ok (.invokevirtual 65, 3) := tb_d tk_X8_march_1 28 (52, .invokevirtual 65, 3) rfl
theorem dX8_march_55 : decode cX8_march 55 = .ok (.ireturn, 1) := tb_d tk_X8_march_1 29 (55, .ireturn, 1) rfl
theorem dX8_march_56 : decode cX8_march 56 = .ok (.aload_n 0, 1) := tb_d tk_X8_march_1 30 (56, .aload_n 0, 1) rfl
theorem dX8_march_57 : decode cX8_march 57 = .ok (.iload_n 1, 1) := tb_d tk_X8_march_1 31 (57, .iload_n 1, 1) rfl
theorem dX8_march_58 : decode cX8_march 58 = .ok (.iload_n 2, 1) := tb_d tk_X8_march_1 32 (58, .iload_n 2, 1) rfl
theorem dX8_march_59 : decode cX8_march 59 = .ok (.iload_n 3, 1) := tb_d tk_X8_march_1 33 (59, .iload_n 3, 1) rfl
theorem dX8_march_60 : decode cX8_march 60 = .ok (.invokevirtual 79, 3) := tb_d tk_X8_march_1 34 (60, .invokevirtual 79, 3) rfl
theorem dX8_march_63 : decode cX8_march 63 = .ok (.ifCond .ne 9, 3) := tb_d tk_X8_march_1 35 (63, .ifCond .ne 9, 3) rfl
theorem dX8_march_66 : decode cX8_march 66 = .ok (.aload_n 0, 1) := tb_d tk_X8_march_1 36 (66, .aload_n 0, 1) rfl
theorem dX8_march_67 : decode cX8_march 67 = .ok (.iconst 2, 1) := tb_d tk_X8_march_1 37 (67, .iconst 2, 1) rfl
theorem dX8_march_68 : decode cX8_march 68 = .ok (.invokevirtual 65, 3) := tb_d tk_X8_march_1 38 (68, .invokevirtual 65, 3) rfl
theorem dX8_march_71 : decode cX8_march 71 = .ok (.ireturn, 1) := tb_d tk_X8_march_1 39 (71, .ireturn, 1) rfl
def tb_X8_march_2 : List (Nat × Instr × Nat) := [(72, .iconst (-1), 1), (73, .istore 5, 2), (75, .ldc 50, 2), (77, .istore 6, 2), (79, .iconst 0, 1), (80, .istore 7, 2), (82, .iload 7, 2), (84, .iload_n 3, 1), (85, .if_icmp .ge 91, 3), (88, .iload 5, 2), (90, .bipush 6, 2), (92, .if_icmp .ge 84, 3), (95, .aload_n 0, 1), (96, .getfield 16, 3), (99, .bipush 40, 2), (101, .iload_n 1, 1), (102, .imul, 1), (103, .iload_n 2, 1), (104, .iadd, 1), (105, .iload 7, 2), (107, .iadd, 1), (108, .iaload, 1), (109, .istore 8, 2), (111, .iinc 5 1, 3), (114, .iload 5, 2), (116, .bipush 6, 2), (118, .if_icmp .ge 30, 3), (121, .aload_n 0, 1), (122, .iload 8, 2), (124, .invokevirtual 190, 3), (127, .ifCond .eq 15, 3), (130, .aload_n 0, 1), (131, .iload 8, 2), (133, .iload 5, 2), (135, .iconst 0, 1), (136, .invokevirtual 196, 3), (139, .ifCond .eq 9, 3), (142, .iinc 5 1, 3), (145, .goto (-31), 3), (148, .iload 7, 2)]
set_option maxRecDepth 100000 in
theorem tk_X8_march_2 : (tb_X8_march_2.all fun q => decide (decode cX8_march q.1 = .ok q.2)) = true := by decide +kernel
theorem dX8_march_72 : decode cX8_march 72 = .ok (.iconst (-1), 1) := tb_d tk_X8_march_2 0 (72, .iconst (-1), 1) rfl
theorem dX8_march_73 : decode cX8_march 73 = .ok (.istore 5, 2) := tb_d tk_X8_march_2 1 (73, .istore 5, 2) rfl
theorem dX8_march_75 : decode cX8_march 75 = .ok (.ldc 50, 2) := tb_d tk_X8_march_2 2 (75, .ldc 50, 2) rfl
theorem dX8_march_77 : decode cX8_march 77 = .ok (.istore 6, 2) := tb_d tk_X8_march_2 3 (77, .istore 6, 2) rfl
theorem dX8_march_79 : decode cX8_march 79 = .ok (.iconst 0, 1) := tb_d tk_X8_march_2 4 (79, .iconst 0, 1) rfl
theorem dX8_march_80 : decode cX8_march 80 = .ok (.istore 7, 2) := tb_d tk_X8_march_2 5 (80, .istore 7, 2) rfl
theorem dX8_march_82 : decode cX8_march 82 = .ok (.iload 7, 2) := tb_d tk_X8_march_2 6 (82, .iload 7, 2) rfl
theorem dX8_march_84 : decode cX8_march 84 = .ok (.iload_n 3, 1) := tb_d tk_X8_march_2 7 (84, .iload_n 3, 1) rfl
theorem dX8_march_85 : decode cX8_march 85 = .ok (.if_icmp .ge 91, 3) := tb_d tk_X8_march_2 8 (85, .if_icmp .ge 91, 3) rfl
theorem dX8_march_88 : decode cX8_march 88 = .ok (.iload 5, 2) := tb_d tk_X8_march_2 9 (88, .iload 5, 2) rfl
theorem dX8_march_90 : decode cX8_march 90 = .ok (.bipush 6, 2) := tb_d tk_X8_march_2 10 (90, .bipush 6, 2) rfl
theorem dX8_march_92 : decode cX8_march 92 = .ok (.if_icmp .ge 84, 3) := tb_d tk_X8_march_2 11 (92, .if_icmp .ge 84, 3) rfl
theorem dX8_march_95 : decode cX8_march 95 = .ok (.aload_n 0, 1) := tb_d tk_X8_march_2 12 (95, .aload_n 0, 1) rfl
theorem dX8_march_96 : decode cX8_march 96 = .ok (.getfield 16, 3) := tb_d tk_X8_march_2 13 (96, .getfield 16, 3) rfl
theorem dX8_march_99 : decode cX8_march 99 = .ok (.bipush 40, 2) := tb_d tk_X8_march_2 14 (99, .bipush 40, 2) rfl
theorem dX8_march_101 : decode cX8_march 101 = .ok (.iload_n 1, 1) := tb_d tk_X8_march_2 15 (101, .iload_n 1, 1) rfl
theorem dX8_march_102 : decode cX8_march 102 = .ok (.imul, 1) := tb_d tk_X8_march_2 16 (102, .imul, 1) rfl
theorem dX8_march_103 : decode cX8_march 103 = .ok (.iload_n 2, 1) := tb_d tk_X8_march_2 17 (103, .iload_n 2, 1) rfl
theorem dX8_march_104 : decode cX8_march 104 = .ok (.iadd, 1) := tb_d tk_X8_march_2 18 (104, .iadd, 1) rfl
theorem dX8_march_105 : decode cX8_march 105 = .ok (.iload 7, 2) := tb_d tk_X8_march_2 19 (105, .iload 7, 2) rfl
theorem dX8_march_107 : decode cX8_march 107 = .ok (.iadd, 1) := tb_d tk_X8_march_2 20 (107, .iadd, 1) rfl
theorem dX8_march_108 : decode cX8_march 108 = .ok (.iaload, 1) := tb_d tk_X8_march_2 21 (108, .iaload, 1) rfl
theorem dX8_march_109 : decode cX8_march 109 = .ok (.istore 8, 2) := tb_d tk_X8_march_2 22 (109, .istore 8, 2) rfl
theorem dX8_march_111 : decode cX8_march 111 = .ok (.iinc 5 1, 3) := tb_d tk_X8_march_2 23 (111, .iinc 5 1, 3) rfl
theorem dX8_march_114 : decode cX8_march 114 = .ok (.iload 5, 2) := tb_d tk_X8_march_2 24 (114, .iload 5, 2) rfl
theorem dX8_march_116 : decode cX8_march 116 = .ok (.bipush 6, 2) := tb_d tk_X8_march_2 25 (116, .bipush 6, 2) rfl
theorem dX8_march_118 : decode cX8_march 118 = .ok (.if_icmp .ge 30, 3) := tb_d tk_X8_march_2 26 (118, .if_icmp .ge 30, 3) rfl
theorem dX8_march_121 : decode cX8_march 121 = .ok (.aload_n 0, 1) := tb_d tk_X8_march_2 27 (121, .aload_n 0, 1) rfl
theorem dX8_march_122 : decode cX8_march 122 = .ok (.iload 8, 2) := tb_d tk_X8_march_2 28 (122, .iload 8, 2) rfl
theorem dX8_march_124 : decode cX8_march 124 = .ok (.invokevirtual 190, 3) := tb_d tk_X8_march_2 29 (124, .invokevirtual 190, 3) rfl
theorem dX8_march_127 : decode cX8_march 127 = .ok (.ifCond .eq 15, 3) := tb_d tk_X8_march_2 30 (127, .ifCond .eq 15, 3) rfl
theorem dX8_march_130 : decode cX8_march 130 = .ok (.aload_n 0, 1) := tb_d tk_X8_march_2 31 (130, .aload_n 0, 1) rfl
theorem dX8_march_131 : decode cX8_march 131 = .ok (.iload 8, 2) := tb_d tk_X8_march_2 32 (131, .iload 8, 2) rfl
theorem dX8_march_133 : decode cX8_march 133 = .ok (.iload 5, 2) := tb_d tk_X8_march_2 33 (133, .iload 5, 2) rfl
theorem dX8_march_135 : decode cX8_march 135 = .ok (.iconst 0, 1) := tb_d tk_X8_march_2 34 (135, .iconst 0, 1) rfl
theorem dX8_march_136 : decode cX8_march 136 = .ok (.invokevirtual 196, 3) := tb_d tk_X8_march_2 35 (136, .invokevirtual 196, 3) rfl
theorem dX8_march_139 : decode cX8_march 139 = .ok (.ifCond .eq 9, 3) := tb_d tk_X8_march_2 36 (139, .ifCond .eq 9, 3) rfl
theorem dX8_march_142 : decode cX8_march 142 = .ok (.iinc 5 1, 3) := tb_d tk_X8_march_2 37 (142, .iinc 5 1, 3) rfl
theorem dX8_march_145 : decode cX8_march 145 = .ok (.goto (-31), 3) := tb_d tk_X8_march_2 38 (145, .goto (-31), 3) rfl
theorem dX8_march_148 : decode cX8_march 148 = .ok (.iload 7, 2) := tb_d tk_X8_march_2 39 (148, .iload 7, 2) rfl
def tb_X8_march_3 : List (Nat × Instr × Nat) := [(150, .iload 4, 2), (152, .if_icmp .eq 9, 3), (155, .iload 4, 2), (157, .iconst (-1), 1), (158, .if_icmp .ne 8, 3), (161, .iload 5, 2), (163, .goto 5, 3), (166, .iload 6, 2), (168, .istore 6, 2), (170, .iinc 7 1, 3), (173, .goto (-91), 3), (176, .aload_n 0, 1), (177, .iload 5, 2), (179, .bipush 6, 2), (181, .if_icmp .ge 8, 3), (184, .iload 6, 2), (186, .goto 5, 3), (189, .ldc 50, 2), (191, .invokevirtual 69, 3), (194, .ireturn, 1)]
set_option maxRecDepth 100000 in
theorem tk_X8_march_3 : (tb_X8_march_3.all fun q => decide (decode cX8_march q.1 = .ok q.2)) = true := by decide +kernel
theorem dX8_march_150 : decode cX8_march 150 = .ok (.iload 4, 2) := tb_d tk_X8_march_3 0 (150, .iload 4, 2) rfl
theorem dX8_march_152 : decode cX8_march 152 = .ok (.if_icmp .eq 9, 3) := tb_d tk_X8_march_3 1 (152, .if_icmp .eq 9, 3) rfl
theorem dX8_march_155 : decode cX8_march 155 = .ok (.iload 4, 2) := tb_d tk_X8_march_3 2 (155, .iload 4, 2) rfl
theorem dX8_march_157 : decode cX8_march 157 = .ok (.iconst (-1), 1) := tb_d tk_X8_march_3 3 (157, .iconst (-1), 1) rfl
theorem dX8_march_158 : decode cX8_march 158 = .ok (.if_icmp .ne 8, 3) := tb_d tk_X8_march_3 4 (158, .if_icmp .ne 8, 3) rfl
theorem dX8_march_161 : decode cX8_march 161 = .ok (.iload 5, 2) := tb_d tk_X8_march_3 5 (161, .iload 5, 2) rfl
theorem dX8_march_163 : decode cX8_march 163 = .ok (.goto 5, 3) := tb_d tk_X8_march_3 6 (163, .goto 5, 3) rfl
theorem dX8_march_166 : decode cX8_march 166 = .ok (.iload 6, 2) := tb_d tk_X8_march_3 7 (166, .iload 6, 2) rfl
theorem dX8_march_168 : decode cX8_march 168 = .ok (.istore 6, 2) := tb_d tk_X8_march_3 8 (168, .istore 6, 2) rfl
theorem dX8_march_170 : decode cX8_march 170 = .ok (.iinc 7 1, 3) := tb_d tk_X8_march_3 9 (170, .iinc 7 1, 3) rfl
theorem dX8_march_173 : decode cX8_march 173 = .ok (.goto (-91), 3) := tb_d tk_X8_march_3 10 (173, .goto (-91), 3) rfl
theorem dX8_march_176 : decode cX8_march 176 = .ok (.aload_n 0, 1) := tb_d tk_X8_march_3 11 (176, .aload_n 0, 1) rfl
theorem dX8_march_177 : decode cX8_march 177 = .ok (.iload 5, 2) := tb_d tk_X8_march_3 12 (177, .iload 5, 2) rfl
theorem dX8_march_179 : decode cX8_march 179 = .ok (.bipush 6, 2) := tb_d tk_X8_march_3 13 (179, .bipush 6, 2) rfl
theorem dX8_march_181 : decode cX8_march 181 = .ok (.if_icmp .ge 8, 3) := tb_d tk_X8_march_3 14 (181, .if_icmp .ge 8, 3) rfl
theorem dX8_march_184 : decode cX8_march 184 = .ok (.iload 6, 2) := tb_d tk_X8_march_3 15 (184, .iload 6, 2) rfl
theorem dX8_march_186 : decode cX8_march 186 = .ok (.goto 5, 3) := tb_d tk_X8_march_3 16 (186, .goto 5, 3) rfl
theorem dX8_march_189 : decode cX8_march 189 = .ok (.ldc 50, 2) := tb_d tk_X8_march_3 17 (189, .ldc 50, 2) rfl
theorem dX8_march_191 : decode cX8_march 191 = .ok (.invokevirtual 69, 3) := tb_d tk_X8_march_3 18 (191, .invokevirtual 69, 3) rfl
theorem dX8_march_194 : decode cX8_march 194 = .ok (.ireturn, 1) := tb_d tk_X8_march_3 19 (194, .ireturn, 1) rfl
theorem ggX8_cheap_X8_isGate : GoodIn wsX8_cheap wsX8_isGate := fun w h => ⟨List.mem_cons_of_mem _ (List.mem_append_right _ (List.mem_append_right _ (List.mem_append_right _ (List.mem_append_right _ (List.mem_append_right _ (List.mem_append_right _ (List.mem_append_right _ (List.mem_append_right _ (List.mem_append_right _ (List.mem_append_left _ h)))))))))), good_of_word (gdX8_isGate w h)⟩
set_option maxRecDepth 20000 in
theorem gX8_cheap_X8_isGate : GoodIn wsX8_cheap (wsV RX8 180 RX8 yX8_isGate wsX8_isGate) := goodIn_app (a := bkV RX8 180 RX8 yX8_isGate) (fun w h => ⟨List.mem_cons_of_mem _ (List.mem_append_right _ (List.mem_append_left _ h)), good_of_word (gd_bV _ _ _ _ w h)⟩) ggX8_cheap_X8_isGate
theorem ggX8_cheap_X8_areWords : GoodIn wsX8_cheap wsX8_areWords := fun w h => ⟨List.mem_cons_of_mem _ (List.mem_append_right _ (List.mem_append_right _ (List.mem_append_right _ (List.mem_append_right _ (List.mem_append_right _ (List.mem_append_right _ (List.mem_append_right _ (List.mem_append_right _ (List.mem_append_right _ (List.mem_append_right _ (List.mem_append_left _ h))))))))))), good_of_word (gdX8_areWords w h)⟩
set_option maxRecDepth 20000 in
theorem gX8_cheap_X8_areWords : GoodIn wsX8_cheap (wsV RX8 208 RX8 yX8_areWords wsX8_areWords) := goodIn_app (a := bkV RX8 208 RX8 yX8_areWords) (fun w h => ⟨List.mem_cons_of_mem _ (List.mem_append_right _ (List.mem_append_right _ (List.mem_append_left _ h))), good_of_word (gd_bV _ _ _ _ w h)⟩) ggX8_cheap_X8_areWords
theorem ggX8_cheap_X8_isFar : GoodIn wsX8_cheap wsX8_isFar := fun w h => ⟨List.mem_cons_of_mem _ (List.mem_append_right _ (List.mem_append_right _ (List.mem_append_right _ (List.mem_append_right _ (List.mem_append_right _ (List.mem_append_right _ (List.mem_append_right _ (List.mem_append_right _ (List.mem_append_right _ (List.mem_append_right _ (List.mem_append_right _ (List.mem_append_left _ h)))))))))))), good_of_word (gdX8_isFar w h)⟩
set_option maxRecDepth 20000 in
theorem gX8_cheap_X8_isFar : GoodIn wsX8_cheap (va_wsS RX8 205 yX8_isFar wsX8_isFar) := goodIn_app (a := bkS RX8 205 yX8_isFar) (fun w h => ⟨List.mem_cons_of_mem _ (List.mem_append_right _ (List.mem_append_right _ (List.mem_append_right _ (List.mem_append_left _ h)))), good_of_word (gd_bS _ _ _ w h)⟩) ggX8_cheap_X8_isFar
theorem ggX8_cheap_X8_in : GoodIn wsX8_cheap wsX8_in := fun w h => ⟨List.mem_cons_of_mem _ (List.mem_append_right _ (List.mem_append_right _ (List.mem_append_right _ (List.mem_append_right _ (List.mem_append_right _ (List.mem_append_right _ (List.mem_append_right _ (List.mem_append_right _ (List.mem_append_right _ (List.mem_append_right _ (List.mem_append_right _ (List.mem_append_right _ (List.mem_append_left _ h))))))))))))), good_of_word (gdX8_in w h)⟩
set_option maxRecDepth 20000 in
theorem gX8_cheap_X8_in : GoodIn wsX8_cheap (va_wsS RX8 56 yX8_in wsX8_in) := goodIn_app (a := bkS RX8 56 yX8_in) (fun w h => ⟨List.mem_cons_of_mem _ (List.mem_append_right _ (List.mem_append_right _ (List.mem_append_right _ (List.mem_append_right _ (List.mem_append_left _ h))))), good_of_word (gd_bS _ _ _ w h)⟩) ggX8_cheap_X8_in
theorem ggX8_cheap_X8_has : GoodIn wsX8_cheap wsX8_has := fun w h => ⟨List.mem_cons_of_mem _ (List.mem_append_right _ (List.mem_append_right _ (List.mem_append_right _ (List.mem_append_right _ (List.mem_append_right _ (List.mem_append_right _ (List.mem_append_right _ (List.mem_append_right _ (List.mem_append_right _ (List.mem_append_right _ (List.mem_append_right _ (List.mem_append_right _ (List.mem_append_right _ (List.mem_append_left _ h)))))))))))))), good_of_word (gdX8_has w h)⟩
set_option maxRecDepth 20000 in
theorem gX8_cheap_X8_has : GoodIn wsX8_cheap (va_wsS RX8 161 yX8_has wsX8_has) := goodIn_app (a := bkS RX8 161 yX8_has) (fun w h => ⟨List.mem_cons_of_mem _ (List.mem_append_right _ (List.mem_append_right _ (List.mem_append_right _ (List.mem_append_right _ (List.mem_append_right _ (List.mem_append_left _ h)))))), good_of_word (gd_bS _ _ _ w h)⟩) ggX8_cheap_X8_has
theorem ggX8_cheap_X8_areIn : GoodIn wsX8_cheap wsX8_areIn := fun w h => ⟨List.mem_cons_of_mem _ (List.mem_append_right _ (List.mem_append_right _ (List.mem_append_right _ (List.mem_append_right _ (List.mem_append_right _ (List.mem_append_right _ (List.mem_append_right _ (List.mem_append_right _ (List.mem_append_right _ (List.mem_append_right _ (List.mem_append_right _ (List.mem_append_right _ (List.mem_append_right _ (List.mem_append_right _ (List.mem_append_left _ h))))))))))))))), good_of_word (gdX8_areIn w h)⟩
set_option maxRecDepth 20000 in
theorem gX8_cheap_X8_areIn : GoodIn wsX8_cheap (wsV RX8 211 RX8 yX8_areIn wsX8_areIn) := goodIn_app (a := bkV RX8 211 RX8 yX8_areIn) (fun w h => ⟨List.mem_cons_of_mem _ (List.mem_append_right _ (List.mem_append_right _ (List.mem_append_right _ (List.mem_append_right _ (List.mem_append_right _ (List.mem_append_right _ (List.mem_append_left _ h))))))), good_of_word (gd_bV _ _ _ _ w h)⟩) ggX8_cheap_X8_areIn
theorem ggX8_cheap_X8_ones : GoodIn wsX8_cheap wsX8_ones := fun w h => ⟨List.mem_cons_of_mem _ (List.mem_append_right _ (List.mem_append_right _ (List.mem_append_right _ (List.mem_append_right _ (List.mem_append_right _ (List.mem_append_right _ (List.mem_append_right _ (List.mem_append_right _ (List.mem_append_right _ (List.mem_append_right _ (List.mem_append_right _ (List.mem_append_right _ (List.mem_append_right _ (List.mem_append_right _ (List.mem_append_right _ (List.mem_append_left _ h)))))))))))))))), good_of_word (gdX8_ones w h)⟩
set_option maxRecDepth 20000 in
theorem gX8_cheap_X8_ones : GoodIn wsX8_cheap (va_wsS RX8 217 yX8_ones wsX8_ones) := goodIn_app (a := bkS RX8 217 yX8_ones) (fun w h => ⟨List.mem_cons_of_mem _ (List.mem_append_right _ (List.mem_append_right _ (List.mem_append_right _ (List.mem_append_right _ (List.mem_append_right _ (List.mem_append_right _ (List.mem_append_right _ (List.mem_append_left _ h)))))))), good_of_word (gd_bS _ _ _ w h)⟩) ggX8_cheap_X8_ones
def tb_X8_cheap_1 : List (Nat × Instr × Nat) := [(0, .aload_n 0, 1), (1, .invokevirtual 180, 3), (4, .ifCond .ne 6, 3), (7, .ldc 183, 2), (9, .ireturn, 1), (10, .aload_n 0, 1), (11, .iload_n 1, 1), (12, .invokevirtual 208, 3), (15, .ifCond .eq 19, 3), (18, .iload_n 2, 1), (19, .invokestatic 205, 3), (22, .ifCond .eq 12, 3), (25, .iload_n 3, 1), (26, .iconst 0, 1), (27, .iconst 1, 1), (28, .invokestatic 56, 3), (31, .ifCond .ne 6, 3), (34, .ldc 64, 2), (36, .ireturn, 1), (37, .ldc 50, 2), (39, .istore 4, 2), (41, .ldc 50, 2), (43, .istore 5, 2), (45, .iconst 0, 1), (46, .istore 6, 2), (48, .iload 6, 2), (50, .aload_n 0, 1), (51, .getfield 25, 3), (54, .bipush 6, 2), (56, .iaload, 1), (57, .if_icmp .gt 212, 3), (60, .iconst 0, 1), (61, .istore 7, 2), (63, .iload 6, 2), (65, .aload_n 0, 1), (66, .getfield 25, 3), (69, .bipush 6, 2), (71, .iaload, 1), (72, .iconst (-1), 1), (73, .ixor, 1)]
set_option maxRecDepth 100000 in
theorem tk_X8_cheap_1 : (tb_X8_cheap_1.all fun q => decide (decode cX8_cheap q.1 = .ok q.2)) = true := by decide +kernel
theorem dX8_cheap_0 : decode cX8_cheap 0 = .ok (.aload_n 0, 1) := tb_d tk_X8_cheap_1 0 (0, .aload_n 0, 1) rfl
theorem dX8_cheap_1 : decode cX8_cheap 1 = .ok (.invokevirtual 180, 3) := tb_d tk_X8_cheap_1 1 (1, .invokevirtual 180, 3) rfl
theorem dX8_cheap_4 : decode cX8_cheap 4 = .ok (.ifCond .ne 6, 3) := tb_d tk_X8_cheap_1 2 (4, .ifCond .ne 6, 3) rfl
theorem dX8_cheap_7 : decode cX8_cheap 7 = .ok (.ldc 183, 2) := tb_d tk_X8_cheap_1 3 (7, .ldc 183, 2) rfl
theorem dX8_cheap_9 : decode cX8_cheap 9 = .ok (.ireturn, 1) := tb_d tk_X8_cheap_1 4 (9, .ireturn, 1) rfl
theorem dX8_cheap_10 : decode cX8_cheap 10 = .ok (.aload_n 0, 1) := tb_d tk_X8_cheap_1 5 (10, .aload_n 0, 1) rfl
theorem dX8_cheap_11 : decode cX8_cheap 11 = .ok (.iload_n 1, 1) := tb_d tk_X8_cheap_1 6 (11, .iload_n 1, 1) rfl
theorem dX8_cheap_12 : decode cX8_cheap 12 = .ok (.invokevirtual 208, 3) := tb_d tk_X8_cheap_1 7 (12, .invokevirtual 208, 3) rfl
theorem dX8_cheap_15 : decode cX8_cheap 15 = .ok (.ifCond .eq 19, 3) := tb_d tk_X8_cheap_1 8 (15, .ifCond .eq 19, 3) rfl
theorem dX8_cheap_18 : decode cX8_cheap 18 = .ok (.iload_n 2, 1) := tb_d tk_X8_cheap_1 9 (18, .iload_n 2, 1) rfl
theorem dX8_cheap_19 : decode cX8_cheap 19 = .ok (.invokestatic 205, 3) := tb_d tk_X8_cheap_1 10 (19, .invokestatic 205, 3) rfl
theorem dX8_cheap_22 : decode cX8_cheap 22 = .ok (.ifCond .eq 12, 3) := tb_d tk_X8_cheap_1 11 (22, .ifCond .eq 12, 3) rfl
theorem dX8_cheap_25 : decode cX8_cheap 25 = .ok (.iload_n 3, 1) := tb_d tk_X8_cheap_1 12 (25, .iload_n 3, 1) rfl
theorem dX8_cheap_26 : decode cX8_cheap 26 = .ok (.iconst 0, 1) := tb_d tk_X8_cheap_1 13 (26, .iconst 0, 1) rfl
theorem dX8_cheap_27 : decode cX8_cheap 27 = .ok (.iconst 1, 1) := tb_d tk_X8_cheap_1 14 (27, .iconst 1, 1) rfl
theorem dX8_cheap_28 : decode cX8_cheap 28 = .ok (.invokestatic 56, 3) := tb_d tk_X8_cheap_1 15 (28, .invokestatic 56, 3) rfl
theorem dX8_cheap_31 : decode cX8_cheap 31 = .ok (.ifCond .ne 6, 3) := tb_d tk_X8_cheap_1 16 (31, .ifCond .ne 6, 3) rfl
theorem dX8_cheap_34 : decode cX8_cheap 34 = .ok (.ldc 64, 2) := tb_d tk_X8_cheap_1 17 (34, .ldc 64, 2) rfl
theorem dX8_cheap_36 : decode cX8_cheap 36 = .ok (.ireturn, 1) := tb_d tk_X8_cheap_1 18 (36, .ireturn, 1) rfl
theorem dX8_cheap_37 : decode cX8_cheap 37 = .ok (.ldc 50, 2) := tb_d tk_X8_cheap_1 19 (37, .ldc 50, 2) rfl
theorem dX8_cheap_39 : decode cX8_cheap 39 = .ok (.istore 4, 2) := tb_d tk_X8_cheap_1 20 (39, .istore 4, 2) rfl
theorem dX8_cheap_41 : decode cX8_cheap 41 = .ok (.ldc 50, 2) := tb_d tk_X8_cheap_1 21 (41, .ldc 50, 2) rfl
theorem dX8_cheap_43 : decode cX8_cheap 43 = .ok (.istore 5, 2) := tb_d tk_X8_cheap_1 22 (43, .istore 5, 2) rfl
theorem dX8_cheap_45 : decode cX8_cheap 45 = .ok (.iconst 0, 1) := tb_d tk_X8_cheap_1 23 (45, .iconst 0, 1) rfl
theorem dX8_cheap_46 : decode cX8_cheap 46 = .ok (.istore 6, 2) := tb_d tk_X8_cheap_1 24 (46, .istore 6, 2) rfl
theorem dX8_cheap_48 : decode cX8_cheap 48 = .ok (.iload 6, 2) := tb_d tk_X8_cheap_1 25 (48, .iload 6, 2) rfl
theorem dX8_cheap_50 : decode cX8_cheap 50 = .ok (.aload_n 0, 1) := tb_d tk_X8_cheap_1 26 (50, .aload_n 0, 1) rfl
theorem dX8_cheap_51 : decode cX8_cheap 51 = .ok (.getfield 25, 3) := tb_d tk_X8_cheap_1 27 (51, .getfield 25, 3) rfl
theorem dX8_cheap_54 : decode cX8_cheap 54 = .ok (.bipush 6, 2) := tb_d tk_X8_cheap_1 28 (54, .bipush 6, 2) rfl
theorem dX8_cheap_56 : decode cX8_cheap 56 = .ok (.iaload, 1) := tb_d tk_X8_cheap_1 29 (56, .iaload, 1) rfl
theorem dX8_cheap_57 : decode cX8_cheap 57 = .ok (.if_icmp .gt 212, 3) := tb_d tk_X8_cheap_1 30 (57, .if_icmp .gt 212, 3) rfl
theorem dX8_cheap_60 : decode cX8_cheap 60 = .ok (.iconst 0, 1) := tb_d tk_X8_cheap_1 31 (60, .iconst 0, 1) rfl
theorem dX8_cheap_61 : decode cX8_cheap 61 = .ok (.istore 7, 2) := tb_d tk_X8_cheap_1 32 (61, .istore 7, 2) rfl
theorem dX8_cheap_63 : decode cX8_cheap 63 = .ok (.iload 6, 2) := tb_d tk_X8_cheap_1 33 (63, .iload 6, 2) rfl
theorem dX8_cheap_65 : decode cX8_cheap 65 = .ok (.aload_n 0, 1) := tb_d tk_X8_cheap_1 34 (65, .aload_n 0, 1) rfl
theorem dX8_cheap_66 : decode cX8_cheap 66 = .ok (.getfield 25, 3) := tb_d tk_X8_cheap_1 35 (66, .getfield 25, 3) rfl
theorem dX8_cheap_69 : decode cX8_cheap 69 = .ok (.bipush 6, 2) := tb_d tk_X8_cheap_1 36 (69, .bipush 6, 2) rfl
theorem dX8_cheap_71 : decode cX8_cheap 71 = .ok (.iaload, 1) := tb_d tk_X8_cheap_1 37 (71, .iaload, 1) rfl
theorem dX8_cheap_72 : decode cX8_cheap 72 = .ok (.iconst (-1), 1) := tb_d tk_X8_cheap_1 38 (72, .iconst (-1), 1) rfl
theorem dX8_cheap_73 : decode cX8_cheap 73 = .ok (.ixor, 1) := tb_d tk_X8_cheap_1 39 (73, .ixor, 1) rfl
def tb_X8_cheap_2 : List (Nat × Instr × Nat) := [(74, .iand, 1), (75, .ifCond .ne 7, 3), (78, .iconst 1, 1), (79, .goto 4, 3), (82, .iconst 0, 1), (83, .istore 8, 2), (85, .iconst 0, 1), (86, .istore 9, 2), (88, .iload 9, 2), (90, .aload_n 0, 1), (91, .getfield 25, 3), (94, .iconst 4, 1), (95, .iaload, 1), (96, .if_icmp .ge 42, 3), (99, .iload 7, 2), (101, .iload 6, 2), (103, .iload 9, 2), (105, .invokestatic 161, 3), (108, .ifCond .eq 20, 3), (111, .aload_n 0, 1), (112, .getfield 25, 3), (115, .bipush 26, 2), (117, .iconst 3, 1), (118, .iload 9, 2), (120, .imul, 1), (121, .iadd, 1), (122, .iconst 1, 1), (123, .iadd, 1), (124, .iaload, 1), (125, .goto 4, 3), (128, .iconst 0, 1), (129, .iadd, 1), (130, .istore 7, 2), (132, .iinc 9 1, 3), (135, .goto (-47), 3), (138, .iconst 0, 1), (139, .istore 9, 2), (141, .iload 9, 2), (143, .bipush 6, 2), (145, .if_icmp .ge 44, 3)]
set_option maxRecDepth 100000 in
theorem tk_X8_cheap_2 : (tb_X8_cheap_2.all fun q => decide (decode cX8_cheap q.1 = .ok q.2)) = true := by decide +kernel
theorem dX8_cheap_74 : decode cX8_cheap 74 = .ok (.iand, 1) := tb_d tk_X8_cheap_2 0 (74, .iand, 1) rfl
theorem dX8_cheap_75 : decode cX8_cheap 75 = .ok (.ifCond .ne 7, 3) := tb_d tk_X8_cheap_2 1 (75, .ifCond .ne 7, 3) rfl
theorem dX8_cheap_78 : decode cX8_cheap 78 = .ok (.iconst 1, 1) := tb_d tk_X8_cheap_2 2 (78, .iconst 1, 1) rfl
theorem dX8_cheap_79 : decode cX8_cheap 79 = .ok (.goto 4, 3) := tb_d tk_X8_cheap_2 3 (79, .goto 4, 3) rfl
theorem dX8_cheap_82 : decode cX8_cheap 82 = .ok (.iconst 0, 1) := tb_d tk_X8_cheap_2 4 (82, .iconst 0, 1) rfl
theorem dX8_cheap_83 : decode cX8_cheap 83 = .ok (.istore 8, 2) := tb_d tk_X8_cheap_2 5 (83, .istore 8, 2) rfl
theorem dX8_cheap_85 : decode cX8_cheap 85 = .ok (.iconst 0, 1) := tb_d tk_X8_cheap_2 6 (85, .iconst 0, 1) rfl
theorem dX8_cheap_86 : decode cX8_cheap 86 = .ok (.istore 9, 2) := tb_d tk_X8_cheap_2 7 (86, .istore 9, 2) rfl
theorem dX8_cheap_88 : decode cX8_cheap 88 = .ok (.iload 9, 2) := tb_d tk_X8_cheap_2 8 (88, .iload 9, 2) rfl
theorem dX8_cheap_90 : decode cX8_cheap 90 = .ok (.aload_n 0, 1) := tb_d tk_X8_cheap_2 9 (90, .aload_n 0, 1) rfl
theorem dX8_cheap_91 : decode cX8_cheap 91 = .ok (.getfield 25, 3) := tb_d tk_X8_cheap_2 10 (91, .getfield 25, 3) rfl
theorem dX8_cheap_94 : decode cX8_cheap 94 = .ok (.iconst 4, 1) := tb_d tk_X8_cheap_2 11 (94, .iconst 4, 1) rfl
theorem dX8_cheap_95 : decode cX8_cheap 95 = .ok (.iaload, 1) := tb_d tk_X8_cheap_2 12 (95, .iaload, 1) rfl
theorem dX8_cheap_96 : decode cX8_cheap 96 = .ok (.if_icmp .ge 42, 3) := tb_d tk_X8_cheap_2 13 (96, .if_icmp .ge 42, 3) rfl
theorem dX8_cheap_99 : decode cX8_cheap 99 = .ok (.iload 7, 2) := tb_d tk_X8_cheap_2 14 (99, .iload 7, 2) rfl
theorem dX8_cheap_101 : decode cX8_cheap 101 = .ok (.iload 6, 2) := tb_d tk_X8_cheap_2 15 (101, .iload 6, 2) rfl
theorem dX8_cheap_103 : decode cX8_cheap 103 = .ok (.iload 9, 2) := tb_d tk_X8_cheap_2 16 (103, .iload 9, 2) rfl
theorem dX8_cheap_105 : decode cX8_cheap 105 = .ok (.invokestatic 161, 3) := tb_d tk_X8_cheap_2 17 (105, .invokestatic 161, 3) rfl
theorem dX8_cheap_108 : decode cX8_cheap 108 = .ok (.ifCond .eq 20, 3) := tb_d tk_X8_cheap_2 18 (108, .ifCond .eq 20, 3) rfl
theorem dX8_cheap_111 : decode cX8_cheap 111 = .ok (.aload_n 0, 1) := tb_d tk_X8_cheap_2 19 (111, .aload_n 0, 1) rfl
theorem dX8_cheap_112 : decode cX8_cheap 112 = .ok (.getfield 25, 3) := tb_d tk_X8_cheap_2 20 (112, .getfield 25, 3) rfl
theorem dX8_cheap_115 : decode cX8_cheap 115 = .ok (.bipush 26, 2) := tb_d tk_X8_cheap_2 21 (115, .bipush 26, 2) rfl
theorem dX8_cheap_117 : decode cX8_cheap 117 = .ok (.iconst 3, 1) := tb_d tk_X8_cheap_2 22 (117, .iconst 3, 1) rfl
theorem dX8_cheap_118 : decode cX8_cheap 118 = .ok (.iload 9, 2) := tb_d tk_X8_cheap_2 23 (118, .iload 9, 2) rfl
theorem dX8_cheap_120 : decode cX8_cheap 120 = .ok (.imul, 1) := tb_d tk_X8_cheap_2 24 (120, .imul, 1) rfl
theorem dX8_cheap_121 : decode cX8_cheap 121 = .ok (.iadd, 1) := tb_d tk_X8_cheap_2 25 (121, .iadd, 1) rfl
theorem dX8_cheap_122 : decode cX8_cheap 122 = .ok (.iconst 1, 1) := tb_d tk_X8_cheap_2 26 (122, .iconst 1, 1) rfl
theorem dX8_cheap_123 : decode cX8_cheap 123 = .ok (.iadd, 1) := tb_d tk_X8_cheap_2 27 (123, .iadd, 1) rfl
theorem dX8_cheap_124 : decode cX8_cheap 124 = .ok (.iaload, 1) := tb_d tk_X8_cheap_2 28 (124, .iaload, 1) rfl
theorem dX8_cheap_125 : decode cX8_cheap 125 = .ok (.goto 4, 3) := tb_d tk_X8_cheap_2 29 (125, .goto 4, 3) rfl
theorem dX8_cheap_128 : decode cX8_cheap 128 = .ok (.iconst 0, 1) := tb_d tk_X8_cheap_2 30 (128, .iconst 0, 1) rfl
theorem dX8_cheap_129 : decode cX8_cheap 129 = .ok (.iadd, 1) := tb_d tk_X8_cheap_2 31 (129, .iadd, 1) rfl
theorem dX8_cheap_130 : decode cX8_cheap 130 = .ok (.istore 7, 2) := tb_d tk_X8_cheap_2 32 (130, .istore 7, 2) rfl
theorem dX8_cheap_132 : decode cX8_cheap 132 = .ok (.iinc 9 1, 3) := tb_d tk_X8_cheap_2 33 (132, .iinc 9 1, 3) rfl
theorem dX8_cheap_135 : decode cX8_cheap 135 = .ok (.goto (-47), 3) := tb_d tk_X8_cheap_2 34 (135, .goto (-47), 3) rfl
theorem dX8_cheap_138 : decode cX8_cheap 138 = .ok (.iconst 0, 1) := tb_d tk_X8_cheap_2 35 (138, .iconst 0, 1) rfl
theorem dX8_cheap_139 : decode cX8_cheap 139 = .ok (.istore 9, 2) := tb_d tk_X8_cheap_2 36 (139, .istore 9, 2) rfl
theorem dX8_cheap_141 : decode cX8_cheap 141 = .ok (.iload 9, 2) := tb_d tk_X8_cheap_2 37 (141, .iload 9, 2) rfl
theorem dX8_cheap_143 : decode cX8_cheap 143 = .ok (.bipush 6, 2) := tb_d tk_X8_cheap_2 38 (143, .bipush 6, 2) rfl
theorem dX8_cheap_145 : decode cX8_cheap 145 = .ok (.if_icmp .ge 44, 3) := tb_d tk_X8_cheap_2 39 (145, .if_icmp .ge 44, 3) rfl
def tb_X8_cheap_3 : List (Nat × Instr × Nat) := [(148, .iload 8, 2), (150, .ifCond .eq 30, 3), (153, .aload_n 0, 1), (154, .iload_n 1, 1), (155, .iload 9, 2), (157, .iload_n 2, 1), (158, .aload_n 0, 1), (159, .getfield 25, 3), (162, .bipush 6, 2), (164, .iaload, 1), (165, .iload 6, 2), (167, .iconst (-1), 1), (168, .ixor, 1), (169, .iand, 1), (170, .invokevirtual 211, 3), (173, .ifCond .eq 7, 3), (176, .iconst 1, 1), (177, .goto 4, 3), (180, .iconst 0, 1), (181, .istore 8, 2), (183, .iinc 9 1, 3), (186, .goto (-45), 3), (189, .iload 8, 2), (191, .ifCond .eq 41, 3), (194, .iload 4, 2), (196, .ldc 50, 2), (198, .if_icmp .eq 30, 3), (201, .iload 7, 2), (203, .iload 5, 2), (205, .if_icmp .lt 23, 3), (208, .iload 7, 2), (210, .iload 5, 2), (212, .if_icmp .ne 20, 3), (215, .iload 6, 2), (217, .invokestatic 217, 3), (220, .iload 4, 2), (222, .invokestatic 217, 3), (225, .if_icmp .ge 7, 3), (228, .iconst 1, 1), (229, .goto 4, 3)]
set_option maxRecDepth 100000 in
theorem tk_X8_cheap_3 : (tb_X8_cheap_3.all fun q => decide (decode cX8_cheap q.1 = .ok q.2)) = true := by decide +kernel
theorem dX8_cheap_148 : decode cX8_cheap 148 = .ok (.iload 8, 2) := tb_d tk_X8_cheap_3 0 (148, .iload 8, 2) rfl
theorem dX8_cheap_150 : decode cX8_cheap 150 = .ok (.ifCond .eq 30, 3) := tb_d tk_X8_cheap_3 1 (150, .ifCond .eq 30, 3) rfl
theorem dX8_cheap_153 : decode cX8_cheap 153 = .ok (.aload_n 0, 1) := tb_d tk_X8_cheap_3 2 (153, .aload_n 0, 1) rfl
theorem dX8_cheap_154 : decode cX8_cheap 154 = .ok (.iload_n 1, 1) := tb_d tk_X8_cheap_3 3 (154, .iload_n 1, 1) rfl
theorem dX8_cheap_155 : decode cX8_cheap 155 = .ok (.iload 9, 2) := tb_d tk_X8_cheap_3 4 (155, .iload 9, 2) rfl
theorem dX8_cheap_157 : decode cX8_cheap 157 = .ok (.iload_n 2, 1) := tb_d tk_X8_cheap_3 5 (157, .iload_n 2, 1) rfl
theorem dX8_cheap_158 : decode cX8_cheap 158 = .ok (.aload_n 0, 1) := tb_d tk_X8_cheap_3 6 (158, .aload_n 0, 1) rfl
theorem dX8_cheap_159 : decode cX8_cheap 159 = .ok (.getfield 25, 3) := tb_d tk_X8_cheap_3 7 (159, .getfield 25, 3) rfl
theorem dX8_cheap_162 : decode cX8_cheap 162 = .ok (.bipush 6, 2) := tb_d tk_X8_cheap_3 8 (162, .bipush 6, 2) rfl
theorem dX8_cheap_164 : decode cX8_cheap 164 = .ok (.iaload, 1) := tb_d tk_X8_cheap_3 9 (164, .iaload, 1) rfl
theorem dX8_cheap_165 : decode cX8_cheap 165 = .ok (.iload 6, 2) := tb_d tk_X8_cheap_3 10 (165, .iload 6, 2) rfl
theorem dX8_cheap_167 : decode cX8_cheap 167 = .ok (.iconst (-1), 1) := tb_d tk_X8_cheap_3 11 (167, .iconst (-1), 1) rfl
theorem dX8_cheap_168 : decode cX8_cheap 168 = .ok (.ixor, 1) := tb_d tk_X8_cheap_3 12 (168, .ixor, 1) rfl
theorem dX8_cheap_169 : decode cX8_cheap 169 = .ok (.iand, 1) := tb_d tk_X8_cheap_3 13 (169, .iand, 1) rfl
theorem dX8_cheap_170 : decode cX8_cheap 170 = .ok (.invokevirtual 211, 3) := tb_d tk_X8_cheap_3 14 (170, .invokevirtual 211, 3) rfl
theorem dX8_cheap_173 : decode cX8_cheap 173 = .ok (.ifCond .eq 7, 3) := tb_d tk_X8_cheap_3 15 (173, .ifCond .eq 7, 3) rfl
theorem dX8_cheap_176 : decode cX8_cheap 176 = .ok (.iconst 1, 1) := tb_d tk_X8_cheap_3 16 (176, .iconst 1, 1) rfl
theorem dX8_cheap_177 : decode cX8_cheap 177 = .ok (.goto 4, 3) := tb_d tk_X8_cheap_3 17 (177, .goto 4, 3) rfl
theorem dX8_cheap_180 : decode cX8_cheap 180 = .ok (.iconst 0, 1) := tb_d tk_X8_cheap_3 18 (180, .iconst 0, 1) rfl
theorem dX8_cheap_181 : decode cX8_cheap 181 = .ok (.istore 8, 2) := tb_d tk_X8_cheap_3 19 (181, .istore 8, 2) rfl
theorem dX8_cheap_183 : decode cX8_cheap 183 = .ok (.iinc 9 1, 3) := tb_d tk_X8_cheap_3 20 (183, .iinc 9 1, 3) rfl
theorem dX8_cheap_186 : decode cX8_cheap 186 = .ok (.goto (-45), 3) := tb_d tk_X8_cheap_3 21 (186, .goto (-45), 3) rfl
theorem dX8_cheap_189 : decode cX8_cheap 189 = .ok (.iload 8, 2) := tb_d tk_X8_cheap_3 22 (189, .iload 8, 2) rfl
theorem dX8_cheap_191 : decode cX8_cheap 191 = .ok (.ifCond .eq 41, 3) := tb_d tk_X8_cheap_3 23 (191, .ifCond .eq 41, 3) rfl
theorem dX8_cheap_194 : decode cX8_cheap 194 = .ok (.iload 4, 2) := tb_d tk_X8_cheap_3 24 (194, .iload 4, 2) rfl
theorem dX8_cheap_196 : decode cX8_cheap 196 = .ok (.ldc 50, 2) := tb_d tk_X8_cheap_3 25 (196, .ldc 50, 2) rfl
theorem dX8_cheap_198 : decode cX8_cheap 198 = .ok (.if_icmp .eq 30, 3) := tb_d tk_X8_cheap_3 26 (198, .if_icmp .eq 30, 3) rfl
theorem dX8_cheap_201 : decode cX8_cheap 201 = .ok (.iload 7, 2) := tb_d tk_X8_cheap_3 27 (201, .iload 7, 2) rfl
theorem dX8_cheap_203 : decode cX8_cheap 203 = .ok (.iload 5, 2) := tb_d tk_X8_cheap_3 28 (203, .iload 5, 2) rfl
theorem dX8_cheap_205 : decode cX8_cheap 205 = .ok (.if_icmp .lt 23, 3) := tb_d tk_X8_cheap_3 29 (205, .if_icmp .lt 23, 3) rfl
theorem dX8_cheap_208 : decode cX8_cheap 208 = .ok (.iload 7, 2) := tb_d tk_X8_cheap_3 30 (208, .iload 7, 2) rfl
theorem dX8_cheap_210 : decode cX8_cheap 210 = .ok (.iload 5, 2) := tb_d tk_X8_cheap_3 31 (210, .iload 5, 2) rfl
theorem dX8_cheap_212 : decode cX8_cheap 212 = .ok (.if_icmp .ne 20, 3) := tb_d tk_X8_cheap_3 32 (212, .if_icmp .ne 20, 3) rfl
theorem dX8_cheap_215 : decode cX8_cheap 215 = .ok (.iload 6, 2) := tb_d tk_X8_cheap_3 33 (215, .iload 6, 2) rfl
theorem dX8_cheap_217 : decode cX8_cheap 217 = .ok (.invokestatic 217, 3) := tb_d tk_X8_cheap_3 34 (217, .invokestatic 217, 3) rfl
theorem dX8_cheap_220 : decode cX8_cheap 220 = .ok (.iload 4, 2) := tb_d tk_X8_cheap_3 35 (220, .iload 4, 2) rfl
theorem dX8_cheap_222 : decode cX8_cheap 222 = .ok (.invokestatic 217, 3) := tb_d tk_X8_cheap_3 36 (222, .invokestatic 217, 3) rfl
theorem dX8_cheap_225 : decode cX8_cheap 225 = .ok (.if_icmp .ge 7, 3) := tb_d tk_X8_cheap_3 37 (225, .if_icmp .ge 7, 3) rfl
theorem dX8_cheap_228 : decode cX8_cheap 228 = .ok (.iconst 1, 1) := tb_d tk_X8_cheap_3 38 (228, .iconst 1, 1) rfl
theorem dX8_cheap_229 : decode cX8_cheap 229 = .ok (.goto 4, 3) := tb_d tk_X8_cheap_3 39 (229, .goto 4, 3) rfl
def tb_X8_cheap_4 : List (Nat × Instr × Nat) := [(232, .iconst 0, 1), (233, .istore 9, 2), (235, .iload 9, 2), (237, .ifCond .eq 8, 3), (240, .iload 6, 2), (242, .goto 5, 3), (245, .iload 4, 2), (247, .istore 4, 2), (249, .iload 9, 2), (251, .ifCond .eq 8, 3), (254, .iload 7, 2), (256, .goto 5, 3), (259, .iload 5, 2), (261, .istore 5, 2), (263, .iinc 6 1, 3), (266, .goto (-218), 3), (269, .iload_n 3, 1), (270, .ifCond .ne 8, 3), (273, .iload 5, 2), (275, .goto 5, 3), (278, .iload 4, 2), (280, .ireturn, 1)]
set_option maxRecDepth 100000 in
theorem tk_X8_cheap_4 : (tb_X8_cheap_4.all fun q => decide (decode cX8_cheap q.1 = .ok q.2)) = true := by decide +kernel
theorem dX8_cheap_232 : decode cX8_cheap 232 = .ok (.iconst 0, 1) := tb_d tk_X8_cheap_4 0 (232, .iconst 0, 1) rfl
theorem dX8_cheap_233 : decode cX8_cheap 233 = .ok (.istore 9, 2) := tb_d tk_X8_cheap_4 1 (233, .istore 9, 2) rfl
theorem dX8_cheap_235 : decode cX8_cheap 235 = .ok (.iload 9, 2) := tb_d tk_X8_cheap_4 2 (235, .iload 9, 2) rfl
theorem dX8_cheap_237 : decode cX8_cheap 237 = .ok (.ifCond .eq 8, 3) := tb_d tk_X8_cheap_4 3 (237, .ifCond .eq 8, 3) rfl
theorem dX8_cheap_240 : decode cX8_cheap 240 = .ok (.iload 6, 2) := tb_d tk_X8_cheap_4 4 (240, .iload 6, 2) rfl
theorem dX8_cheap_242 : decode cX8_cheap 242 = .ok (.goto 5, 3) := tb_d tk_X8_cheap_4 5 (242, .goto 5, 3) rfl
theorem dX8_cheap_245 : decode cX8_cheap 245 = .ok (.iload 4, 2) := tb_d tk_X8_cheap_4 6 (245, .iload 4, 2) rfl
theorem dX8_cheap_247 : decode cX8_cheap 247 = .ok (.istore 4, 2) := tb_d tk_X8_cheap_4 7 (247, .istore 4, 2) rfl
theorem dX8_cheap_249 : decode cX8_cheap 249 = .ok (.iload 9, 2) := tb_d tk_X8_cheap_4 8 (249, .iload 9, 2) rfl
theorem dX8_cheap_251 : decode cX8_cheap 251 = .ok (.ifCond .eq 8, 3) := tb_d tk_X8_cheap_4 9 (251, .ifCond .eq 8, 3) rfl
theorem dX8_cheap_254 : decode cX8_cheap 254 = .ok (.iload 7, 2) := tb_d tk_X8_cheap_4 10 (254, .iload 7, 2) rfl
theorem dX8_cheap_256 : decode cX8_cheap 256 = .ok (.goto 5, 3) := tb_d tk_X8_cheap_4 11 (256, .goto 5, 3) rfl
theorem dX8_cheap_259 : decode cX8_cheap 259 = .ok (.iload 5, 2) := tb_d tk_X8_cheap_4 12 (259, .iload 5, 2) rfl
theorem dX8_cheap_261 : decode cX8_cheap 261 = .ok (.istore 5, 2) := tb_d tk_X8_cheap_4 13 (261, .istore 5, 2) rfl
theorem dX8_cheap_263 : decode cX8_cheap 263 = .ok (.iinc 6 1, 3) := tb_d tk_X8_cheap_4 14 (263, .iinc 6 1, 3) rfl
theorem dX8_cheap_266 : decode cX8_cheap 266 = .ok (.goto (-218), 3) := tb_d tk_X8_cheap_4 15 (266, .goto (-218), 3) rfl
theorem dX8_cheap_269 : decode cX8_cheap 269 = .ok (.iload_n 3, 1) := tb_d tk_X8_cheap_4 16 (269, .iload_n 3, 1) rfl
theorem dX8_cheap_270 : decode cX8_cheap 270 = .ok (.ifCond .ne 8, 3) := tb_d tk_X8_cheap_4 17 (270, .ifCond .ne 8, 3) rfl
theorem dX8_cheap_273 : decode cX8_cheap 273 = .ok (.iload 5, 2) := tb_d tk_X8_cheap_4 18 (273, .iload 5, 2) rfl
theorem dX8_cheap_275 : decode cX8_cheap 275 = .ok (.goto 5, 3) := tb_d tk_X8_cheap_4 19 (275, .goto 5, 3) rfl
theorem dX8_cheap_278 : decode cX8_cheap 278 = .ok (.iload 4, 2) := tb_d tk_X8_cheap_4 20 (278, .iload 4, 2) rfl
theorem dX8_cheap_280 : decode cX8_cheap 280 = .ok (.ireturn, 1) := tb_d tk_X8_cheap_4 21 (280, .ireturn, 1) rfl
theorem ggX8_near_X8_isWord : GoodIn wsX8_near wsX8_isWord := fun w h => ⟨List.mem_cons_of_mem _ (List.mem_append_right _ (List.mem_append_right _ (List.mem_append_right _ (List.mem_append_right _ (List.mem_append_right _ (List.mem_append_left _ h)))))), good_of_word (gdX8_isWord w h)⟩
set_option maxRecDepth 20000 in
theorem gX8_near_X8_isWord : GoodIn wsX8_near (wsV RX8 190 RX8 yX8_isWord wsX8_isWord) := goodIn_app (a := bkV RX8 190 RX8 yX8_isWord) (fun w h => ⟨List.mem_cons_of_mem _ (List.mem_append_right _ (List.mem_append_left _ h)), good_of_word (gd_bV _ _ _ _ w h)⟩) ggX8_near_X8_isWord
theorem ggX8_near_X8_in : GoodIn wsX8_near wsX8_in := fun w h => ⟨List.mem_cons_of_mem _ (List.mem_append_right _ (List.mem_append_right _ (List.mem_append_right _ (List.mem_append_right _ (List.mem_append_right _ (List.mem_append_right _ (List.mem_append_left _ h))))))), good_of_word (gdX8_in w h)⟩
set_option maxRecDepth 20000 in
theorem gX8_near_X8_in : GoodIn wsX8_near (va_wsS RX8 56 yX8_in wsX8_in) := goodIn_app (a := bkS RX8 56 yX8_in) (fun w h => ⟨List.mem_cons_of_mem _ (List.mem_append_right _ (List.mem_append_right _ (List.mem_append_left _ h))), good_of_word (gd_bS _ _ _ w h)⟩) ggX8_near_X8_in
theorem ggX8_near_X8_distance : GoodIn wsX8_near wsX8_distance := fun w h => ⟨List.mem_cons_of_mem _ (List.mem_append_right _ (List.mem_append_right _ (List.mem_append_right _ (List.mem_append_right _ (List.mem_append_right _ (List.mem_append_right _ (List.mem_append_right _ (List.mem_append_left _ h)))))))), good_of_word (gdX8_distance w h)⟩
set_option maxRecDepth 20000 in
theorem gX8_near_X8_distance : GoodIn wsX8_near (wsV RX8 152 RX8 yX8_distance wsX8_distance) := goodIn_app (a := bkV RX8 152 RX8 yX8_distance) (fun w h => ⟨List.mem_cons_of_mem _ (List.mem_append_right _ (List.mem_append_right _ (List.mem_append_right _ (List.mem_append_left _ h)))), good_of_word (gd_bV _ _ _ _ w h)⟩) ggX8_near_X8_distance
def tb_X8_near_1 : List (Nat × Instr × Nat) := [(0, .aload_n 0, 1), (1, .iload_n 1, 1), (2, .invokevirtual 190, 3), (5, .ifCond .eq 12, 3), (8, .iload_n 2, 1), (9, .iconst 0, 1), (10, .iconst 1, 1), (11, .invokestatic 56, 3), (14, .ifCond .ne 6, 3), (17, .ldc 64, 2), (19, .ireturn, 1), (20, .ldc 50, 2), (22, .istore_n 3, 1), (23, .iconst 0, 1), (24, .istore 4, 2), (26, .iload 4, 2), (28, .aload_n 0, 1), (29, .getfield 25, 3), (32, .iconst 3, 1), (33, .iaload, 1), (34, .if_icmp .ge 44, 3), (37, .iload 4, 2), (39, .iload_n 1, 1), (40, .if_icmp .eq 30, 3), (43, .iload_n 3, 1), (44, .ldc 50, 2), (46, .if_icmp .eq 19, 3), (49, .aload_n 0, 1), (50, .iload 4, 2), (52, .iload_n 1, 1), (53, .invokevirtual 152, 3), (56, .aload_n 0, 1), (57, .iload_n 3, 1), (58, .iload_n 1, 1), (59, .invokevirtual 152, 3), (62, .if_icmp .ge 8, 3), (65, .iload 4, 2), (67, .goto 4, 3), (70, .iload_n 3, 1), (71, .istore_n 3, 1)]
set_option maxRecDepth 100000 in
theorem tk_X8_near_1 : (tb_X8_near_1.all fun q => decide (decode cX8_near q.1 = .ok q.2)) = true := by decide +kernel
theorem dX8_near_0 : decode cX8_near 0 = .ok (.aload_n 0, 1) := tb_d tk_X8_near_1 0 (0, .aload_n 0, 1) rfl
theorem dX8_near_1 : decode cX8_near 1 = .ok (.iload_n 1, 1) := tb_d tk_X8_near_1 1 (1, .iload_n 1, 1) rfl
theorem dX8_near_2 : decode cX8_near 2 = .ok (.invokevirtual 190, 3) := tb_d tk_X8_near_1 2 (2, .invokevirtual 190, 3) rfl
theorem dX8_near_5 : decode cX8_near 5 = .ok (.ifCond .eq 12, 3) := tb_d tk_X8_near_1 3 (5, .ifCond .eq 12, 3) rfl
theorem dX8_near_8 : decode cX8_near 8 = .ok (.iload_n 2, 1) := tb_d tk_X8_near_1 4 (8, .iload_n 2, 1) rfl
theorem dX8_near_9 : decode cX8_near 9 = .ok (.iconst 0, 1) := tb_d tk_X8_near_1 5 (9, .iconst 0, 1) rfl
theorem dX8_near_10 : decode cX8_near 10 = .ok (.iconst 1, 1) := tb_d tk_X8_near_1 6 (10, .iconst 1, 1) rfl
theorem dX8_near_11 : decode cX8_near 11 = .ok (.invokestatic 56, 3) := tb_d tk_X8_near_1 7 (11, .invokestatic 56, 3) rfl
theorem dX8_near_14 : decode cX8_near 14 = .ok (.ifCond .ne 6, 3) := tb_d tk_X8_near_1 8 (14, .ifCond .ne 6, 3) rfl
theorem dX8_near_17 : decode cX8_near 17 = .ok (.ldc 64, 2) := tb_d tk_X8_near_1 9 (17, .ldc 64, 2) rfl
theorem dX8_near_19 : decode cX8_near 19 = .ok (.ireturn, 1) := tb_d tk_X8_near_1 10 (19, .ireturn, 1) rfl
theorem dX8_near_20 : decode cX8_near 20 = .ok (.ldc 50, 2) := tb_d tk_X8_near_1 11 (20, .ldc 50, 2) rfl
theorem dX8_near_22 : decode cX8_near 22 = .ok (.istore_n 3, 1) := tb_d tk_X8_near_1 12 (22, .istore_n 3, 1) rfl
theorem dX8_near_23 : decode cX8_near 23 = .ok (.iconst 0, 1) := tb_d tk_X8_near_1 13 (23, .iconst 0, 1) rfl
theorem dX8_near_24 : decode cX8_near 24 = .ok (.istore 4, 2) := tb_d tk_X8_near_1 14 (24, .istore 4, 2) rfl
theorem dX8_near_26 : decode cX8_near 26 = .ok (.iload 4, 2) := tb_d tk_X8_near_1 15 (26, .iload 4, 2) rfl
theorem dX8_near_28 : decode cX8_near 28 = .ok (.aload_n 0, 1) := tb_d tk_X8_near_1 16 (28, .aload_n 0, 1) rfl
theorem dX8_near_29 : decode cX8_near 29 = .ok (.getfield 25, 3) := tb_d tk_X8_near_1 17 (29, .getfield 25, 3) rfl
theorem dX8_near_32 : decode cX8_near 32 = .ok (.iconst 3, 1) := tb_d tk_X8_near_1 18 (32, .iconst 3, 1) rfl
theorem dX8_near_33 : decode cX8_near 33 = .ok (.iaload, 1) := tb_d tk_X8_near_1 19 (33, .iaload, 1) rfl
theorem dX8_near_34 : decode cX8_near 34 = .ok (.if_icmp .ge 44, 3) := tb_d tk_X8_near_1 20 (34, .if_icmp .ge 44, 3) rfl
theorem dX8_near_37 : decode cX8_near 37 = .ok (.iload 4, 2) := tb_d tk_X8_near_1 21 (37, .iload 4, 2) rfl
theorem dX8_near_39 : decode cX8_near 39 = .ok (.iload_n 1, 1) := tb_d tk_X8_near_1 22 (39, .iload_n 1, 1) rfl
theorem dX8_near_40 : decode cX8_near 40 = .ok (.if_icmp .eq 30, 3) := tb_d tk_X8_near_1 23 (40, .if_icmp .eq 30, 3) rfl
theorem dX8_near_43 : decode cX8_near 43 = .ok (.iload_n 3, 1) := tb_d tk_X8_near_1 24 (43, .iload_n 3, 1) rfl
theorem dX8_near_44 : decode cX8_near 44 = .ok (.ldc 50, 2) := tb_d tk_X8_near_1 25 (44, .ldc 50, 2) rfl
theorem dX8_near_46 : decode cX8_near 46 = .ok (.if_icmp .eq 19, 3) := tb_d tk_X8_near_1 26 (46, .if_icmp .eq 19, 3) rfl
theorem dX8_near_49 : decode cX8_near 49 = .ok (.aload_n 0, 1) := tb_d tk_X8_near_1 27 (49, .aload_n 0, 1) rfl
theorem dX8_near_50 : decode cX8_near 50 = .ok (.iload 4, 2) := tb_d tk_X8_near_1 28 (50, .iload 4, 2) rfl
theorem dX8_near_52 : decode cX8_near 52 = .ok (.iload_n 1, 1) := tb_d tk_X8_near_1 29 (52, .iload_n 1, 1) rfl
theorem dX8_near_53 : decode cX8_near 53 = .ok (.invokevirtual 152, 3) := tb_d tk_X8_near_1 30 (53, .invokevirtual 152, 3) rfl
theorem dX8_near_56 : decode cX8_near 56 = .ok (.aload_n 0, 1) := tb_d tk_X8_near_1 31 (56, .aload_n 0, 1) rfl
theorem dX8_near_57 : decode cX8_near 57 = .ok (.iload_n 3, 1) := tb_d tk_X8_near_1 32 (57, .iload_n 3, 1) rfl
theorem dX8_near_58 : decode cX8_near 58 = .ok (.iload_n 1, 1) := tb_d tk_X8_near_1 33 (58, .iload_n 1, 1) rfl
theorem dX8_near_59 : decode cX8_near 59 = .ok (.invokevirtual 152, 3) := tb_d tk_X8_near_1 34 (59, .invokevirtual 152, 3) rfl
theorem dX8_near_62 : decode cX8_near 62 = .ok (.if_icmp .ge 8, 3) := tb_d tk_X8_near_1 35 (62, .if_icmp .ge 8, 3) rfl
theorem dX8_near_65 : decode cX8_near 65 = .ok (.iload 4, 2) := tb_d tk_X8_near_1 36 (65, .iload 4, 2) rfl
theorem dX8_near_67 : decode cX8_near 67 = .ok (.goto 4, 3) := tb_d tk_X8_near_1 37 (67, .goto 4, 3) rfl
theorem dX8_near_70 : decode cX8_near 70 = .ok (.iload_n 3, 1) := tb_d tk_X8_near_1 38 (70, .iload_n 3, 1) rfl
theorem dX8_near_71 : decode cX8_near 71 = .ok (.istore_n 3, 1) := tb_d tk_X8_near_1 39 (71, .istore_n 3, 1) rfl
def tb_X8_near_2 : List (Nat × Instr × Nat) := [(72, .iinc 4 1, 3), (75, .goto (-49), 3), (78, .iload_n 3, 1), (79, .ldc 50, 2), (81, .if_icmp .eq 7, 3), (84, .iload_n 2, 1), (85, .ifCond .ne 7, 3), (88, .iload_n 3, 1), (89, .goto 9, 3), (92, .aload_n 0, 1), (93, .iload_n 3, 1), (94, .iload_n 1, 1), (95, .invokevirtual 152, 3), (98, .ireturn, 1)]
set_option maxRecDepth 100000 in
theorem tk_X8_near_2 : (tb_X8_near_2.all fun q => decide (decode cX8_near q.1 = .ok q.2)) = true := by decide +kernel
theorem dX8_near_72 : decode cX8_near 72 = .ok (.iinc 4 1, 3) := tb_d tk_X8_near_2 0 (72, .iinc 4 1, 3) rfl
theorem dX8_near_75 : decode cX8_near 75 = .ok (.goto (-49), 3) := tb_d tk_X8_near_2 1 (75, .goto (-49), 3) rfl
theorem dX8_near_78 : decode cX8_near 78 = .ok (.iload_n 3, 1) := tb_d tk_X8_near_2 2 (78, .iload_n 3, 1) rfl
theorem dX8_near_79 : decode cX8_near 79 = .ok (.ldc 50, 2) := tb_d tk_X8_near_2 3 (79, .ldc 50, 2) rfl
theorem dX8_near_81 : decode cX8_near 81 = .ok (.if_icmp .eq 7, 3) := tb_d tk_X8_near_2 4 (81, .if_icmp .eq 7, 3) rfl
theorem dX8_near_84 : decode cX8_near 84 = .ok (.iload_n 2, 1) := tb_d tk_X8_near_2 5 (84, .iload_n 2, 1) rfl
theorem dX8_near_85 : decode cX8_near 85 = .ok (.ifCond .ne 7, 3) := tb_d tk_X8_near_2 6 (85, .ifCond .ne 7, 3) rfl
theorem dX8_near_88 : decode cX8_near 88 = .ok (.iload_n 3, 1) := tb_d tk_X8_near_2 7 (88, .iload_n 3, 1) rfl
theorem dX8_near_89 : decode cX8_near 89 = .ok (.goto 9, 3) := tb_d tk_X8_near_2 8 (89, .goto 9, 3) rfl
theorem dX8_near_92 : decode cX8_near 92 = .ok (.aload_n 0, 1) := tb_d tk_X8_near_2 9 (92, .aload_n 0, 1) rfl
theorem dX8_near_93 : decode cX8_near 93 = .ok (.iload_n 3, 1) := tb_d tk_X8_near_2 10 (93, .iload_n 3, 1) rfl
theorem dX8_near_94 : decode cX8_near 94 = .ok (.iload_n 1, 1) := tb_d tk_X8_near_2 11 (94, .iload_n 1, 1) rfl
theorem dX8_near_95 : decode cX8_near 95 = .ok (.invokevirtual 152, 3) := tb_d tk_X8_near_2 12 (95, .invokevirtual 152, 3) rfl
theorem dX8_near_98 : decode cX8_near 98 = .ok (.ireturn, 1) := tb_d tk_X8_near_2 13 (98, .ireturn, 1) rfl
theorem ggX8_rules_X8_isGate : GoodIn wsX8_rules wsX8_isGate := fun w h => ⟨List.mem_cons_of_mem _ (List.mem_append_right _ (List.mem_append_right _ (List.mem_append_right _ (List.mem_append_right _ (List.mem_append_right _ (List.mem_append_right _ (List.mem_append_right _ (List.mem_append_right _ (List.mem_append_right _ (List.mem_append_right _ (List.mem_append_right _ (List.mem_append_left _ h)))))))))))), good_of_word (gdX8_isGate w h)⟩
set_option maxRecDepth 20000 in
theorem gX8_rules_X8_isGate : GoodIn wsX8_rules (wsV RX8 180 RX8 yX8_isGate wsX8_isGate) := goodIn_app (a := bkV RX8 180 RX8 yX8_isGate) (fun w h => ⟨List.mem_cons_of_mem _ (List.mem_append_right _ (List.mem_append_left _ h)), good_of_word (gd_bV _ _ _ _ w h)⟩) ggX8_rules_X8_isGate
theorem ggX8_rules_X8_isRow : GoodIn wsX8_rules wsX8_isRow := fun w h => ⟨List.mem_cons_of_mem _ (List.mem_append_right _ (List.mem_append_right _ (List.mem_append_right _ (List.mem_append_right _ (List.mem_append_right _ (List.mem_append_right _ (List.mem_append_right _ (List.mem_append_right _ (List.mem_append_right _ (List.mem_append_right _ (List.mem_append_right _ (List.mem_append_right _ (List.mem_append_left _ h))))))))))))), good_of_word (gdX8_isRow w h)⟩
set_option maxRecDepth 20000 in
theorem gX8_rules_X8_isRow : GoodIn wsX8_rules (va_wsS RX8 60 yX8_isRow wsX8_isRow) := goodIn_app (a := bkS RX8 60 yX8_isRow) (fun w h => ⟨List.mem_cons_of_mem _ (List.mem_append_right _ (List.mem_append_right _ (List.mem_append_left _ h))), good_of_word (gd_bS _ _ _ w h)⟩) ggX8_rules_X8_isRow
theorem ggX8_rules_X8_in : GoodIn wsX8_rules wsX8_in := fun w h => ⟨List.mem_cons_of_mem _ (List.mem_append_right _ (List.mem_append_right _ (List.mem_append_right _ (List.mem_append_right _ (List.mem_append_right _ (List.mem_append_right _ (List.mem_append_right _ (List.mem_append_right _ (List.mem_append_right _ (List.mem_append_right _ (List.mem_append_right _ (List.mem_append_right _ (List.mem_append_right _ (List.mem_append_left _ h)))))))))))))), good_of_word (gdX8_in w h)⟩
set_option maxRecDepth 20000 in
theorem gX8_rules_X8_in : GoodIn wsX8_rules (va_wsS RX8 56 yX8_in wsX8_in) := goodIn_app (a := bkS RX8 56 yX8_in) (fun w h => ⟨List.mem_cons_of_mem _ (List.mem_append_right _ (List.mem_append_right _ (List.mem_append_right _ (List.mem_append_left _ h)))), good_of_word (gd_bS _ _ _ w h)⟩) ggX8_rules_X8_in
theorem ggX8_rules_X8_isMissing : GoodIn wsX8_rules wsX8_isMissing := fun w h => ⟨List.mem_cons_of_mem _ (List.mem_append_right _ (List.mem_append_right _ (List.mem_append_right _ (List.mem_append_right _ (List.mem_append_right _ (List.mem_append_right _ (List.mem_append_right _ (List.mem_append_right _ (List.mem_append_right _ (List.mem_append_right _ (List.mem_append_right _ (List.mem_append_right _ (List.mem_append_right _ (List.mem_append_right _ (List.mem_append_left _ h))))))))))))))), good_of_word (gdX8_isMissing w h)⟩
set_option maxRecDepth 20000 in
theorem gX8_rules_X8_isMissing : GoodIn wsX8_rules (wsV RX8 72 RX8 yX8_isMissing wsX8_isMissing) := goodIn_app (a := bkV RX8 72 RX8 yX8_isMissing) (fun w h => ⟨List.mem_cons_of_mem _ (List.mem_append_right _ (List.mem_append_right _ (List.mem_append_right _ (List.mem_append_right _ (List.mem_append_left _ h))))), good_of_word (gd_bV _ _ _ _ w h)⟩) ggX8_rules_X8_isMissing
theorem ggX8_rules_X8_found : GoodIn wsX8_rules wsX8_found := fun w h => ⟨List.mem_cons_of_mem _ (List.mem_append_right _ (List.mem_append_right _ (List.mem_append_right _ (List.mem_append_right _ (List.mem_append_right _ (List.mem_append_right _ (List.mem_append_right _ (List.mem_append_right _ (List.mem_append_right _ (List.mem_append_right _ (List.mem_append_right _ (List.mem_append_right _ (List.mem_append_right _ (List.mem_append_right _ (List.mem_append_right _ (List.mem_append_left _ h)))))))))))))))), good_of_word (gdX8_found w h)⟩
set_option maxRecDepth 20000 in
theorem gX8_rules_X8_found : GoodIn wsX8_rules (wsV RX8 65 RX8 yX8_found wsX8_found) := goodIn_app (a := bkV RX8 65 RX8 yX8_found) (fun w h => ⟨List.mem_cons_of_mem _ (List.mem_append_right _ (List.mem_append_right _ (List.mem_append_right _ (List.mem_append_right _ (List.mem_append_right _ (List.mem_append_left _ h)))))), good_of_word (gd_bV _ _ _ _ w h)⟩) ggX8_rules_X8_found
theorem ggX8_rules_X8_isPart : GoodIn wsX8_rules wsX8_isPart := fun w h => ⟨List.mem_cons_of_mem _ (List.mem_append_right _ (List.mem_append_right _ (List.mem_append_right _ (List.mem_append_right _ (List.mem_append_right _ (List.mem_append_right _ (List.mem_append_right _ (List.mem_append_right _ (List.mem_append_right _ (List.mem_append_right _ (List.mem_append_right _ (List.mem_append_right _ (List.mem_append_right _ (List.mem_append_right _ (List.mem_append_right _ (List.mem_append_right _ (List.mem_append_left _ h))))))))))))))))), good_of_word (gdX8_isPart w h)⟩
set_option maxRecDepth 20000 in
theorem gX8_rules_X8_isPart : GoodIn wsX8_rules (wsV RX8 79 RX8 yX8_isPart wsX8_isPart) := goodIn_app (a := bkV RX8 79 RX8 yX8_isPart) (fun w h => ⟨List.mem_cons_of_mem _ (List.mem_append_right _ (List.mem_append_right _ (List.mem_append_right _ (List.mem_append_right _ (List.mem_append_right _ (List.mem_append_right _ (List.mem_append_left _ h))))))), good_of_word (gd_bV _ _ _ _ w h)⟩) ggX8_rules_X8_isPart
theorem ggX8_rules_X8_copies : GoodIn wsX8_rules wsX8_copies := fun w h => ⟨List.mem_cons_of_mem _ (List.mem_append_right _ (List.mem_append_right _ (List.mem_append_right _ (List.mem_append_right _ (List.mem_append_right _ (List.mem_append_right _ (List.mem_append_right _ (List.mem_append_right _ (List.mem_append_right _ (List.mem_append_right _ (List.mem_append_right _ (List.mem_append_right _ (List.mem_append_right _ (List.mem_append_right _ (List.mem_append_right _ (List.mem_append_right _ (List.mem_append_right _ (List.mem_append_left _ h)))))))))))))))))), good_of_word (gdX8_copies w h)⟩
set_option maxRecDepth 20000 in
theorem gX8_rules_X8_copies : GoodIn wsX8_rules (va_wsS RX8 145 yX8_copies wsX8_copies) := goodIn_app (a := bkS RX8 145 yX8_copies) (fun w h => ⟨List.mem_cons_of_mem _ (List.mem_append_right _ (List.mem_append_right _ (List.mem_append_right _ (List.mem_append_right _ (List.mem_append_right _ (List.mem_append_right _ (List.mem_append_right _ (List.mem_append_left _ h)))))))), good_of_word (gd_bS _ _ _ w h)⟩) ggX8_rules_X8_copies
theorem ggX8_rules_X8_secretOf : GoodIn wsX8_rules wsX8_secretOf := fun w h => ⟨List.mem_cons_of_mem _ (List.mem_append_right _ (List.mem_append_right _ (List.mem_append_right _ (List.mem_append_right _ (List.mem_append_right _ (List.mem_append_right _ (List.mem_append_right _ (List.mem_append_right _ (List.mem_append_right _ (List.mem_append_right _ (List.mem_append_right _ (List.mem_append_right _ (List.mem_append_right _ (List.mem_append_right _ (List.mem_append_right _ (List.mem_append_right _ (List.mem_append_right _ (List.mem_append_right _ (List.mem_append_left _ h))))))))))))))))))), good_of_word (gdX8_secretOf w h)⟩
set_option maxRecDepth 20000 in
theorem gX8_rules_X8_secretOf : GoodIn wsX8_rules (va_wsS RX8 172 yX8_secretOf wsX8_secretOf) := goodIn_app (a := bkS RX8 172 yX8_secretOf) (fun w h => ⟨List.mem_cons_of_mem _ (List.mem_append_right _ (List.mem_append_right _ (List.mem_append_right _ (List.mem_append_right _ (List.mem_append_right _ (List.mem_append_right _ (List.mem_append_right _ (List.mem_append_right _ (List.mem_append_left _ h))))))))), good_of_word (gd_bS _ _ _ w h)⟩) ggX8_rules_X8_secretOf
theorem ggX8_rules_X8_well : GoodIn wsX8_rules wsX8_well := fun w h => ⟨List.mem_cons_of_mem _ (List.mem_append_right _ (List.mem_append_right _ (List.mem_append_right _ (List.mem_append_right _ (List.mem_append_right _ (List.mem_append_right _ (List.mem_append_right _ (List.mem_append_right _ (List.mem_append_right _ (List.mem_append_right _ (List.mem_append_right _ (List.mem_append_right _ (List.mem_append_right _ (List.mem_append_right _ (List.mem_append_right _ (List.mem_append_right _ (List.mem_append_right _ (List.mem_append_right _ (List.mem_append_right _ (List.mem_append_left _ h)))))))))))))))))))), good_of_word (gdX8_well w h)⟩
set_option maxRecDepth 20000 in
theorem gX8_rules_X8_well : GoodIn wsX8_rules (wsV RX8 69 RX8 yX8_well wsX8_well) := goodIn_app (a := bkV RX8 69 RX8 yX8_well) (fun w h => ⟨List.mem_cons_of_mem _ (List.mem_append_right _ (List.mem_append_right _ (List.mem_append_right _ (List.mem_append_right _ (List.mem_append_right _ (List.mem_append_right _ (List.mem_append_right _ (List.mem_append_right _ (List.mem_append_right _ (List.mem_append_left _ h)))))))))), good_of_word (gd_bV _ _ _ _ w h)⟩) ggX8_rules_X8_well
def tb_X8_rules_1 : List (Nat × Instr × Nat) := [(0, .aload_n 0, 1), (1, .invokevirtual 180, 3), (4, .ifCond .ne 6, 3), (7, .ldc 183, 2), (9, .ireturn, 1), (10, .iload_n 1, 1), (11, .invokestatic 60, 3), (14, .ifCond .eq 23, 3), (17, .iload_n 3, 1), (18, .iconst 1, 1), (19, .bipush 16, 2), (21, .invokestatic 56, 3), (24, .ifCond .eq 13, 3), (27, .iload 4, 2), (29, .iconst 0, 1), (30, .iconst 2, 1), (31, .invokestatic 56, 3), (34, .ifCond .ne 6, 3), (37, .ldc 64, 2), (39, .ireturn, 1), (40, .aload_n 0, 1), (41, .iload_n 1, 1), (42, .invokevirtual 72, 3), (45, .ifCond .eq 9, 3), (48, .aload_n 0, 1), (49, .iconst 1, 1), (50, .invokevirtual 65, 3), (53, .ireturn, 1), (54, .aload_n 0, 1), (55, .iload_n 1, 1), (56, .iload_n 2, 1), (57, .iload_n 3, 1), (58, .invokevirtual 79, 3), (61, .ifCond .ne 9, 3), (64, .aload_n 0, 1), (65, .iconst 2, 1), (66, .invokevirtual 65, 3), (69, .ireturn, 1), (70, .iconst 0, 1), (71, .istore 5, 2)]
set_option maxRecDepth 100000 in
theorem tk_X8_rules_1 : (tb_X8_rules_1.all fun q => decide (decode cX8_rules q.1 = .ok q.2)) = true := by decide +kernel
theorem dX8_rules_0 : decode cX8_rules 0 = .ok (.aload_n 0, 1) := tb_d tk_X8_rules_1 0 (0, .aload_n 0, 1) rfl
theorem dX8_rules_1 : decode cX8_rules 1 = .ok (.invokevirtual 180, 3) := tb_d tk_X8_rules_1 1 (1, .invokevirtual 180, 3) rfl
theorem dX8_rules_4 : decode cX8_rules 4 = .ok (.ifCond .ne 6, 3) := tb_d tk_X8_rules_1 2 (4, .ifCond .ne 6, 3) rfl
theorem dX8_rules_7 : decode cX8_rules 7 = .ok (.ldc 183, 2) := tb_d tk_X8_rules_1 3 (7, .ldc 183, 2) rfl
theorem dX8_rules_9 : decode cX8_rules 9 = .ok (.ireturn, 1) := tb_d tk_X8_rules_1 4 (9, .ireturn, 1) rfl
theorem dX8_rules_10 : decode cX8_rules 10 = .ok (.iload_n 1, 1) := tb_d tk_X8_rules_1 5 (10, .iload_n 1, 1) rfl
theorem dX8_rules_11 : decode cX8_rules 11 = .ok (.invokestatic 60, 3) := tb_d tk_X8_rules_1 6 (11, .invokestatic 60, 3) rfl
theorem dX8_rules_14 : decode cX8_rules 14 = .ok (.ifCond .eq 23, 3) := tb_d tk_X8_rules_1 7 (14, .ifCond .eq 23, 3) rfl
theorem dX8_rules_17 : decode cX8_rules 17 = .ok (.iload_n 3, 1) := tb_d tk_X8_rules_1 8 (17, .iload_n 3, 1) rfl
theorem dX8_rules_18 : decode cX8_rules 18 = .ok (.iconst 1, 1) := tb_d tk_X8_rules_1 9 (18, .iconst 1, 1) rfl
theorem dX8_rules_19 : decode cX8_rules 19 = .ok (.bipush 16, 2) := tb_d tk_X8_rules_1 10 (19, .bipush 16, 2) rfl
theorem dX8_rules_21 : decode cX8_rules 21 = .ok (.invokestatic 56, 3) := tb_d tk_X8_rules_1 11 (21, .invokestatic 56, 3) rfl
theorem dX8_rules_24 : decode cX8_rules 24 = .ok (.ifCond .eq 13, 3) := tb_d tk_X8_rules_1 12 (24, .ifCond .eq 13, 3) rfl
theorem dX8_rules_27 : decode cX8_rules 27 = .ok (.iload 4, 2) := tb_d tk_X8_rules_1 13 (27, .iload 4, 2) rfl
theorem dX8_rules_29 : decode cX8_rules 29 = .ok (.iconst 0, 1) := tb_d tk_X8_rules_1 14 (29, .iconst 0, 1) rfl
theorem dX8_rules_30 : decode cX8_rules 30 = .ok (.iconst 2, 1) := tb_d tk_X8_rules_1 15 (30, .iconst 2, 1) rfl
theorem dX8_rules_31 : decode cX8_rules 31 = .ok (.invokestatic 56, 3) := tb_d tk_X8_rules_1 16 (31, .invokestatic 56, 3) rfl
theorem dX8_rules_34 : decode cX8_rules 34 = .ok (.ifCond .ne 6, 3) := tb_d tk_X8_rules_1 17 (34, .ifCond .ne 6, 3) rfl
theorem dX8_rules_37 : decode cX8_rules 37 = .ok (.ldc 64, 2) := tb_d tk_X8_rules_1 18 (37, .ldc 64, 2) rfl
theorem dX8_rules_39 : decode cX8_rules 39 = .ok (.ireturn, 1) := tb_d tk_X8_rules_1 19 (39, .ireturn, 1) rfl
theorem dX8_rules_40 : decode cX8_rules 40 = .ok (.aload_n 0, 1) := tb_d tk_X8_rules_1 20 (40, .aload_n 0, 1) rfl
theorem dX8_rules_41 : decode cX8_rules 41 = .ok (.iload_n 1, 1) := tb_d tk_X8_rules_1 21 (41, .iload_n 1, 1) rfl
theorem dX8_rules_42 : decode cX8_rules 42 = .ok (.invokevirtual 72, 3) := tb_d tk_X8_rules_1 22 (42, .invokevirtual 72, 3) rfl
theorem dX8_rules_45 : decode cX8_rules 45 = .ok (.ifCond .eq 9, 3) := tb_d tk_X8_rules_1 23 (45, .ifCond .eq 9, 3) rfl
theorem dX8_rules_48 : decode cX8_rules 48 = .ok (.aload_n 0, 1) := tb_d tk_X8_rules_1 24 (48, .aload_n 0, 1) rfl
theorem dX8_rules_49 : decode cX8_rules 49 = .ok (.iconst 1, 1) := tb_d tk_X8_rules_1 25 (49, .iconst 1, 1) rfl
theorem dX8_rules_50 : decode cX8_rules 50 = .ok (.invokevirtual 65, 3) := tb_d tk_X8_rules_1 26 (50, .invokevirtual 65, 3) rfl
theorem dX8_rules_53 : decode cX8_rules 53 = .ok (.ireturn, 1) := tb_d tk_X8_rules_1 27 (53, .ireturn, 1) rfl
theorem dX8_rules_54 : decode cX8_rules 54 = .ok (.aload_n 0, 1) := tb_d tk_X8_rules_1 28 (54, .aload_n 0, 1) rfl
theorem dX8_rules_55 : decode cX8_rules 55 = .ok (.iload_n 1, 1) := tb_d tk_X8_rules_1 29 (55, .iload_n 1, 1) rfl
theorem dX8_rules_56 : decode cX8_rules 56 = .ok (.iload_n 2, 1) := tb_d tk_X8_rules_1 30 (56, .iload_n 2, 1) rfl
theorem dX8_rules_57 : decode cX8_rules 57 = .ok (.iload_n 3, 1) := tb_d tk_X8_rules_1 31 (57, .iload_n 3, 1) rfl
theorem dX8_rules_58 : decode cX8_rules 58 = .ok (.invokevirtual 79, 3) := tb_d tk_X8_rules_1 32 (58, .invokevirtual 79, 3) rfl
theorem dX8_rules_61 : decode cX8_rules 61 = .ok (.ifCond .ne 9, 3) := tb_d tk_X8_rules_1 33 (61, .ifCond .ne 9, 3) rfl
theorem dX8_rules_64 : decode cX8_rules 64 = .ok (.aload_n 0, 1) := tb_d tk_X8_rules_1 34 (64, .aload_n 0, 1) rfl
theorem dX8_rules_65 : decode cX8_rules 65 = .ok (.iconst 2, 1) := tb_d tk_X8_rules_1 35 (65, .iconst 2, 1) rfl
theorem dX8_rules_66 : decode cX8_rules 66 = .ok (.invokevirtual 65, 3) := tb_d tk_X8_rules_1 36 (66, .invokevirtual 65, 3) rfl
theorem dX8_rules_69 : decode cX8_rules 69 = .ok (.ireturn, 1) := tb_d tk_X8_rules_1 37 (69, .ireturn, 1) rfl
theorem dX8_rules_70 : decode cX8_rules 70 = .ok (.iconst 0, 1) := tb_d tk_X8_rules_1 38 (70, .iconst 0, 1) rfl
theorem dX8_rules_71 : decode cX8_rules 71 = .ok (.istore 5, 2) := tb_d tk_X8_rules_1 39 (71, .istore 5, 2) rfl
def tb_X8_rules_2 : List (Nat × Instr × Nat) := [(73, .iconst 0, 1), (74, .istore 6, 2), (76, .iload 6, 2), (78, .iload 4, 2), (80, .iconst 2, 1), (81, .if_icmp .ne 8, 3), (84, .bipush 6, 2), (86, .goto 5, 3), (89, .bipush 9, 2), (91, .if_icmp .gt 112, 3), (94, .aload_n 0, 1), (95, .getfield 25, 3), (98, .iconst 0, 1), (99, .aload_n 0, 1), (100, .getfield 31, 3), (103, .iconst 0, 1), (104, .invokestatic 145, 3), (107, .aload_n 0, 1), (108, .getfield 31, 3), (111, .iload 4, 2), (113, .iload 6, 2), (115, .iastore, 1), (116, .iconst 1, 1), (117, .istore 7, 2), (119, .iconst 0, 1), (120, .istore 8, 2), (122, .iload 8, 2), (124, .iload_n 3, 1), (125, .if_icmp .ge 54, 3), (128, .iload 7, 2), (130, .ifCond .eq 40, 3), (133, .aload_n 0, 1), (134, .getfield 31, 3), (137, .aload_n 0, 1), (138, .getfield 25, 3), (141, .iconst 5, 1), (142, .iaload, 1), (143, .iload 8, 2), (145, .iadd, 1), (146, .invokestatic 172, 3)]
set_option maxRecDepth 100000 in
theorem tk_X8_rules_2 : (tb_X8_rules_2.all fun q => decide (decode cX8_rules q.1 = .ok q.2)) = true := by decide +kernel
theorem dX8_rules_73 : decode cX8_rules 73 = .ok (.iconst 0, 1) := tb_d tk_X8_rules_2 0 (73, .iconst 0, 1) rfl
theorem dX8_rules_74 : decode cX8_rules 74 = .ok (.istore 6, 2) := tb_d tk_X8_rules_2 1 (74, .istore 6, 2) rfl
theorem dX8_rules_76 : decode cX8_rules 76 = .ok (.iload 6, 2) := tb_d tk_X8_rules_2 2 (76, .iload 6, 2) rfl
theorem dX8_rules_78 : decode cX8_rules 78 = .ok (.iload 4, 2) := tb_d tk_X8_rules_2 3 (78, .iload 4, 2) rfl
theorem dX8_rules_80 : decode cX8_rules 80 = .ok (.iconst 2, 1) := tb_d tk_X8_rules_2 4 (80, .iconst 2, 1) rfl
theorem dX8_rules_81 : decode cX8_rules 81 = .ok (.if_icmp .ne 8, 3) := tb_d tk_X8_rules_2 5 (81, .if_icmp .ne 8, 3) rfl
theorem dX8_rules_84 : decode cX8_rules 84 = .ok (.bipush 6, 2) := tb_d tk_X8_rules_2 6 (84, .bipush 6, 2) rfl
theorem dX8_rules_86 : decode cX8_rules 86 = .ok (.goto 5, 3) := tb_d tk_X8_rules_2 7 (86, .goto 5, 3) rfl
theorem dX8_rules_89 : decode cX8_rules 89 = .ok (.bipush 9, 2) := tb_d tk_X8_rules_2 8 (89, .bipush 9, 2) rfl
theorem dX8_rules_91 : decode cX8_rules 91 = .ok (.if_icmp .gt 112, 3) := tb_d tk_X8_rules_2 9 (91, .if_icmp .gt 112, 3) rfl
theorem dX8_rules_94 : decode cX8_rules 94 = .ok (.aload_n 0, 1) := tb_d tk_X8_rules_2 10 (94, .aload_n 0, 1) rfl
theorem dX8_rules_95 : decode cX8_rules 95 = .ok (.getfield 25, 3) := tb_d tk_X8_rules_2 11 (95, .getfield 25, 3) rfl
theorem dX8_rules_98 : decode cX8_rules 98 = .ok (.iconst 0, 1) := tb_d tk_X8_rules_2 12 (98, .iconst 0, 1) rfl
theorem dX8_rules_99 : decode cX8_rules 99 = .ok (.aload_n 0, 1) := tb_d tk_X8_rules_2 13 (99, .aload_n 0, 1) rfl
theorem dX8_rules_100 : decode cX8_rules 100 = .ok (.getfield 31, 3) := tb_d tk_X8_rules_2 14 (100, .getfield 31, 3) rfl
theorem dX8_rules_103 : decode cX8_rules 103 = .ok (.iconst 0, 1) := tb_d tk_X8_rules_2 15 (103, .iconst 0, 1) rfl
theorem dX8_rules_104 : decode cX8_rules 104 = .ok (.invokestatic 145, 3) := tb_d tk_X8_rules_2 16 (104, .invokestatic 145, 3) rfl
theorem dX8_rules_107 : decode cX8_rules 107 = .ok (.aload_n 0, 1) := tb_d tk_X8_rules_2 17 (107, .aload_n 0, 1) rfl
theorem dX8_rules_108 : decode cX8_rules 108 = .ok (.getfield 31, 3) := tb_d tk_X8_rules_2 18 (108, .getfield 31, 3) rfl
theorem dX8_rules_111 : decode cX8_rules 111 = .ok (.iload 4, 2) := tb_d tk_X8_rules_2 19 (111, .iload 4, 2) rfl
theorem dX8_rules_113 : decode cX8_rules 113 = .ok (.iload 6, 2) := tb_d tk_X8_rules_2 20 (113, .iload 6, 2) rfl
theorem dX8_rules_115 : decode cX8_rules 115 = .ok (.iastore, 1) := tb_d tk_X8_rules_2 21 (115, .iastore, 1) rfl
theorem dX8_rules_116 : decode cX8_rules 116 = .ok (.iconst 1, 1) := tb_d tk_X8_rules_2 22 (116, .iconst 1, 1) rfl
theorem dX8_rules_117 : decode cX8_rules 117 = .ok (.istore 7, 2) := tb_d tk_X8_rules_2 23 (117, .istore 7, 2) rfl
theorem dX8_rules_119 : decode cX8_rules 119 = .ok (.iconst 0, 1) := tb_d tk_X8_rules_2 24 (119, .iconst 0, 1) rfl
theorem dX8_rules_120 : decode cX8_rules 120 = .ok (.istore 8, 2) := tb_d tk_X8_rules_2 25 (120, .istore 8, 2) rfl
theorem dX8_rules_122 : decode cX8_rules 122 = .ok (.iload 8, 2) := tb_d tk_X8_rules_2 26 (122, .iload 8, 2) rfl
theorem dX8_rules_124 : decode cX8_rules 124 = .ok (.iload_n 3, 1) := tb_d tk_X8_rules_2 27 (124, .iload_n 3, 1) rfl
theorem dX8_rules_125 : decode cX8_rules 125 = .ok (.if_icmp .ge 54, 3) := tb_d tk_X8_rules_2 28 (125, .if_icmp .ge 54, 3) rfl
theorem dX8_rules_128 : decode cX8_rules 128 = .ok (.iload 7, 2) := tb_d tk_X8_rules_2 29 (128, .iload 7, 2) rfl
theorem dX8_rules_130 : decode cX8_rules 130 = .ok (.ifCond .eq 40, 3) := tb_d tk_X8_rules_2 30 (130, .ifCond .eq 40, 3) rfl
theorem dX8_rules_133 : decode cX8_rules 133 = .ok (.aload_n 0, 1) := tb_d tk_X8_rules_2 31 (133, .aload_n 0, 1) rfl
theorem dX8_rules_134 : decode cX8_rules 134 = .ok (.getfield 31, 3) := tb_d tk_X8_rules_2 32 (134, .getfield 31, 3) rfl
theorem dX8_rules_137 : decode cX8_rules 137 = .ok (.aload_n 0, 1) := tb_d tk_X8_rules_2 33 (137, .aload_n 0, 1) rfl
theorem dX8_rules_138 : decode cX8_rules 138 = .ok (.getfield 25, 3) := tb_d tk_X8_rules_2 34 (138, .getfield 25, 3) rfl
theorem dX8_rules_141 : decode cX8_rules 141 = .ok (.iconst 5, 1) := tb_d tk_X8_rules_2 35 (141, .iconst 5, 1) rfl
theorem dX8_rules_142 : decode cX8_rules 142 = .ok (.iaload, 1) := tb_d tk_X8_rules_2 36 (142, .iaload, 1) rfl
theorem dX8_rules_143 : decode cX8_rules 143 = .ok (.iload 8, 2) := tb_d tk_X8_rules_2 37 (143, .iload 8, 2) rfl
theorem dX8_rules_145 : decode cX8_rules 145 = .ok (.iadd, 1) := tb_d tk_X8_rules_2 38 (145, .iadd, 1) rfl
theorem dX8_rules_146 : decode cX8_rules 146 = .ok (.invokestatic 172, 3) := tb_d tk_X8_rules_2 39 (146, .invokestatic 172, 3) rfl
def tb_X8_rules_3 : List (Nat × Instr × Nat) := [(149, .aload_n 0, 1), (150, .getfield 16, 3), (153, .bipush 40, 2), (155, .iload_n 1, 1), (156, .imul, 1), (157, .iload_n 2, 1), (158, .iadd, 1), (159, .iload 8, 2), (161, .iadd, 1), (162, .iaload, 1), (163, .if_icmp .ne 7, 3), (166, .iconst 1, 1), (167, .goto 4, 3), (170, .iconst 0, 1), (171, .istore 7, 2), (173, .iinc 8 1, 3), (176, .goto (-54), 3), (179, .iload 5, 2), (181, .iload 7, 2), (183, .ifCond .eq 10, 3), (186, .iconst 1, 1), (187, .iload 6, 2), (189, .ishl, 1), (190, .goto 4, 3), (193, .iconst 0, 1), (194, .ior, 1), (195, .istore 5, 2), (197, .iinc 6 1, 3), (200, .goto (-124), 3), (203, .aload_n 0, 1), (204, .iload 5, 2), (206, .invokevirtual 69, 3), (209, .ireturn, 1)]
set_option maxRecDepth 100000 in
theorem tk_X8_rules_3 : (tb_X8_rules_3.all fun q => decide (decode cX8_rules q.1 = .ok q.2)) = true := by decide +kernel
theorem dX8_rules_149 : decode cX8_rules 149 = .ok (.aload_n 0, 1) := tb_d tk_X8_rules_3 0 (149, .aload_n 0, 1) rfl
theorem dX8_rules_150 : decode cX8_rules 150 = .ok (.getfield 16, 3) := tb_d tk_X8_rules_3 1 (150, .getfield 16, 3) rfl
theorem dX8_rules_153 : decode cX8_rules 153 = .ok (.bipush 40, 2) := tb_d tk_X8_rules_3 2 (153, .bipush 40, 2) rfl
theorem dX8_rules_155 : decode cX8_rules 155 = .ok (.iload_n 1, 1) := tb_d tk_X8_rules_3 3 (155, .iload_n 1, 1) rfl
theorem dX8_rules_156 : decode cX8_rules 156 = .ok (.imul, 1) := tb_d tk_X8_rules_3 4 (156, .imul, 1) rfl
theorem dX8_rules_157 : decode cX8_rules 157 = .ok (.iload_n 2, 1) := tb_d tk_X8_rules_3 5 (157, .iload_n 2, 1) rfl
theorem dX8_rules_158 : decode cX8_rules 158 = .ok (.iadd, 1) := tb_d tk_X8_rules_3 6 (158, .iadd, 1) rfl
theorem dX8_rules_159 : decode cX8_rules 159 = .ok (.iload 8, 2) := tb_d tk_X8_rules_3 7 (159, .iload 8, 2) rfl
theorem dX8_rules_161 : decode cX8_rules 161 = .ok (.iadd, 1) := tb_d tk_X8_rules_3 8 (161, .iadd, 1) rfl
theorem dX8_rules_162 : decode cX8_rules 162 = .ok (.iaload, 1) := tb_d tk_X8_rules_3 9 (162, .iaload, 1) rfl
theorem dX8_rules_163 : decode cX8_rules 163 = .ok (.if_icmp .ne 7, 3) := tb_d tk_X8_rules_3 10 (163, .if_icmp .ne 7, 3) rfl
theorem dX8_rules_166 : decode cX8_rules 166 = .ok (.iconst 1, 1) := tb_d tk_X8_rules_3 11 (166, .iconst 1, 1) rfl
theorem dX8_rules_167 : decode cX8_rules 167 = .ok (.goto 4, 3) := tb_d tk_X8_rules_3 12 (167, .goto 4, 3) rfl
theorem dX8_rules_170 : decode cX8_rules 170 = .ok (.iconst 0, 1) := tb_d tk_X8_rules_3 13 (170, .iconst 0, 1) rfl
theorem dX8_rules_171 : decode cX8_rules 171 = .ok (.istore 7, 2) := tb_d tk_X8_rules_3 14 (171, .istore 7, 2) rfl
theorem dX8_rules_173 : decode cX8_rules 173 = .ok (.iinc 8 1, 3) := tb_d tk_X8_rules_3 15 (173, .iinc 8 1, 3) rfl
theorem dX8_rules_176 : decode cX8_rules 176 = .ok (.goto (-54), 3) := tb_d tk_X8_rules_3 16 (176, .goto (-54), 3) rfl
theorem dX8_rules_179 : decode cX8_rules 179 = .ok (.iload 5, 2) := tb_d tk_X8_rules_3 17 (179, .iload 5, 2) rfl
theorem dX8_rules_181 : decode cX8_rules 181 = .ok (.iload 7, 2) := tb_d tk_X8_rules_3 18 (181, .iload 7, 2) rfl
theorem dX8_rules_183 : decode cX8_rules 183 = .ok (.ifCond .eq 10, 3) := tb_d tk_X8_rules_3 19 (183, .ifCond .eq 10, 3) rfl
theorem dX8_rules_186 : decode cX8_rules 186 = .ok (.iconst 1, 1) := tb_d tk_X8_rules_3 20 (186, .iconst 1, 1) rfl
theorem dX8_rules_187 : decode cX8_rules 187 = .ok (.iload 6, 2) := tb_d tk_X8_rules_3 21 (187, .iload 6, 2) rfl
theorem dX8_rules_189 : decode cX8_rules 189 = .ok (.ishl, 1) := tb_d tk_X8_rules_3 22 (189, .ishl, 1) rfl
theorem dX8_rules_190 : decode cX8_rules 190 = .ok (.goto 4, 3) := tb_d tk_X8_rules_3 23 (190, .goto 4, 3) rfl
theorem dX8_rules_193 : decode cX8_rules 193 = .ok (.iconst 0, 1) := tb_d tk_X8_rules_3 24 (193, .iconst 0, 1) rfl
theorem dX8_rules_194 : decode cX8_rules 194 = .ok (.ior, 1) := tb_d tk_X8_rules_3 25 (194, .ior, 1) rfl
theorem dX8_rules_195 : decode cX8_rules 195 = .ok (.istore 5, 2) := tb_d tk_X8_rules_3 26 (195, .istore 5, 2) rfl
theorem dX8_rules_197 : decode cX8_rules 197 = .ok (.iinc 6 1, 3) := tb_d tk_X8_rules_3 27 (197, .iinc 6 1, 3) rfl
theorem dX8_rules_200 : decode cX8_rules 200 = .ok (.goto (-124), 3) := tb_d tk_X8_rules_3 28 (200, .goto (-124), 3) rfl
theorem dX8_rules_203 : decode cX8_rules 203 = .ok (.aload_n 0, 1) := tb_d tk_X8_rules_3 29 (203, .aload_n 0, 1) rfl
theorem dX8_rules_204 : decode cX8_rules 204 = .ok (.iload 5, 2) := tb_d tk_X8_rules_3 30 (204, .iload 5, 2) rfl
theorem dX8_rules_206 : decode cX8_rules 206 = .ok (.invokevirtual 69, 3) := tb_d tk_X8_rules_3 31 (206, .invokevirtual 69, 3) rfl
theorem dX8_rules_209 : decode cX8_rules 209 = .ok (.ireturn, 1) := tb_d tk_X8_rules_3 32 (209, .ireturn, 1) rfl
theorem ggX8_takesSo_X8_takesBy : GoodIn wsX8_takesSo wsX8_takesBy := fun w h => ⟨List.mem_cons_of_mem _ (List.mem_append_right _ (List.mem_append_right _ (List.mem_append_right _ (List.mem_append_left _ h)))), good_of_word (gdX8_takesBy w h)⟩
set_option maxRecDepth 20000 in
theorem gX8_takesSo_X8_takesBy : GoodIn wsX8_takesSo (wsV RX8 168 RX8 yX8_takesBy wsX8_takesBy) := goodIn_app (a := bkV RX8 168 RX8 yX8_takesBy) (fun w h => ⟨List.mem_cons_of_mem _ (List.mem_append_right _ (List.mem_append_left _ h)), good_of_word (gd_bV _ _ _ _ w h)⟩) ggX8_takesSo_X8_takesBy
def tb_X8_takesSo_1 : List (Nat × Instr × Nat) := [(0, .iconst 1, 1), (1, .istore 4, 2), (3, .iconst 0, 1), (4, .istore 5, 2), (6, .iload 5, 2), (8, .aload_n 0, 1), (9, .getfield 25, 3), (12, .iconst 3, 1), (13, .iaload, 1), (14, .if_icmp .ge 55, 3), (17, .iload 4, 2), (19, .ifCond .eq 41, 3), (22, .aload_n 0, 1), (23, .iload_n 1, 1), (24, .iload 5, 2), (26, .iload_n 2, 1), (27, .aload_n 0, 1), (28, .getfield 25, 3), (31, .iconst 5, 1), (32, .iaload, 1), (33, .invokevirtual 168, 3), (36, .ifCond .eq 7, 3), (39, .iconst 1, 1), (40, .goto 4, 3), (43, .iconst 0, 1), (44, .aload_n 0, 1), (45, .getfield 16, 3), (48, .iload_n 3, 1), (49, .iload 5, 2), (51, .iadd, 1), (52, .iaload, 1), (53, .if_icmp .ne 7, 3), (56, .iconst 1, 1), (57, .goto 4, 3), (60, .iconst 0, 1), (61, .istore 4, 2), (63, .iinc 5 1, 3), (66, .goto (-60), 3), (69, .iload 4, 2), (71, .ireturn, 1)]
set_option maxRecDepth 100000 in
theorem tk_X8_takesSo_1 : (tb_X8_takesSo_1.all fun q => decide (decode cX8_takesSo q.1 = .ok q.2)) = true := by decide +kernel
theorem dX8_takesSo_0 : decode cX8_takesSo 0 = .ok (.iconst 1, 1) := tb_d tk_X8_takesSo_1 0 (0, .iconst 1, 1) rfl
theorem dX8_takesSo_1 : decode cX8_takesSo 1 = .ok (.istore 4, 2) := tb_d tk_X8_takesSo_1 1 (1, .istore 4, 2) rfl
theorem dX8_takesSo_3 : decode cX8_takesSo 3 = .ok (.iconst 0, 1) := tb_d tk_X8_takesSo_1 2 (3, .iconst 0, 1) rfl
theorem dX8_takesSo_4 : decode cX8_takesSo 4 = .ok (.istore 5, 2) := tb_d tk_X8_takesSo_1 3 (4, .istore 5, 2) rfl
theorem dX8_takesSo_6 : decode cX8_takesSo 6 = .ok (.iload 5, 2) := tb_d tk_X8_takesSo_1 4 (6, .iload 5, 2) rfl
theorem dX8_takesSo_8 : decode cX8_takesSo 8 = .ok (.aload_n 0, 1) := tb_d tk_X8_takesSo_1 5 (8, .aload_n 0, 1) rfl
theorem dX8_takesSo_9 : decode cX8_takesSo 9 = .ok (.getfield 25, 3) := tb_d tk_X8_takesSo_1 6 (9, .getfield 25, 3) rfl
theorem dX8_takesSo_12 : decode cX8_takesSo 12 = .ok (.iconst 3, 1) := tb_d tk_X8_takesSo_1 7 (12, .iconst 3, 1) rfl
theorem dX8_takesSo_13 : decode cX8_takesSo 13 = .ok (.iaload, 1) := tb_d tk_X8_takesSo_1 8 (13, .iaload, 1) rfl
theorem dX8_takesSo_14 : decode cX8_takesSo 14 = .ok (.if_icmp .ge 55, 3) := tb_d tk_X8_takesSo_1 9 (14, .if_icmp .ge 55, 3) rfl
theorem dX8_takesSo_17 : decode cX8_takesSo 17 = .ok (.iload 4, 2) := tb_d tk_X8_takesSo_1 10 (17, .iload 4, 2) rfl
theorem dX8_takesSo_19 : decode cX8_takesSo 19 = .ok (.ifCond .eq 41, 3) := tb_d tk_X8_takesSo_1 11 (19, .ifCond .eq 41, 3) rfl
theorem dX8_takesSo_22 : decode cX8_takesSo 22 = .ok (.aload_n 0, 1) := tb_d tk_X8_takesSo_1 12 (22, .aload_n 0, 1) rfl
theorem dX8_takesSo_23 : decode cX8_takesSo 23 = .ok (.iload_n 1, 1) := tb_d tk_X8_takesSo_1 13 (23, .iload_n 1, 1) rfl
theorem dX8_takesSo_24 : decode cX8_takesSo 24 = .ok (.iload 5, 2) := tb_d tk_X8_takesSo_1 14 (24, .iload 5, 2) rfl
theorem dX8_takesSo_26 : decode cX8_takesSo 26 = .ok (.iload_n 2, 1) := tb_d tk_X8_takesSo_1 15 (26, .iload_n 2, 1) rfl
theorem dX8_takesSo_27 : decode cX8_takesSo 27 = .ok (.aload_n 0, 1) := tb_d tk_X8_takesSo_1 16 (27, .aload_n 0, 1) rfl
theorem dX8_takesSo_28 : decode cX8_takesSo 28 = .ok (.getfield 25, 3) := tb_d tk_X8_takesSo_1 17 (28, .getfield 25, 3) rfl
theorem dX8_takesSo_31 : decode cX8_takesSo 31 = .ok (.iconst 5, 1) := tb_d tk_X8_takesSo_1 18 (31, .iconst 5, 1) rfl
theorem dX8_takesSo_32 : decode cX8_takesSo 32 = .ok (.iaload, 1) := tb_d tk_X8_takesSo_1 19 (32, .iaload, 1) rfl
theorem dX8_takesSo_33 : decode cX8_takesSo 33 = .ok (.invokevirtual 168, 3) := tb_d tk_X8_takesSo_1 20 (33, .invokevirtual 168, 3) rfl
theorem dX8_takesSo_36 : decode cX8_takesSo 36 = .ok (.ifCond .eq 7, 3) := tb_d tk_X8_takesSo_1 21 (36, .ifCond .eq 7, 3) rfl
theorem dX8_takesSo_39 : decode cX8_takesSo 39 = .ok (.iconst 1, 1) := tb_d tk_X8_takesSo_1 22 (39, .iconst 1, 1) rfl
theorem dX8_takesSo_40 : decode cX8_takesSo 40 = .ok (.goto 4, 3) := tb_d tk_X8_takesSo_1 23 (40, .goto 4, 3) rfl
theorem dX8_takesSo_43 : decode cX8_takesSo 43 = .ok (.iconst 0, 1) := tb_d tk_X8_takesSo_1 24 (43, .iconst 0, 1) rfl
theorem dX8_takesSo_44 : decode cX8_takesSo 44 = .ok (.aload_n 0, 1) := tb_d tk_X8_takesSo_1 25 (44, .aload_n 0, 1) rfl
theorem dX8_takesSo_45 : decode cX8_takesSo 45 = .ok (.getfield 16, 3) := tb_d tk_X8_takesSo_1 26 (45, .getfield 16, 3) rfl
