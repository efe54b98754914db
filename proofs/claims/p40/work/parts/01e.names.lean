theorem dX2_nightsUntil_3 : decode cX2_nightsUntil 3 = .ok (.bipush 60, 2) := tb_d tk_X2_nightsUntil_1 3 (3, .bipush 60, 2) rfl
theorem dX2_nightsUntil_5 : decode cX2_nightsUntil 5 = .ok (.if_icmp .gt 20, 3) := tb_d tk_X2_nightsUntil_1 4 (5, .if_icmp .gt 20, 3) rfl
theorem dX2_nightsUntil_8 : decode cX2_nightsUntil 8 = .ok (.aload_n 0, 1) := tb_d tk_X2_nightsUntil_1 5 (8, .aload_n 0, 1) rfl
theorem dX2_nightsUntil_9 : decode cX2_nightsUntil 9 = .ok (.iload_n 2, 1) := tb_d tk_X2_nightsUntil_1 6 (9, .iload_n 2, 1) rfl
theorem dX2_nightsUntil_10 : decode cX2_nightsUntil 10 = .ok (.invokevirtual 85, 3) := tb_d tk_X2_nightsUntil_1 7 (10, .invokevirtual 85, 3) rfl
theorem dX2_nightsUntil_13 : decode cX2_nightsUntil 13 = .ok (.iload_n 1, 1) := tb_d tk_X2_nightsUntil_1 8 (13, .iload_n 1, 1) rfl
theorem dX2_nightsUntil_14 : decode cX2_nightsUntil 14 = .ok (.if_icmp .ne 5, 3) := tb_d tk_X2_nightsUntil_1 9 (14, .if_icmp .ne 5, 3) rfl
theorem dX2_nightsUntil_17 : decode cX2_nightsUntil 17 = .ok (.iload_n 2, 1) := tb_d tk_X2_nightsUntil_1 10 (17, .iload_n 2, 1) rfl
theorem dX2_nightsUntil_18 : decode cX2_nightsUntil 18 = .ok (.ireturn, 1) := tb_d tk_X2_nightsUntil_1 11 (18, .ireturn, 1) rfl
theorem dX2_nightsUntil_19 : decode cX2_nightsUntil 19 = .ok (.iinc 2 1, 3) := tb_d tk_X2_nightsUntil_1 12 (19, .iinc 2 1, 3) rfl
theorem dX2_nightsUntil_22 : decode cX2_nightsUntil 22 = .ok (.goto (-20), 3) := tb_d tk_X2_nightsUntil_1 13 (22, .goto (-20), 3) rfl
theorem dX2_nightsUntil_25 : decode cX2_nightsUntil 25 = .ok (.ldc 103, 2) := tb_d tk_X2_nightsUntil_1 14 (25, .ldc 103, 2) rfl
theorem dX2_nightsUntil_27 : decode cX2_nightsUntil 27 = .ok (.ireturn, 1) := tb_d tk_X2_nightsUntil_1 15 (27, .ireturn, 1) rfl
theorem ggX2_hourIn_X2_catches : GoodIn wsX2_hourIn wsX2_catches := fun w h => ⟨List.mem_cons_of_mem _ (List.mem_append_right _ (List.mem_append_right _ (List.mem_append_right _ (List.mem_append_right _ (List.mem_append_left _ h))))), good_of_word (gdX2_catches w h)⟩
set_option maxRecDepth 20000 in
theorem gX2_hourIn_X2_catches : GoodIn wsX2_hourIn (wsV RX2 96 RX2 yX2_catches wsX2_catches) := goodIn_app (a := bkV RX2 96 RX2 yX2_catches) (fun w h => ⟨List.mem_cons_of_mem _ (List.mem_append_right _ (List.mem_append_left _ h)), good_of_word (gd_bV _ _ _ _ w h)⟩) ggX2_hourIn_X2_catches
def tb_X2_hourIn_1 : List (Nat × Instr × Nat) := [(0, .iload_n 2, 1), (1, .istore_n 3, 1), (2, .iload_n 3, 1), (3, .bipush 6, 2), (5, .if_icmp .ge 21, 3), (8, .aload_n 0, 1), (9, .iload_n 1, 1), (10, .iload_n 3, 1), (11, .iconst 0, 1), (12, .invokevirtual 96, 3), (15, .ifCond .ne 5, 3), (18, .iload_n 3, 1), (19, .ireturn, 1), (20, .iinc 3 1, 3), (23, .goto (-21), 3), (26, .ldc 103, 2), (28, .ireturn, 1)]
set_option maxRecDepth 100000 in
theorem tk_X2_hourIn_1 : (tb_X2_hourIn_1.all fun q => decide (decode cX2_hourIn q.1 = .ok q.2)) = true := by decide +kernel
theorem dX2_hourIn_0 : decode cX2_hourIn 0 = .ok (.iload_n 2, 1) := tb_d tk_X2_hourIn_1 0 (0, .iload_n 2, 1) rfl
theorem dX2_hourIn_1 : decode cX2_hourIn 1 = .ok (.istore_n 3, 1) := tb_d tk_X2_hourIn_1 1 (1, .istore_n 3, 1) rfl
theorem dX2_hourIn_2 : decode cX2_hourIn 2 = .ok (.iload_n 3, 1) := tb_d tk_X2_hourIn_1 2 (2, .iload_n 3, 1) rfl
theorem dX2_hourIn_3 : decode cX2_hourIn 3 = .ok (.bipush 6, 2) := tb_d tk_X2_hourIn_1 3 (3, .bipush 6, 2) rfl
theorem dX2_hourIn_5 : decode cX2_hourIn 5 = .ok (.if_icmp .ge 21, 3) := tb_d tk_X2_hourIn_1 4 (5, .if_icmp .ge 21, 3) rfl
theorem dX2_hourIn_8 : decode cX2_hourIn 8 = .ok (.aload_n 0, 1) := tb_d tk_X2_hourIn_1 5 (8, .aload_n 0, 1) rfl
theorem dX2_hourIn_9 : decode cX2_hourIn 9 = .ok (.iload_n 1, 1) := tb_d tk_X2_hourIn_1 6 (9, .iload_n 1, 1) rfl
theorem dX2_hourIn_10 : decode cX2_hourIn 10 = .ok (.iload_n 3, 1) := tb_d tk_X2_hourIn_1 7 (10, .iload_n 3, 1) rfl
theorem dX2_hourIn_11 : decode cX2_hourIn 11 = .ok (.iconst 0, 1) := tb_d tk_X2_hourIn_1 8 (11, .iconst 0, 1) rfl
theorem dX2_hourIn_12 : decode cX2_hourIn 12 = .ok (.invokevirtual 96, 3) := tb_d tk_X2_hourIn_1 9 (12, .invokevirtual 96, 3) rfl
theorem dX2_hourIn_15 : decode cX2_hourIn 15 = .ok (.ifCond .ne 5, 3) := tb_d tk_X2_hourIn_1 10 (15, .ifCond .ne 5, 3) rfl
theorem dX2_hourIn_18 : decode cX2_hourIn 18 = .ok (.iload_n 3, 1) := tb_d tk_X2_hourIn_1 11 (18, .iload_n 3, 1) rfl
theorem dX2_hourIn_19 : decode cX2_hourIn 19 = .ok (.ireturn, 1) := tb_d tk_X2_hourIn_1 12 (19, .ireturn, 1) rfl
theorem dX2_hourIn_20 : decode cX2_hourIn 20 = .ok (.iinc 3 1, 3) := tb_d tk_X2_hourIn_1 13 (20, .iinc 3 1, 3) rfl
theorem dX2_hourIn_23 : decode cX2_hourIn 23 = .ok (.goto (-21), 3) := tb_d tk_X2_hourIn_1 14 (23, .goto (-21), 3) rfl
theorem dX2_hourIn_26 : decode cX2_hourIn 26 = .ok (.ldc 103, 2) := tb_d tk_X2_hourIn_1 15 (26, .ldc 103, 2) rfl
theorem dX2_hourIn_28 : decode cX2_hourIn 28 = .ok (.ireturn, 1) := tb_d tk_X2_hourIn_1 16 (28, .ireturn, 1) rfl
theorem ggX2_guardsAgainst_X2_wordsIn : GoodIn wsX2_guardsAgainst wsX2_wordsIn := fun w h => ⟨List.mem_cons_of_mem _ (List.mem_append_right _ (List.mem_append_right _ (List.mem_append_right _ (List.mem_append_right _ (List.mem_append_right _ (List.mem_append_left _ h)))))), good_of_word (gdX2_wordsIn w h)⟩
set_option maxRecDepth 20000 in
theorem gX2_guardsAgainst_X2_wordsIn : GoodIn wsX2_guardsAgainst (wsV RX2 100 RX2 yX2_wordsIn wsX2_wordsIn) := goodIn_app (a := bkV RX2 100 RX2 yX2_wordsIn) (fun w h => ⟨List.mem_cons_of_mem _ (List.mem_append_right _ (List.mem_append_left _ h)), good_of_word (gd_bV _ _ _ _ w h)⟩) ggX2_guardsAgainst_X2_wordsIn
theorem ggX2_guardsAgainst_X2_guardOn : GoodIn wsX2_guardsAgainst wsX2_guardOn := fun w h => ⟨List.mem_cons_of_mem _ (List.mem_append_right _ (List.mem_append_right _ (List.mem_append_right _ (List.mem_append_right _ (List.mem_append_right _ (List.mem_append_right _ (List.mem_append_left _ h))))))), good_of_word (gdX2_guardOn w h)⟩
set_option maxRecDepth 20000 in
theorem gX2_guardsAgainst_X2_guardOn : GoodIn wsX2_guardsAgainst (wsV RX2 74 RX2 yX2_guardOn wsX2_guardOn) := goodIn_app (a := bkV RX2 74 RX2 yX2_guardOn) (fun w h => ⟨List.mem_cons_of_mem _ (List.mem_append_right _ (List.mem_append_right _ (List.mem_append_left _ h))), good_of_word (gd_bV _ _ _ _ w h)⟩) ggX2_guardsAgainst_X2_guardOn
def tb_X2_guardsAgainst_1 : List (Nat × Instr × Nat) := [(0, .iconst 0, 1), (1, .istore_n 3, 1), (2, .iconst 0, 1), (3, .istore 4, 2), (5, .iload 4, 2), (7, .bipush 6, 2), (9, .if_icmp .ge 43, 3), (12, .iload_n 1, 1), (13, .aload_n 0, 1), (14, .iload 4, 2), (16, .iload_n 2, 1), (17, .invokevirtual 100, 3), (20, .iconst (-1), 1), (21, .ixor, 1), (22, .iand, 1), (23, .ifCond .eq 23, 3), (26, .iload_n 3, 1), (27, .iconst 1, 1), (28, .aload_n 0, 1), (29, .aload_n 0, 1), (30, .getfield 24, 3), (33, .getfield 58, 3), (36, .iload_n 2, 1), (37, .iadd, 1), (38, .iload 4, 2), (40, .invokevirtual 74, 3), (43, .ishl, 1), (44, .ior, 1), (45, .istore_n 3, 1), (46, .iinc 4 1, 3), (49, .goto (-44), 3), (52, .iload_n 3, 1), (53, .ireturn, 1)]
set_option maxRecDepth 100000 in
theorem tk_X2_guardsAgainst_1 : (tb_X2_guardsAgainst_1.all fun q => decide (decode cX2_guardsAgainst q.1 = .ok q.2)) = true := by decide +kernel
theorem dX2_guardsAgainst_0 : decode cX2_guardsAgainst 0 = .ok (.iconst 0, 1) := tb_d tk_X2_guardsAgainst_1 0 (0, .iconst 0, 1) rfl
theorem dX2_guardsAgainst_1 : decode cX2_guardsAgainst 1 = .ok (.istore_n 3, 1) := tb_d tk_X2_guardsAgainst_1 1 (1, .istore_n 3, 1) rfl
theorem dX2_guardsAgainst_2 : decode cX2_guardsAgainst 2 = .ok (.iconst 0, 1) := tb_d tk_X2_guardsAgainst_1 2 (2, .iconst 0, 1) rfl
theorem dX2_guardsAgainst_3 : decode cX2_guardsAgainst 3 = .ok (.istore 4, 2) := tb_d tk_X2_guardsAgainst_1 3 (3, .istore 4, 2) rfl
theorem dX2_guardsAgainst_5 : decode cX2_guardsAgainst 5 = .ok (.iload 4, 2) := tb_d tk_X2_guardsAgainst_1 4 (5, .iload 4, 2) rfl
theorem dX2_guardsAgainst_7 : decode cX2_guardsAgainst 7 = .ok (.bipush 6, 2) := tb_d tk_X2_guardsAgainst_1 5 (7, .bipush 6, 2) rfl
theorem dX2_guardsAgainst_9 : decode cX2_guardsAgainst 9 = .ok (.if_icmp .ge 43, 3) := tb_d tk_X2_guardsAgainst_1 6 (9, .if_icmp .ge 43, 3) rfl
theorem dX2_guardsAgainst_12 : decode cX2_guardsAgainst 12 = .ok (.iload_n 1, 1) := tb_d tk_X2_guardsAgainst_1 7 (12, .iload_n 1, 1) rfl
theorem dX2_guardsAgainst_13 : decode cX2_guardsAgainst 13 = .ok (.aload_n 0, 1) := tb_d tk_X2_guardsAgainst_1 8 (13, .aload_n 0, 1) rfl
theorem dX2_guardsAgainst_14 : decode cX2_guardsAgainst 14 = .ok (.iload 4, 2) := tb_d tk_X2_guardsAgainst_1 9 (14, .iload 4, 2) rfl
theorem dX2_guardsAgainst_16 : decode cX2_guardsAgainst 16 = .ok (.iload_n 2, 1) := tb_d tk_X2_guardsAgainst_1 10 (16, .iload_n 2, 1) rfl
theorem dX2_guardsAgainst_17 : decode cX2_guardsAgainst 17 = .ok (.invokevirtual 100, 3) := tb_d tk_X2_guardsAgainst_1 11 (17, .invokevirtual 100, 3) rfl
theorem dX2_guardsAgainst_20 : decode cX2_guardsAgainst 20 = .ok (.iconst (-1), 1) := tb_d tk_X2_guardsAgainst_1 12 (20, .iconst (-1), 1) rfl
theorem dX2_guardsAgainst_21 : decode cX2_guardsAgainst 21 = .ok (.ixor, 1) := tb_d tk_X2_guardsAgainst_1 13 (21, .ixor, 1) rfl
theorem dX2_guardsAgainst_22 : decode cX2_guardsAgainst 22 = .ok (.iand, 1) := tb_d tk_X2_guardsAgainst_1 14 (22, .iand, 1) rfl
theorem dX2_guardsAgainst_23 : decode cX2_guardsAgainst 23 = .ok (.ifCond .eq 23, 3) := tb_d tk_X2_guardsAgainst_1 15 (23, .ifCond .eq 23, 3) rfl
theorem dX2_guardsAgainst_26 : decode cX2_guardsAgainst 26 = .ok (.iload_n 3, 1) := tb_d tk_X2_guardsAgainst_1 16 (26, .iload_n 3, 1) rfl
theorem dX2_guardsAgainst_27 : decode cX2_guardsAgainst 27 = .ok (.iconst 1, 1) := tb_d tk_X2_guardsAgainst_1 17 (27, .iconst 1, 1) rfl
theorem dX2_guardsAgainst_28 : decode cX2_guardsAgainst 28 = .ok (.aload_n 0, 1) := tb_d tk_X2_guardsAgainst_1 18 (28, .aload_n 0, 1) rfl
theorem dX2_guardsAgainst_29 : decode cX2_guardsAgainst 29 = .ok (.aload_n 0, 1) := tb_d tk_X2_guardsAgainst_1 19 (29, .aload_n 0, 1) rfl
theorem dX2_guardsAgainst_30 : decode cX2_guardsAgainst 30 = .ok (.getfield 24, 3) := tb_d tk_X2_guardsAgainst_1 20 (30, .getfield 24, 3) rfl
theorem dX2_guardsAgainst_33 : decode cX2_guardsAgainst 33 = .ok (.getfield 58, 3) := tb_d tk_X2_guardsAgainst_1 21 (33, .getfield 58, 3) rfl
theorem dX2_guardsAgainst_36 : decode cX2_guardsAgainst 36 = .ok (.iload_n 2, 1) := tb_d tk_X2_guardsAgainst_1 22 (36, .iload_n 2, 1) rfl
theorem dX2_guardsAgainst_37 : decode cX2_guardsAgainst 37 = .ok (.iadd, 1) := tb_d tk_X2_guardsAgainst_1 23 (37, .iadd, 1) rfl
theorem dX2_guardsAgainst_38 : decode cX2_guardsAgainst 38 = .ok (.iload 4, 2) := tb_d tk_X2_guardsAgainst_1 24 (38, .iload 4, 2) rfl
theorem dX2_guardsAgainst_40 : decode cX2_guardsAgainst 40 = .ok (.invokevirtual 74, 3) := tb_d tk_X2_guardsAgainst_1 25 (40, .invokevirtual 74, 3) rfl
theorem dX2_guardsAgainst_43 : decode cX2_guardsAgainst 43 = .ok (.ishl, 1) := tb_d tk_X2_guardsAgainst_1 26 (43, .ishl, 1) rfl
theorem dX2_guardsAgainst_44 : decode cX2_guardsAgainst 44 = .ok (.ior, 1) := tb_d tk_X2_guardsAgainst_1 27 (44, .ior, 1) rfl
theorem dX2_guardsAgainst_45 : decode cX2_guardsAgainst 45 = .ok (.istore_n 3, 1) := tb_d tk_X2_guardsAgainst_1 28 (45, .istore_n 3, 1) rfl
theorem dX2_guardsAgainst_46 : decode cX2_guardsAgainst 46 = .ok (.iinc 4 1, 3) := tb_d tk_X2_guardsAgainst_1 29 (46, .iinc 4 1, 3) rfl
theorem dX2_guardsAgainst_49 : decode cX2_guardsAgainst 49 = .ok (.goto (-44), 3) := tb_d tk_X2_guardsAgainst_1 30 (49, .goto (-44), 3) rfl
theorem dX2_guardsAgainst_52 : decode cX2_guardsAgainst 52 = .ok (.iload_n 3, 1) := tb_d tk_X2_guardsAgainst_1 31 (52, .iload_n 3, 1) rfl
theorem dX2_guardsAgainst_53 : decode cX2_guardsAgainst 53 = .ok (.ireturn, 1) := tb_d tk_X2_guardsAgainst_1 32 (53, .ireturn, 1) rfl
def tb_X2_feeOf_1 : List (Nat × Instr × Nat) := [(0, .iconst 0, 1), (1, .istore_n 2, 1), (2, .iconst 0, 1), (3, .istore_n 3, 1), (4, .iload_n 3, 1), (5, .aload_n 0, 1), (6, .getfield 48, 3), (9, .if_icmp .ge 24, 3), (12, .iload_n 2, 1), (13, .iload_n 1, 1), (14, .iload_n 3, 1), (15, .ishr, 1), (16, .iconst 1, 1), (17, .iand, 1), (18, .aload_n 0, 1), (19, .getfield 18, 3), (22, .iload_n 3, 1), (23, .iaload, 1), (24, .imul, 1), (25, .iadd, 1), (26, .istore_n 2, 1), (27, .iinc 3 1, 3), (30, .goto (-26), 3), (33, .iload_n 2, 1), (34, .ireturn, 1)]
set_option maxRecDepth 100000 in
theorem tk_X2_feeOf_1 : (tb_X2_feeOf_1.all fun q => decide (decode cX2_feeOf q.1 = .ok q.2)) = true := by decide +kernel
theorem dX2_feeOf_0 : decode cX2_feeOf 0 = .ok (.iconst 0, 1) := tb_d tk_X2_feeOf_1 0 (0, .iconst 0, 1) rfl
theorem dX2_feeOf_1 : decode cX2_feeOf 1 = .ok (.istore_n 2, 1) := tb_d tk_X2_feeOf_1 1 (1, .istore_n 2, 1) rfl
theorem dX2_feeOf_2 : decode cX2_feeOf 2 = .ok (.iconst 0, 1) := tb_d tk_X2_feeOf_1 2 (2, .iconst 0, 1) rfl
theorem dX2_feeOf_3 : decode cX2_feeOf 3 = .ok (.istore_n 3, 1) := tb_d tk_X2_feeOf_1 3 (3, .istore_n 3, 1) rfl
theorem dX2_feeOf_4 : decode cX2_feeOf 4 = .ok (.iload_n 3, 1) := tb_d tk_X2_feeOf_1 4 (4, .iload_n 3, 1) rfl
theorem dX2_feeOf_5 : decode cX2_feeOf 5 = .ok (.aload_n 0, 1) := tb_d tk_X2_feeOf_1 5 (5, .aload_n 0, 1) rfl
theorem dX2_feeOf_6 : decode cX2_feeOf 6 = .ok (.getfield 48, 3) := tb_d tk_X2_feeOf_1 6 (6, .getfield 48, 3) rfl
theorem dX2_feeOf_9 : decode cX2_feeOf 9 = .ok (.if_icmp .ge 24, 3) := tb_d tk_X2_feeOf_1 7 (9, .if_icmp .ge 24, 3) rfl
theorem dX2_feeOf_12 : decode cX2_feeOf 12 = .ok (.iload_n 2, 1) := tb_d tk_X2_feeOf_1 8 (12, .iload_n 2, 1) rfl
theorem dX2_feeOf_13 : decode cX2_feeOf 13 = .ok (.iload_n 1, 1) := tb_d tk_X2_feeOf_1 9 (13, .iload_n 1, 1) rfl
theorem dX2_feeOf_14 : decode cX2_feeOf 14 = .ok (.iload_n 3, 1) := tb_d tk_X2_feeOf_1 10 (14, .iload_n 3, 1) rfl
theorem dX2_feeOf_15 : decode cX2_feeOf 15 = .ok (.ishr, 1) := tb_d tk_X2_feeOf_1 11 (15, .ishr, 1) rfl
theorem dX2_feeOf_16 : decode cX2_feeOf 16 = .ok (.iconst 1, 1) := tb_d tk_X2_feeOf_1 12 (16, .iconst 1, 1) rfl
theorem dX2_feeOf_17 : decode cX2_feeOf 17 = .ok (.iand, 1) := tb_d tk_X2_feeOf_1 13 (17, .iand, 1) rfl
theorem dX2_feeOf_18 : decode cX2_feeOf 18 = .ok (.aload_n 0, 1) := tb_d tk_X2_feeOf_1 14 (18, .aload_n 0, 1) rfl
theorem dX2_feeOf_19 : decode cX2_feeOf 19 = .ok (.getfield 18, 3) := tb_d tk_X2_feeOf_1 15 (19, .getfield 18, 3) rfl
theorem dX2_feeOf_22 : decode cX2_feeOf 22 = .ok (.iload_n 3, 1) := tb_d tk_X2_feeOf_1 16 (22, .iload_n 3, 1) rfl
theorem dX2_feeOf_23 : decode cX2_feeOf 23 = .ok (.iaload, 1) := tb_d tk_X2_feeOf_1 17 (23, .iaload, 1) rfl
theorem dX2_feeOf_24 : decode cX2_feeOf 24 = .ok (.imul, 1) := tb_d tk_X2_feeOf_1 18 (24, .imul, 1) rfl
theorem dX2_feeOf_25 : decode cX2_feeOf 25 = .ok (.iadd, 1) := tb_d tk_X2_feeOf_1 19 (25, .iadd, 1) rfl
theorem dX2_feeOf_26 : decode cX2_feeOf 26 = .ok (.istore_n 2, 1) := tb_d tk_X2_feeOf_1 20 (26, .istore_n 2, 1) rfl
theorem dX2_feeOf_27 : decode cX2_feeOf 27 = .ok (.iinc 3 1, 3) := tb_d tk_X2_feeOf_1 21 (27, .iinc 3 1, 3) rfl
theorem dX2_feeOf_30 : decode cX2_feeOf 30 = .ok (.goto (-26), 3) := tb_d tk_X2_feeOf_1 22 (30, .goto (-26), 3) rfl
theorem dX2_feeOf_33 : decode cX2_feeOf 33 = .ok (.iload_n 2, 1) := tb_d tk_X2_feeOf_1 23 (33, .iload_n 2, 1) rfl
theorem dX2_feeOf_34 : decode cX2_feeOf 34 = .ok (.ireturn, 1) := tb_d tk_X2_feeOf_1 24 (34, .ireturn, 1) rfl
theorem ggX2_nearestTo_X2_distance : GoodIn wsX2_nearestTo wsX2_distance := fun w h => ⟨List.mem_cons_of_mem _ (List.mem_append_right _ (List.mem_append_right _ (List.mem_append_right _ (List.mem_append_left _ h)))), good_of_word (gdX2_distance w h)⟩
set_option maxRecDepth 20000 in
theorem gX2_nearestTo_X2_distance : GoodIn wsX2_nearestTo (wsV RX2 68 RX2 yX2_distance wsX2_distance) := goodIn_app (a := bkV RX2 68 RX2 yX2_distance) (fun w h => ⟨List.mem_cons_of_mem _ (List.mem_append_right _ (List.mem_append_left _ h)), good_of_word (gd_bV _ _ _ _ w h)⟩) ggX2_nearestTo_X2_distance
def tb_X2_nearestTo_1 : List (Nat × Instr × Nat) := [(0, .ldc 103, 2), (2, .istore_n 2, 1), (3, .iconst 4, 1), (4, .istore_n 3, 1), (5, .iconst 0, 1), (6, .istore 4, 2), (8, .iload 4, 2), (10, .aload_n 0, 1), (11, .getfield 45, 3), (14, .if_icmp .ge 37, 3), (17, .iload 4, 2), (19, .iload_n 1, 1), (20, .if_icmp .eq 25, 3), (23, .aload_n 0, 1), (24, .iload_n 1, 1), (25, .iload 4, 2), (27, .invokevirtual 68, 3), (30, .iload_n 3, 1), (31, .if_icmp .ge 14, 3), (34, .iload 4, 2), (36, .istore_n 2, 1), (37, .aload_n 0, 1), (38, .iload_n 1, 1), (39, .iload 4, 2), (41, .invokevirtual 68, 3), (44, .istore_n 3, 1), (45, .iinc 4 1, 3), (48, .goto (-40), 3), (51, .iload_n 2, 1), (52, .ireturn, 1)]
set_option maxRecDepth 100000 in
theorem tk_X2_nearestTo_1 : (tb_X2_nearestTo_1.all fun q => decide (decode cX2_nearestTo q.1 = .ok q.2)) = true := by decide +kernel
theorem dX2_nearestTo_0 : decode cX2_nearestTo 0 = .ok (.ldc 103, 2) := tb_d tk_X2_nearestTo_1 0 (0, .ldc 103, 2) rfl
theorem dX2_nearestTo_2 : decode cX2_nearestTo 2 = .ok (.istore_n 2, 1) := tb_d tk_X2_nearestTo_1 1 (2, .istore_n 2, 1) rfl
theorem dX2_nearestTo_3 : decode cX2_nearestTo 3 = .ok (.iconst 4, 1) := tb_d tk_X2_nearestTo_1 2 (3, .iconst 4, 1) rfl
theorem dX2_nearestTo_4 : decode cX2_nearestTo 4 = .ok (.istore_n 3, 1) := tb_d tk_X2_nearestTo_1 3 (4, .istore_n 3, 1) rfl
theorem dX2_nearestTo_5 : decode cX2_nearestTo 5 = .ok (.iconst 0, 1) := tb_d tk_X2_nearestTo_1 4 (5, .iconst 0, 1) rfl
theorem dX2_nearestTo_6 : decode cX2_nearestTo 6 = .ok (.istore 4, 2) := tb_d tk_X2_nearestTo_1 5 (6, .istore 4, 2) rfl
theorem dX2_nearestTo_8 : decode cX2_nearestTo 8 = .ok (.iload 4, 2) := tb_d tk_X2_nearestTo_1 6 (8, .iload 4, 2) rfl
theorem dX2_nearestTo_10 : decode cX2_nearestTo 10 = .ok (.aload_n 0, 1) := tb_d tk_X2_nearestTo_1 7 (10, .aload_n 0, 1) rfl
theorem dX2_nearestTo_11 : decode cX2_nearestTo 11 = .ok (.getfield 45, 3) := tb_d tk_X2_nearestTo_1 8 (11, .getfield 45, 3) rfl
theorem dX2_nearestTo_14 : decode cX2_nearestTo 14 = .ok (.if_icmp .ge 37, 3) := tb_d tk_X2_nearestTo_1 9 (14, .if_icmp .ge 37, 3) rfl
theorem dX2_nearestTo_17 : decode cX2_nearestTo 17 = .ok (.iload 4, 2) := tb_d tk_X2_nearestTo_1 10 (17, .iload 4, 2) rfl
theorem dX2_nearestTo_19 : decode cX2_nearestTo 19 = .ok (.iload_n 1, 1) := tb_d tk_X2_nearestTo_1 11 (19, .iload_n 1, 1) rfl
theorem dX2_nearestTo_20 : decode cX2_nearestTo 20 = .ok (.if_icmp .eq 25, 3) := tb_d tk_X2_nearestTo_1 12 (20, .if_icmp .eq 25, 3) rfl
theorem dX2_nearestTo_23 : decode cX2_nearestTo 23 = .ok (.aload_n 0, 1) := tb_d tk_X2_nearestTo_1 13 (23, .aload_n 0, 1) rfl
theorem dX2_nearestTo_24 : decode cX2_nearestTo 24 = .ok (.iload_n 1, 1) := tb_d tk_X2_nearestTo_1 14 (24, .iload_n 1, 1) rfl
theorem dX2_nearestTo_25 : decode cX2_nearestTo 25 = .ok (.iload 4, 2) := tb_d tk_X2_nearestTo_1 15 (25, .iload 4, 2) rfl
theorem dX2_nearestTo_27 : decode cX2_nearestTo 27 = .ok (.invokevirtual 68, 3) := tb_d tk_X2_nearestTo_1 16 (27, .invokevirtual 68, 3) rfl
theorem dX2_nearestTo_30 : decode cX2_nearestTo 30 = .ok (.iload_n 3, 1) := tb_d tk_X2_nearestTo_1 17 (30, .iload_n 3, 1) rfl
theorem dX2_nearestTo_31 : decode cX2_nearestTo 31 = .ok (.if_icmp .ge 14, 3) := tb_d tk_X2_nearestTo_1 18 (31, .if_icmp .ge 14, 3) rfl
theorem dX2_nearestTo_34 : decode cX2_nearestTo 34 = .ok (.iload 4, 2) := tb_d tk_X2_nearestTo_1 19 (34, .iload 4, 2) rfl
theorem dX2_nearestTo_36 : decode cX2_nearestTo 36 = .ok (.istore_n 2, 1) := tb_d tk_X2_nearestTo_1 20 (36, .istore_n 2, 1) rfl
theorem dX2_nearestTo_37 : decode cX2_nearestTo 37 = .ok (.aload_n 0, 1) := tb_d tk_X2_nearestTo_1 21 (37, .aload_n 0, 1) rfl
theorem dX2_nearestTo_38 : decode cX2_nearestTo 38 = .ok (.iload_n 1, 1) := tb_d tk_X2_nearestTo_1 22 (38, .iload_n 1, 1) rfl
theorem dX2_nearestTo_39 : decode cX2_nearestTo 39 = .ok (.iload 4, 2) := tb_d tk_X2_nearestTo_1 23 (39, .iload 4, 2) rfl
theorem dX2_nearestTo_41 : decode cX2_nearestTo 41 = .ok (.invokevirtual 68, 3) := tb_d tk_X2_nearestTo_1 24 (41, .invokevirtual 68, 3) rfl
theorem dX2_nearestTo_44 : decode cX2_nearestTo 44 = .ok (.istore_n 3, 1) := tb_d tk_X2_nearestTo_1 25 (44, .istore_n 3, 1) rfl
theorem dX2_nearestTo_45 : decode cX2_nearestTo 45 = .ok (.iinc 4 1, 3) := tb_d tk_X2_nearestTo_1 26 (45, .iinc 4 1, 3) rfl
theorem dX2_nearestTo_48 : decode cX2_nearestTo 48 = .ok (.goto (-40), 3) := tb_d tk_X2_nearestTo_1 27 (48, .goto (-40), 3) rfl
theorem dX2_nearestTo_51 : decode cX2_nearestTo 51 = .ok (.iload_n 2, 1) := tb_d tk_X2_nearestTo_1 28 (51, .iload_n 2, 1) rfl
theorem dX2_nearestTo_52 : decode cX2_nearestTo 52 = .ok (.ireturn, 1) := tb_d tk_X2_nearestTo_1 29 (52, .ireturn, 1) rfl
def tb_X3_init_1 : List (Nat × Instr × Nat) := [(0, .aload_n 0, 1), (1, .invokespecial 3, 3), (4, .aload_n 0, 1), (5, .bipush 36, 2), (7, .newarray .int, 2), (9, .putfield 9, 3), (12, .aload_n 0, 1), (13, .bipush 64, 2), (15, .newarray .int, 2), (17, .putfield 15, 3), (20, .return_, 1)]
set_option maxRecDepth 100000 in
theorem tk_X3_init_1 : (tb_X3_init_1.all fun q => decide (decode cX3_init q.1 = .ok q.2)) = true := by decide +kernel
theorem dX3_init_0 : decode cX3_init 0 = .ok (.aload_n 0, 1) := tb_d tk_X3_init_1 0 (0, .aload_n 0, 1) rfl
theorem dX3_init_1 : decode cX3_init 1 = .ok (.invokespecial 3, 3) := tb_d tk_X3_init_1 1 (1, .invokespecial 3, 3) rfl
theorem dX3_init_4 : decode cX3_init 4 = .ok (.aload_n 0, 1) := tb_d tk_X3_init_1 2 (4, .aload_n 0, 1) rfl
theorem dX3_init_5 : decode cX3_init 5 = .ok (.bipush 36, 2) := tb_d tk_X3_init_1 3 (5, .bipush 36, 2) rfl
theorem dX3_init_7 : decode cX3_init 7 = .ok (.newarray .int, 2) := tb_d tk_X3_init_1 4 (7, .newarray .int, 2) rfl
theorem dX3_init_9 : decode cX3_init 9 = .ok (.putfield 9, 3) := tb_d tk_X3_init_1 5 (9, .putfield 9, 3) rfl
theorem dX3_init_12 : decode cX3_init 12 = .ok (.aload_n 0, 1) := tb_d tk_X3_init_1 6 (12, .aload_n 0, 1) rfl
theorem dX3_init_13 : decode cX3_init 13 = .ok (.bipush 64, 2) := tb_d tk_X3_init_1 7 (13, .bipush 64, 2) rfl
theorem dX3_init_15 : decode cX3_init 15 = .ok (.newarray .int, 2) := tb_d tk_X3_init_1 8 (15, .newarray .int, 2) rfl
theorem dX3_init_17 : decode cX3_init 17 = .ok (.putfield 15, 3) := tb_d tk_X3_init_1 9 (17, .putfield 15, 3) rfl
theorem dX3_init_20 : decode cX3_init 20 = .ok (.return_, 1) := tb_d tk_X3_init_1 10 (20, .return_, 1) rfl
theorem ggX3_agreeing_X3_agreesWithTries : GoodIn wsX3_agreeing wsX3_agreesWithTries := fun w h => ⟨List.mem_cons_of_mem _ (List.mem_append_right _ (List.mem_append_right _ (List.mem_append_right _ (List.mem_append_right _ (List.mem_append_left _ h))))), good_of_word (gdX3_agreesWithTries w h)⟩
set_option maxRecDepth 20000 in
theorem gX3_agreeing_X3_agreesWithTries : GoodIn wsX3_agreeing (va_wsS RX3 24 yX3_agreesWithTries wsX3_agreesWithTries) := goodIn_app (a := bkS RX3 24 yX3_agreesWithTries) (fun w h => ⟨List.mem_cons_of_mem _ (List.mem_append_right _ (List.mem_append_left _ h)), good_of_word (gd_bS _ _ _ w h)⟩) ggX3_agreeing_X3_agreesWithTries
theorem ggX3_agreeing_X7_bit : GoodIn wsX3_agreeing wsX7_bit := fun w h => ⟨List.mem_cons_of_mem _ (List.mem_append_right _ (List.mem_append_right _ (List.mem_append_right _ (List.mem_append_right _ (List.mem_append_right _ (List.mem_append_left _ h)))))), good_of_word (gdX7_bit w h)⟩
set_option maxRecDepth 20000 in
theorem gX3_agreeing_X7_bit_n28 : GoodIn wsX3_agreeing (wsX7_bit) := ggX3_agreeing_X7_bit
def tb_X3_agreeing_1 : List (Nat × Instr × Nat) := [(0, .iconst 0, 1), (1, .istore_n 1, 1), (2, .iconst 0, 1), (3, .istore_n 2, 1), (4, .iload_n 2, 1), (5, .aload_n 0, 1), (6, .getfield 18, 3), (9, .if_icmp .ge 22, 3), (12, .iload_n 1, 1), (13, .aload_n 0, 1), (14, .iload_n 2, 1), (15, .invokestatic 24, 3), (18, .invokestatic 28, 3), (21, .iload_n 2, 1), (22, .ishl, 1), (23, .ior, 1), (24, .istore_n 1, 1), (25, .iinc 2 1, 3), (28, .goto (-24), 3), (31, .iload_n 1, 1), (32, .ireturn, 1)]
set_option maxRecDepth 100000 in
theorem tk_X3_agreeing_1 : (tb_X3_agreeing_1.all fun q => decide (decode cX3_agreeing q.1 = .ok q.2)) = true := by decide +kernel
theorem dX3_agreeing_0 : decode cX3_agreeing 0 = .ok (.iconst 0, 1) := tb_d tk_X3_agreeing_1 0 (0, .iconst 0, 1) rfl
theorem dX3_agreeing_1 : decode cX3_agreeing 1 = .ok (.istore_n 1, 1) := tb_d tk_X3_agreeing_1 1 (1, .istore_n 1, 1) rfl
theorem dX3_agreeing_2 : decode cX3_agreeing 2 = .ok (.iconst 0, 1) := tb_d tk_X3_agreeing_1 2 (2, .iconst 0, 1) rfl
theorem dX3_agreeing_3 : decode cX3_agreeing 3 = .ok (.istore_n 2, 1) := tb_d tk_X3_agreeing_1 3 (3, .istore_n 2, 1) rfl
theorem dX3_agreeing_4 : decode cX3_agreeing 4 = .ok (.iload_n 2, 1) := tb_d tk_X3_agreeing_1 4 (4, .iload_n 2, 1) rfl
theorem dX3_agreeing_5 : decode cX3_agreeing 5 = .ok (.aload_n 0, 1) := tb_d tk_X3_agreeing_1 5 (5, .aload_n 0, 1) rfl
theorem dX3_agreeing_6 : decode cX3_agreeing 6 = .ok (.getfield 18, 3) := tb_d tk_X3_agreeing_1 6 (6, .getfield 18, 3) rfl
theorem dX3_agreeing_9 : decode cX3_agreeing 9 = .ok (.if_icmp .ge 22, 3) := tb_d tk_X3_agreeing_1 7 (9, .if_icmp .ge 22, 3) rfl
theorem dX3_agreeing_12 : decode cX3_agreeing 12 = .ok (.iload_n 1, 1) := tb_d tk_X3_agreeing_1 8 (12, .iload_n 1, 1) rfl
theorem dX3_agreeing_13 : decode cX3_agreeing 13 = .ok (.aload_n 0, 1) := tb_d tk_X3_agreeing_1 9 (13, .aload_n 0, 1) rfl
theorem dX3_agreeing_14 : decode cX3_agreeing 14 = .ok (.iload_n 2, 1) := tb_d tk_X3_agreeing_1 10 (14, .iload_n 2, 1) rfl
theorem dX3_agreeing_15 : decode cX3_agreeing 15 = .ok (.invokestatic 24, 3) := tb_d tk_X3_agreeing_1 11 (15, .invokestatic 24, 3) rfl
theorem dX3_agreeing_18 : decode cX3_agreeing 18 = .ok (.invokestatic 28, 3) := tb_d tk_X3_agreeing_1 12 (18, .invokestatic 28, 3) rfl
theorem dX3_agreeing_21 : decode cX3_agreeing 21 = .ok (.iload_n 2, 1) := tb_d tk_X3_agreeing_1 13 (21, .iload_n 2, 1) rfl
theorem dX3_agreeing_22 : decode cX3_agreeing 22 = .ok (.ishl, 1) := tb_d tk_X3_agreeing_1 14 (22, .ishl, 1) rfl
theorem dX3_agreeing_23 : decode cX3_agreeing 23 = .ok (.ior, 1) := tb_d tk_X3_agreeing_1 15 (23, .ior, 1) rfl
theorem dX3_agreeing_24 : decode cX3_agreeing 24 = .ok (.istore_n 1, 1) := tb_d tk_X3_agreeing_1 16 (24, .istore_n 1, 1) rfl
theorem dX3_agreeing_25 : decode cX3_agreeing 25 = .ok (.iinc 2 1, 3) := tb_d tk_X3_agreeing_1 17 (25, .iinc 2 1, 3) rfl
theorem dX3_agreeing_28 : decode cX3_agreeing 28 = .ok (.goto (-24), 3) := tb_d tk_X3_agreeing_1 18 (28, .goto (-24), 3) rfl
theorem dX3_agreeing_31 : decode cX3_agreeing 31 = .ok (.iload_n 1, 1) := tb_d tk_X3_agreeing_1 19 (31, .iload_n 1, 1) rfl
theorem dX3_agreeing_32 : decode cX3_agreeing 32 = .ok (.ireturn, 1) := tb_d tk_X3_agreeing_1 20 (32, .ireturn, 1) rfl
theorem ggX3_agreesWithTries_X2_wouldTake : GoodIn wsX3_agreesWithTries wsX2_wouldTake := fun w h => ⟨List.mem_cons_of_mem _ (List.mem_append_right _ (List.mem_append_right _ (List.mem_append_right _ (List.mem_append_right _ (List.mem_append_left _ h))))), good_of_word (gdX2_wouldTake w h)⟩
set_option maxRecDepth 20000 in
theorem gX3_agreesWithTries_X2_wouldTake : GoodIn wsX3_agreesWithTries (wsV RX3 56 RX2 yX2_wouldTake wsX2_wouldTake) := goodIn_app (a := bkV RX3 56 RX2 yX2_wouldTake) (fun w h => ⟨List.mem_cons_of_mem _ (List.mem_append_right _ (List.mem_append_left _ h)), good_of_word (gd_bV _ _ _ _ w h)⟩) ggX3_agreesWithTries_X2_wouldTake
theorem ggX3_agreesWithTries_X7_bit : GoodIn wsX3_agreesWithTries wsX7_bit := fun w h => ⟨List.mem_cons_of_mem _ (List.mem_append_right _ (List.mem_append_right _ (List.mem_append_right _ (List.mem_append_right _ (List.mem_append_right _ (List.mem_append_left _ h)))))), good_of_word (gdX7_bit w h)⟩
set_option maxRecDepth 20000 in
theorem gX3_agreesWithTries_X7_bit_n28 : GoodIn wsX3_agreesWithTries (wsX7_bit) := ggX3_agreesWithTries_X7_bit
def tb_X3_agreesWithTries_1 : List (Nat × Instr × Nat) := [(0, .aload_n 0, 1), (1, .getfield 32, 3), (4, .astore_n 2, 1), (5, .iconst 0, 1), (6, .istore_n 3, 1), (7, .iload_n 3, 1), (8, .aload_n 2, 1), (9, .getfield 36, 3), (12, .if_icmp .ge 79, 3), (15, .aload_n 2, 1), (16, .getfield 41, 3), (19, .iload_n 3, 1), (20, .iaload, 1), (21, .istore 4, 2), (23, .iload 4, 2), (25, .ifCond .lt 41, 3), (28, .iload 4, 2), (30, .aload_n 0, 1), (31, .getfield 44, 3), (34, .if_icmp .ge 32, 3), (37, .aload_n 0, 1), (38, .aload_n 0, 1), (39, .getfield 47, 3), (42, .iload 4, 2), (44, .iaload, 1), (45, .aload_n 2, 1), (46, .getfield 50, 3), (49, .iload_n 3, 1), (50, .iaload, 1), (51, .iload_n 1, 1), (52, .aload_n 2, 1), (53, .getfield 53, 3), (56, .invokevirtual 56, 3), (59, .ifCond .eq 7, 3), (62, .iconst 1, 1), (63, .goto 4, 3), (66, .iconst 0, 1), (67, .istore 5, 2), (69, .iload 5, 2), (71, .invokestatic 28, 3)]
set_option maxRecDepth 100000 in
theorem tk_X3_agreesWithTries_1 : (tb_X3_agreesWithTries_1.all fun q => decide (decode cX3_agreesWithTries q.1 = .ok q.2)) = true := by decide +kernel
theorem dX3_agreesWithTries_0 : decode cX3_agreesWithTries 0 = .ok (.aload_n 0, 1) := tb_d tk_X3_agreesWithTries_1 0 (0, .aload_n 0, 1) rfl
theorem dX3_agreesWithTries_1 : decode cX3_agreesWithTries 1 = .ok (.getfield 32, 3) := tb_d tk_X3_agreesWithTries_1 1 (1, .getfield 32, 3) rfl
theorem dX3_agreesWithTries_4 : decode cX3_agreesWithTries 4 = .ok (.astore_n 2, 1) := tb_d tk_X3_agreesWithTries_1 2 (4, .astore_n 2, 1) rfl
theorem dX3_agreesWithTries_5 : decode cX3_agreesWithTries 5 = .ok (.iconst 0, 1) := tb_d tk_X3_agreesWithTries_1 3 (5, .iconst 0, 1) rfl
theorem dX3_agreesWithTries_6 : decode cX3_agreesWithTries 6 = .ok (.istore_n 3, 1) := tb_d tk_X3_agreesWithTries_1 4 (6, .istore_n 3, 1) rfl
theorem dX3_agreesWithTries_7 : decode cX3_agreesWithTries 7 = .ok (.iload_n 3, 1) := tb_d tk_X3_agreesWithTries_1 5 (7, .iload_n 3, 1) rfl
theorem dX3_agreesWithTries_8 : decode cX3_agreesWithTries 8 = .ok (.aload_n 2, 1) := tb_d tk_X3_agreesWithTries_1 6 (8, .aload_n 2, 1) rfl
theorem dX3_agreesWithTries_9 : decode cX3_agreesWithTries 9 = .ok (.getfield 36, 3) := tb_d tk_X3_agreesWithTries_1 7 (9, .getfield 36, 3) rfl
theorem dX3_agreesWithTries_12 : decode cX3_agreesWithTries 12 = .ok (.if_icmp .ge 79, 3) := tb_d tk_X3_agreesWithTries_1 8 (12, .if_icmp .ge 79, 3) rfl
theorem dX3_agreesWithTries_15 : decode cX3_agreesWithTries 15 = .ok (.aload_n 2, 1) := tb_d tk_X3_agreesWithTries_1 9 (15, .aload_n 2, 1) rfl
theorem dX3_agreesWithTries_16 : decode cX3_agreesWithTries 16 = .ok (.getfield 41, 3) := tb_d tk_X3_agreesWithTries_1 10 (16, .getfield 41, 3) rfl
theorem dX3_agreesWithTries_19 : decode cX3_agreesWithTries 19 = .ok (.iload_n 3, 1) := tb_d tk_X3_agreesWithTries_1 11 (19, .iload_n 3, 1) rfl
theorem dX3_agreesWithTries_20 : decode cX3_agreesWithTries 20 = .ok (.iaload, 1) := tb_d tk_X3_agreesWithTries_1 12 (20, .iaload, 1) rfl
theorem dX3_agreesWithTries_21 : decode cX3_agreesWithTries 21 = .ok (.istore 4, 2) := tb_d tk_X3_agreesWithTries_1 13 (21, .istore 4, 2) rfl
theorem dX3_agreesWithTries_23 : decode cX3_agreesWithTries 23 = .ok (.iload 4, 2) := tb_d tk_X3_agreesWithTries_1 14 (23, .iload 4, 2) rfl
theorem dX3_agreesWithTries_25 : decode cX3_agreesWithTries 25 = .ok (.ifCond .lt 41, 3) := tb_d tk_X3_agreesWithTries_1 15 (25, .ifCond .lt 41, 3) rfl
theorem dX3_agreesWithTries_28 : decode cX3_agreesWithTries 28 = .ok (.iload 4, 2) := tb_d tk_X3_agreesWithTries_1 16 (28, .iload 4, 2) rfl
theorem dX3_agreesWithTries_30 : decode cX3_agreesWithTries 30 = .ok (.aload_n 0, 1) := tb_d tk_X3_agreesWithTries_1 17 (30, .aload_n 0, 1) rfl
theorem dX3_agreesWithTries_31 : decode cX3_agreesWithTries 31 = .ok (.getfield 44, 3) := tb_d tk_X3_agreesWithTries_1 18 (31, .getfield 44, 3) rfl
theorem dX3_agreesWithTries_34 : decode cX3_agreesWithTries 34 = .ok (.if_icmp .ge 32, 3) := tb_d tk_X3_agreesWithTries_1 19 (34, .if_icmp .ge 32, 3) rfl
theorem dX3_agreesWithTries_37 : decode cX3_agreesWithTries 37 = .ok (.aload_n 0, 1) := tb_d tk_X3_agreesWithTries_1 20 (37, .aload_n 0, 1) rfl
theorem dX3_agreesWithTries_38 : decode cX3_agreesWithTries 38 = .ok (.aload_n 0, 1) := tb_d tk_X3_agreesWithTries_1 21 (38, .aload_n 0, 1) rfl
theorem dX3_agreesWithTries_39 : decode cX3_agreesWithTries 39 = .ok (.getfield 47, 3) := tb_d tk_X3_agreesWithTries_1 22 (39, .getfield 47, 3) rfl
theorem dX3_agreesWithTries_42 : decode cX3_agreesWithTries 42 = .ok (.iload 4, 2) := tb_d tk_X3_agreesWithTries_1 23 (42, .iload 4, 2) rfl
theorem dX3_agreesWithTries_44 : decode cX3_agreesWithTries 44 = .ok (.iaload, 1) := tb_d tk_X3_agreesWithTries_1 24 (44, .iaload, 1) rfl
theorem dX3_agreesWithTries_45 : decode cX3_agreesWithTries 45 = .ok (.aload_n 2, 1) := tb_d tk_X3_agreesWithTries_1 25 (45, .aload_n 2, 1) rfl
theorem dX3_agreesWithTries_46 : decode cX3_agreesWithTries 46 = .ok (.getfield 50, 3) := tb_d tk_X3_agreesWithTries_1 26 (46, .getfield 50, 3) rfl
theorem dX3_agreesWithTries_49 : decode cX3_agreesWithTries 49 = .ok (.iload_n 3, 1) := tb_d tk_X3_agreesWithTries_1 27 (49, .iload_n 3, 1) rfl
theorem dX3_agreesWithTries_50 : decode cX3_agreesWithTries 50 = .ok (.iaload, 1) := tb_d tk_X3_agreesWithTries_1 28 (50, .iaload, 1) rfl
theorem dX3_agreesWithTries_51 : decode cX3_agreesWithTries 51 = .ok (.iload_n 1, 1) := tb_d tk_X3_agreesWithTries_1 29 (51, .iload_n 1, 1) rfl
theorem dX3_agreesWithTries_52 : decode cX3_agreesWithTries 52 = .ok (.aload_n 2, 1) := tb_d tk_X3_agreesWithTries_1 30 (52, .aload_n 2, 1) rfl
theorem dX3_agreesWithTries_53 : decode cX3_agreesWithTries 53 = .ok (.getfield 53, 3) := tb_d tk_X3_agreesWithTries_1 31 (53, .getfield 53, 3) rfl
theorem dX3_agreesWithTries_56 : decode cX3_agreesWithTries 56 = .ok (.invokevirtual 56, 3) := tb_d tk_X3_agreesWithTries_1 32 (56, .invokevirtual 56, 3) rfl
theorem dX3_agreesWithTries_59 : decode cX3_agreesWithTries 59 = .ok (.ifCond .eq 7, 3) := tb_d tk_X3_agreesWithTries_1 33 (59, .ifCond .eq 7, 3) rfl
theorem dX3_agreesWithTries_62 : decode cX3_agreesWithTries 62 = .ok (.iconst 1, 1) := tb_d tk_X3_agreesWithTries_1 34 (62, .iconst 1, 1) rfl
theorem dX3_agreesWithTries_63 : decode cX3_agreesWithTries 63 = .ok (.goto 4, 3) := tb_d tk_X3_agreesWithTries_1 35 (63, .goto 4, 3) rfl
theorem dX3_agreesWithTries_66 : decode cX3_agreesWithTries 66 = .ok (.iconst 0, 1) := tb_d tk_X3_agreesWithTries_1 36 (66, .iconst 0, 1) rfl
theorem dX3_agreesWithTries_67 : decode cX3_agreesWithTries 67 = .ok (.istore 5, 2) := tb_d tk_X3_agreesWithTries_1 37 (67, .istore 5, 2) rfl
theorem dX3_agreesWithTries_69 : decode cX3_agreesWithTries 69 = .ok (.iload 5, 2) := tb_d tk_X3_agreesWithTries_1 38 (69, .iload 5, 2) rfl
theorem dX3_agreesWithTries_71 : decode cX3_agreesWithTries 71 = .ok (.invokestatic 28, 3) := tb_d tk_X3_agreesWithTries_1 39 (71, .invokestatic 28, 3) rfl
def tb_X3_agreesWithTries_2 : List (Nat × Instr × Nat) := [(74, .aload_n 2, 1), (75, .getfield 60, 3), (78, .iload_n 3, 1), (79, .iaload, 1), (80, .if_icmp .eq 5, 3), (83, .iconst 0, 1), (84, .ireturn, 1), (85, .iinc 3 1, 3), (88, .goto (-81), 3), (91, .iconst 1, 1), (92, .ireturn, 1)]
set_option maxRecDepth 100000 in
theorem tk_X3_agreesWithTries_2 : (tb_X3_agreesWithTries_2.all fun q => decide (decode cX3_agreesWithTries q.1 = .ok q.2)) = true := by decide +kernel
theorem dX3_agreesWithTries_74 : decode cX3_agreesWithTries 74 = .ok (.aload_n 2, 1) := tb_d tk_X3_agreesWithTries_2 0 (74, .aload_n 2, 1) rfl
theorem dX3_agreesWithTries_75 : decode cX3_agreesWithTries 75 = .ok (.getfield 60, 3) := tb_d tk_X3_agreesWithTries_2 1 (75, .getfield 60, 3) rfl
theorem dX3_agreesWithTries_78 : decode cX3_agreesWithTries 78 = .ok (.iload_n 3, 1) := tb_d tk_X3_agreesWithTries_2 2 (78, .iload_n 3, 1) rfl
theorem dX3_agreesWithTries_79 : decode cX3_agreesWithTries 79 = .ok (.iaload, 1) := tb_d tk_X3_agreesWithTries_2 3 (79, .iaload, 1) rfl
theorem dX3_agreesWithTries_80 : decode cX3_agreesWithTries 80 = .ok (.if_icmp .eq 5, 3) := tb_d tk_X3_agreesWithTries_2 4 (80, .if_icmp .eq 5, 3) rfl
theorem dX3_agreesWithTries_83 : decode cX3_agreesWithTries 83 = .ok (.iconst 0, 1) := tb_d tk_X3_agreesWithTries_2 5 (83, .iconst 0, 1) rfl
theorem dX3_agreesWithTries_84 : decode cX3_agreesWithTries 84 = .ok (.ireturn, 1) := tb_d tk_X3_agreesWithTries_2 6 (84, .ireturn, 1) rfl
theorem dX3_agreesWithTries_85 : decode cX3_agreesWithTries 85 = .ok (.iinc 3 1, 3) := tb_d tk_X3_agreesWithTries_2 7 (85, .iinc 3 1, 3) rfl
theorem dX3_agreesWithTries_88 : decode cX3_agreesWithTries 88 = .ok (.goto (-81), 3) := tb_d tk_X3_agreesWithTries_2 8 (88, .goto (-81), 3) rfl
theorem dX3_agreesWithTries_91 : decode cX3_agreesWithTries 91 = .ok (.iconst 1, 1) := tb_d tk_X3_agreesWithTries_2 9 (91, .iconst 1, 1) rfl
theorem dX3_agreesWithTries_92 : decode cX3_agreesWithTries 92 = .ok (.ireturn, 1) := tb_d tk_X3_agreesWithTries_2 10 (92, .ireturn, 1) rfl
theorem ggX3_secretsCatching_X2_catchesIf : GoodIn wsX3_secretsCatching wsX2_catchesIf := fun w h => ⟨List.mem_cons_of_mem _ (List.mem_append_right _ (List.mem_append_right _ (List.mem_append_right _ (List.mem_append_right _ (List.mem_append_left _ h))))), good_of_word (gdX2_catchesIf w h)⟩
set_option maxRecDepth 20000 in
theorem gX3_secretsCatching_X2_catchesIf : GoodIn wsX3_secretsCatching (wsV RX3 63 RX2 yX2_catchesIf wsX2_catchesIf) := goodIn_app (a := bkV RX3 63 RX2 yX2_catchesIf) (fun w h => ⟨List.mem_cons_of_mem _ (List.mem_append_right _ (List.mem_append_left _ h)), good_of_word (gd_bV _ _ _ _ w h)⟩) ggX3_secretsCatching_X2_catchesIf
theorem ggX3_secretsCatching_X7_bit : GoodIn wsX3_secretsCatching wsX7_bit := fun w h => ⟨List.mem_cons_of_mem _ (List.mem_append_right _ (List.mem_append_right _ (List.mem_append_right _ (List.mem_append_right _ (List.mem_append_right _ (List.mem_append_left _ h)))))), good_of_word (gdX7_bit w h)⟩
set_option maxRecDepth 20000 in
theorem gX3_secretsCatching_X7_bit_n28 : GoodIn wsX3_secretsCatching (wsX7_bit) := ggX3_secretsCatching_X7_bit
def tb_X3_secretsCatching_1 : List (Nat × Instr × Nat) := [(0, .iconst 0, 1), (1, .istore_n 3, 1), (2, .iconst 0, 1), (3, .istore 4, 2), (5, .iload 4, 2), (7, .aload_n 0, 1), (8, .getfield 18, 3), (11, .if_icmp .ge 33, 3), (14, .iload_n 3, 1), (15, .aload_n 0, 1), (16, .iload 4, 2), (18, .iload_n 1, 1), (19, .iload_n 2, 1), (20, .aload_n 0, 1), (21, .getfield 32, 3), (24, .getfield 53, 3), (27, .invokevirtual 63, 3), (30, .invokestatic 28, 3), (33, .iload 4, 2), (35, .ishl, 1), (36, .ior, 1), (37, .istore_n 3, 1), (38, .iinc 4 1, 3), (41, .goto (-36), 3), (44, .iload_n 3, 1), (45, .ireturn, 1)]
set_option maxRecDepth 100000 in
theorem tk_X3_secretsCatching_1 : (tb_X3_secretsCatching_1.all fun q => decide (decode cX3_secretsCatching q.1 = .ok q.2)) = true := by decide +kernel
theorem dX3_secretsCatching_0 : decode cX3_secretsCatching 0 = .ok (.iconst 0, 1) := tb_d tk_X3_secretsCatching_1 0 (0, .iconst 0, 1) rfl
theorem dX3_secretsCatching_1 : decode cX3_secretsCatching 1 = .ok (.istore_n 3, 1) := tb_d tk_X3_secretsCatching_1 1 (1, .istore_n 3, 1) rfl
theorem dX3_secretsCatching_2 : decode cX3_secretsCatching 2 = .ok (.iconst 0, 1) := tb_d tk_X3_secretsCatching_1 2 (2, .iconst 0, 1) rfl
theorem dX3_secretsCatching_3 : decode cX3_secretsCatching 3 = .ok (.istore 4, 2) := tb_d tk_X3_secretsCatching_1 3 (3, .istore 4, 2) rfl
theorem dX3_secretsCatching_5 : decode cX3_secretsCatching 5 = .ok (.iload 4, 2) := tb_d tk_X3_secretsCatching_1 4 (5, .iload 4, 2) rfl
theorem dX3_secretsCatching_7 : decode cX3_secretsCatching 7 = .ok (.aload_n 0, 1) := tb_d tk_X3_secretsCatching_1 5 (7, .aload_n 0, 1) rfl
theorem dX3_secretsCatching_8 : decode cX3_secretsCatching 8 = .ok (.getfield 18, 3) := tb_d tk_X3_secretsCatching_1 6 (8, .getfield 18, 3) rfl
theorem dX3_secretsCatching_11 : decode cX3_secretsCatching 11 = .ok (.if_icmp .ge 33, 3) := tb_d tk_X3_secretsCatching_1 7 (11, .if_icmp .ge 33, 3) rfl
theorem dX3_secretsCatching_14 : decode cX3_secretsCatching 14 = .ok (.iload_n 3, 1) := tb_d tk_X3_secretsCatching_1 8 (14, .iload_n 3, 1) rfl
theorem dX3_secretsCatching_15 : decode cX3_secretsCatching 15 = .ok (.aload_n 0, 1) := tb_d tk_X3_secretsCatching_1 9 (15, .aload_n 0, 1) rfl
theorem dX3_secretsCatching_16 : decode cX3_secretsCatching 16 = .ok (.iload 4, 2) := tb_d tk_X3_secretsCatching_1 10 (16, .iload 4, 2) rfl
theorem dX3_secretsCatching_18 : decode cX3_secretsCatching 18 = .ok (.iload_n 1, 1) := tb_d tk_X3_secretsCatching_1 11 (18, .iload_n 1, 1) rfl
theorem dX3_secretsCatching_19 : decode cX3_secretsCatching 19 = .ok (.iload_n 2, 1) := tb_d tk_X3_secretsCatching_1 12 (19, .iload_n 2, 1) rfl
theorem dX3_secretsCatching_20 : decode cX3_secretsCatching 20 = .ok (.aload_n 0, 1) := tb_d tk_X3_secretsCatching_1 13 (20, .aload_n 0, 1) rfl
theorem dX3_secretsCatching_21 : decode cX3_secretsCatching 21 = .ok (.getfield 32, 3) := tb_d tk_X3_secretsCatching_1 14 (21, .getfield 32, 3) rfl
theorem dX3_secretsCatching_24 : decode cX3_secretsCatching 24 = .ok (.getfield 53, 3) := tb_d tk_X3_secretsCatching_1 15 (24, .getfield 53, 3) rfl
theorem dX3_secretsCatching_27 : decode cX3_secretsCatching 27 = .ok (.invokevirtual 63, 3) := tb_d tk_X3_secretsCatching_1 16 (27, .invokevirtual 63, 3) rfl
theorem dX3_secretsCatching_30 : decode cX3_secretsCatching 30 = .ok (.invokestatic 28, 3) := tb_d tk_X3_secretsCatching_1 17 (30, .invokestatic 28, 3) rfl
theorem dX3_secretsCatching_33 : decode cX3_secretsCatching 33 = .ok (.iload 4, 2) := tb_d tk_X3_secretsCatching_1 18 (33, .iload 4, 2) rfl
theorem dX3_secretsCatching_35 : decode cX3_secretsCatching 35 = .ok (.ishl, 1) := tb_d tk_X3_secretsCatching_1 19 (35, .ishl, 1) rfl
theorem dX3_secretsCatching_36 : decode cX3_secretsCatching 36 = .ok (.ior, 1) := tb_d tk_X3_secretsCatching_1 20 (36, .ior, 1) rfl
theorem dX3_secretsCatching_37 : decode cX3_secretsCatching 37 = .ok (.istore_n 3, 1) := tb_d tk_X3_secretsCatching_1 21 (37, .istore_n 3, 1) rfl
theorem dX3_secretsCatching_38 : decode cX3_secretsCatching 38 = .ok (.iinc 4 1, 3) := tb_d tk_X3_secretsCatching_1 22 (38, .iinc 4 1, 3) rfl
theorem dX3_secretsCatching_41 : decode cX3_secretsCatching 41 = .ok (.goto (-36), 3) := tb_d tk_X3_secretsCatching_1 23 (41, .goto (-36), 3) rfl
theorem dX3_secretsCatching_44 : decode cX3_secretsCatching 44 = .ok (.iload_n 3, 1) := tb_d tk_X3_secretsCatching_1 24 (44, .iload_n 3, 1) rfl
theorem dX3_secretsCatching_45 : decode cX3_secretsCatching 45 = .ok (.ireturn, 1) := tb_d tk_X3_secretsCatching_1 25 (45, .ireturn, 1) rfl
theorem ggX3_leftAtWorst_X3_secretsCatching : GoodIn wsX3_leftAtWorst wsX3_secretsCatching := fun w h => ⟨List.mem_cons_of_mem _ (List.mem_append_right _ (List.mem_append_right _ (List.mem_append_right _ (List.mem_append_right _ (List.mem_append_right _ (List.mem_append_left _ h)))))), good_of_word (gdX3_secretsCatching w h)⟩
set_option maxRecDepth 20000 in
theorem gX3_leftAtWorst_X3_secretsCatching : GoodIn wsX3_leftAtWorst (va_wsS RX3 66 yX3_secretsCatching wsX3_secretsCatching) := goodIn_app (a := bkS RX3 66 yX3_secretsCatching) (fun w h => ⟨List.mem_cons_of_mem _ (List.mem_append_right _ (List.mem_append_left _ h)), good_of_word (gd_bS _ _ _ w h)⟩) ggX3_leftAtWorst_X3_secretsCatching
theorem ggX3_leftAtWorst_J6_bitCount_0f7a4 : GoodIn wsX3_leftAtWorst wsJ6_bitCount_0f7a4 := fun w h => ⟨List.mem_cons_of_mem _ (List.mem_append_right _ (List.mem_append_right _ (List.mem_append_right _ (List.mem_append_right _ (List.mem_append_right _ (List.mem_append_right _ (List.mem_append_left _ h))))))), good_of_word (gdJ6_bitCount_0f7a4 w h)⟩
set_option maxRecDepth 20000 in
theorem gX3_leftAtWorst_J6_bitCount_0f7a4 : GoodIn wsX3_leftAtWorst (va_wsS RX3 70 yJ6_bitCount_0f7a4 wsJ6_bitCount_0f7a4) := goodIn_app (a := bkS RX3 70 yJ6_bitCount_0f7a4) (fun w h => ⟨List.mem_cons_of_mem _ (List.mem_append_right _ (List.mem_append_right _ (List.mem_append_left _ h))), good_of_word (gd_bS _ _ _ w h)⟩) ggX3_leftAtWorst_J6_bitCount_0f7a4
def tb_X3_leftAtWorst_1 : List (Nat × Instr × Nat) := [(0, .iload_n 2, 1), (1, .aload_n 0, 1), (2, .iload_n 1, 1), (3, .bipush 6, 2), (5, .idiv, 1), (6, .iload_n 1, 1), (7, .bipush 6, 2), (9, .irem, 1), (10, .invokestatic 66, 3), (13, .iand, 1), (14, .invokestatic 70, 3), (17, .istore_n 3, 1), (18, .iload_n 3, 1), (19, .iload_n 2, 1), (20, .invokestatic 70, 3), (23, .iload_n 3, 1), (24, .isub, 1), (25, .invokestatic 76, 3), (28, .ireturn, 1)]
set_option maxRecDepth 100000 in
theorem tk_X3_leftAtWorst_1 : (tb_X3_leftAtWorst_1.all fun q => decide (decode cX3_leftAtWorst q.1 = .ok q.2)) = true := by decide +kernel
theorem dX3_leftAtWorst_0 : decode cX3_leftAtWorst 0 = .ok (.iload_n 2, 1) := tb_d tk_X3_leftAtWorst_1 0 (0, .iload_n 2, 1) rfl
theorem dX3_leftAtWorst_1 : decode cX3_leftAtWorst 1 = .ok (.aload_n 0, 1) := tb_d tk_X3_leftAtWorst_1 1 (1, .aload_n 0, 1) rfl
theorem dX3_leftAtWorst_2 : decode cX3_leftAtWorst 2 = .ok (.iload_n 1, 1) := tb_d tk_X3_leftAtWorst_1 2 (2, .iload_n 1, 1) rfl
theorem dX3_leftAtWorst_3 : decode cX3_leftAtWorst 3 = .ok (.bipush 6, 2) := tb_d tk_X3_leftAtWorst_1 3 (3, .bipush 6, 2) rfl
theorem dX3_leftAtWorst_5 : decode cX3_leftAtWorst 5 = .ok (.idiv, 1) := tb_d tk_X3_leftAtWorst_1 4 (5, .idiv, 1) rfl
theorem dX3_leftAtWorst_6 : decode cX3_leftAtWorst 6 = .ok (.iload_n 1, 1) := tb_d tk_X3_leftAtWorst_1 5 (6, .iload_n 1, 1) rfl
theorem dX3_leftAtWorst_7 : decode cX3_leftAtWorst 7 = .ok (.bipush 6, 2) := tb_d tk_X3_leftAtWorst_1 6 (7, .bipush 6, 2) rfl
theorem dX3_leftAtWorst_9 : decode cX3_leftAtWorst 9 = .ok (.irem, 1) := tb_d tk_X3_leftAtWorst_1 7 (9, .irem, 1) rfl
theorem dX3_leftAtWorst_10 : decode cX3_leftAtWorst 10 = .ok (.invokestatic 66, 3) := tb_d tk_X3_leftAtWorst_1 8 (10, .invokestatic 66, 3) rfl
theorem dX3_leftAtWorst_13 : decode cX3_leftAtWorst 13 = .ok (.iand, 1) := tb_d tk_X3_leftAtWorst_1 9 (13, .iand, 1) rfl
theorem dX3_leftAtWorst_14 : decode cX3_leftAtWorst 14 = .ok (.invokestatic 70, 3) := tb_d tk_X3_leftAtWorst_1 10 (14, .invokestatic 70, 3) rfl
theorem dX3_leftAtWorst_17 : decode cX3_leftAtWorst 17 = .ok (.istore_n 3, 1) := tb_d tk_X3_leftAtWorst_1 11 (17, .istore_n 3, 1) rfl
theorem dX3_leftAtWorst_18 : decode cX3_leftAtWorst 18 = .ok (.iload_n 3, 1) := tb_d tk_X3_leftAtWorst_1 12 (18, .iload_n 3, 1) rfl
theorem dX3_leftAtWorst_19 : decode cX3_leftAtWorst 19 = .ok (.iload_n 2, 1) := tb_d tk_X3_leftAtWorst_1 13 (19, .iload_n 2, 1) rfl
theorem dX3_leftAtWorst_20 : decode cX3_leftAtWorst 20 = .ok (.invokestatic 70, 3) := tb_d tk_X3_leftAtWorst_1 14 (20, .invokestatic 70, 3) rfl
theorem dX3_leftAtWorst_23 : decode cX3_leftAtWorst 23 = .ok (.iload_n 3, 1) := tb_d tk_X3_leftAtWorst_1 15 (23, .iload_n 3, 1) rfl
theorem dX3_leftAtWorst_24 : decode cX3_leftAtWorst 24 = .ok (.isub, 1) := tb_d tk_X3_leftAtWorst_1 16 (24, .isub, 1) rfl
theorem dX3_leftAtWorst_25 : decode cX3_leftAtWorst 25 = .ok (.invokestatic 76, 3) := tb_d tk_X3_leftAtWorst_1 17 (25, .invokestatic 76, 3) rfl
theorem dX3_leftAtWorst_28 : decode cX3_leftAtWorst 28 = .ok (.ireturn, 1) := tb_d tk_X3_leftAtWorst_1 18 (28, .ireturn, 1) rfl
theorem ggX3_bestTry_X3_leftAtWorst : GoodIn wsX3_bestTry wsX3_leftAtWorst := fun w h => ⟨List.mem_cons_of_mem _ (List.mem_append_right _ (List.mem_append_right _ (List.mem_append_right _ (List.mem_append_right _ (List.mem_append_left _ h))))), good_of_word (gdX3_leftAtWorst w h)⟩
set_option maxRecDepth 20000 in
theorem gX3_bestTry_X3_leftAtWorst : GoodIn wsX3_bestTry (va_wsS RX3 82 yX3_leftAtWorst wsX3_leftAtWorst) := goodIn_app (a := bkS RX3 82 yX3_leftAtWorst) (fun w h => ⟨List.mem_cons_of_mem _ (List.mem_append_right _ (List.mem_append_left _ h)), good_of_word (gd_bS _ _ _ w h)⟩) ggX3_bestTry_X3_leftAtWorst
def tb_X3_bestTry_1 : List (Nat × Instr × Nat) := [(0, .iconst 0, 1), (1, .istore_n 2, 1), (2, .aload_n 0, 1), (3, .iconst 0, 1), (4, .iload_n 1, 1), (5, .invokestatic 82, 3), (8, .istore_n 3, 1), (9, .iconst 1, 1), (10, .istore 4, 2), (12, .iload 4, 2), (14, .aload_n 0, 1), (15, .getfield 18, 3), (18, .bipush 6, 2), (20, .imul, 1), (21, .if_icmp .ge 30, 3), (24, .aload_n 0, 1), (25, .iload 4, 2), (27, .iload_n 1, 1), (28, .invokestatic 82, 3), (31, .istore 5, 2), (33, .iload 5, 2), (35, .iload_n 3, 1), (36, .if_icmp .ge 9, 3), (39, .iload 4, 2), (41, .istore_n 2, 1), (42, .iload 5, 2), (44, .istore_n 3, 1), (45, .iinc 4 1, 3), (48, .goto (-36), 3), (51, .iload_n 2, 1), (52, .ireturn, 1)]
set_option maxRecDepth 100000 in
theorem tk_X3_bestTry_1 : (tb_X3_bestTry_1.all fun q => decide (decode cX3_bestTry q.1 = .ok q.2)) = true := by decide +kernel
theorem dX3_bestTry_0 : decode cX3_bestTry 0 = .ok (.iconst 0, 1) := tb_d tk_X3_bestTry_1 0 (0, .iconst 0, 1) rfl
theorem dX3_bestTry_1 : decode cX3_bestTry 1 = .ok (.istore_n 2, 1) := tb_d tk_X3_bestTry_1 1 (1, .istore_n 2, 1) rfl
theorem dX3_bestTry_2 : decode cX3_bestTry 2 = .ok (.aload_n 0, 1) := tb_d tk_X3_bestTry_1 2 (2, .aload_n 0, 1) rfl
theorem dX3_bestTry_3 : decode cX3_bestTry 3 = .ok (.iconst 0, 1) := tb_d tk_X3_bestTry_1 3 (3, .iconst 0, 1) rfl
theorem dX3_bestTry_4 : decode cX3_bestTry 4 = .ok (.iload_n 1, 1) := tb_d tk_X3_bestTry_1 4 (4, .iload_n 1, 1) rfl
theorem dX3_bestTry_5 : decode cX3_bestTry 5 = .ok (.invokestatic 82, 3) := tb_d tk_X3_bestTry_1 5 (5, .invokestatic 82, 3) rfl
theorem dX3_bestTry_8 : decode cX3_bestTry 8 = .ok (.istore_n 3, 1) := tb_d tk_X3_bestTry_1 6 (8, .istore_n 3, 1) rfl
theorem dX3_bestTry_9 : decode cX3_bestTry 9 = .ok (.iconst 1, 1) := tb_d tk_X3_bestTry_1 7 (9, .iconst 1, 1) rfl
theorem dX3_bestTry_10 : decode cX3_bestTry 10 = .ok (.istore 4, 2) := tb_d tk_X3_bestTry_1 8 (10, .istore 4, 2) rfl
theorem dX3_bestTry_12 : decode cX3_bestTry 12 = .ok (.iload 4, 2) := tb_d tk_X3_bestTry_1 9 (12, .iload 4, 2) rfl
theorem dX3_bestTry_14 : decode cX3_bestTry 14 = .ok (.aload_n 0, 1) := tb_d tk_X3_bestTry_1 10 (14, .aload_n 0, 1) rfl
theorem dX3_bestTry_15 : decode cX3_bestTry 15 = .ok (.getfield 18, 3) := tb_d tk_X3_bestTry_1 11 (15, .getfield 18, 3) rfl
theorem dX3_bestTry_18 : decode cX3_bestTry 18 = .ok (.bipush 6, 2) := tb_d tk_X3_bestTry_1 12 (18, .bipush 6, 2) rfl
theorem dX3_bestTry_20 : decode cX3_bestTry 20 = .ok (.imul, 1) := tb_d tk_X3_bestTry_1 13 (20, .imul, 1) rfl
theorem dX3_bestTry_21 : decode cX3_bestTry 21 = .ok (.if_icmp .ge 30, 3) := tb_d tk_X3_bestTry_1 14 (21, .if_icmp .ge 30, 3) rfl
theorem dX3_bestTry_24 : decode cX3_bestTry 24 = .ok (.aload_n 0, 1) := tb_d tk_X3_bestTry_1 15 (24, .aload_n 0, 1) rfl
theorem dX3_bestTry_25 : decode cX3_bestTry 25 = .ok (.iload 4, 2) := tb_d tk_X3_bestTry_1 16 (25, .iload 4, 2) rfl
theorem dX3_bestTry_27 : decode cX3_bestTry 27 = .ok (.iload_n 1, 1) := tb_d tk_X3_bestTry_1 17 (27, .iload_n 1, 1) rfl
theorem dX3_bestTry_28 : decode cX3_bestTry 28 = .ok (.invokestatic 82, 3) := tb_d tk_X3_bestTry_1 18 (28, .invokestatic 82, 3) rfl
theorem dX3_bestTry_31 : decode cX3_bestTry 31 = .ok (.istore 5, 2) := tb_d tk_X3_bestTry_1 19 (31, .istore 5, 2) rfl
theorem dX3_bestTry_33 : decode cX3_bestTry 33 = .ok (.iload 5, 2) := tb_d tk_X3_bestTry_1 20 (33, .iload 5, 2) rfl
theorem dX3_bestTry_35 : decode cX3_bestTry 35 = .ok (.iload_n 3, 1) := tb_d tk_X3_bestTry_1 21 (35, .iload_n 3, 1) rfl
theorem dX3_bestTry_36 : decode cX3_bestTry 36 = .ok (.if_icmp .ge 9, 3) := tb_d tk_X3_bestTry_1 22 (36, .if_icmp .ge 9, 3) rfl
theorem dX3_bestTry_39 : decode cX3_bestTry 39 = .ok (.iload 4, 2) := tb_d tk_X3_bestTry_1 23 (39, .iload 4, 2) rfl
theorem dX3_bestTry_41 : decode cX3_bestTry 41 = .ok (.istore_n 2, 1) := tb_d tk_X3_bestTry_1 24 (41, .istore_n 2, 1) rfl
theorem dX3_bestTry_42 : decode cX3_bestTry 42 = .ok (.iload 5, 2) := tb_d tk_X3_bestTry_1 25 (42, .iload 5, 2) rfl
theorem dX3_bestTry_44 : decode cX3_bestTry 44 = .ok (.istore_n 3, 1) := tb_d tk_X3_bestTry_1 26 (44, .istore_n 3, 1) rfl
theorem dX3_bestTry_45 : decode cX3_bestTry 45 = .ok (.iinc 4 1, 3) := tb_d tk_X3_bestTry_1 27 (45, .iinc 4 1, 3) rfl
theorem dX3_bestTry_48 : decode cX3_bestTry 48 = .ok (.goto (-36), 3) := tb_d tk_X3_bestTry_1 28 (48, .goto (-36), 3) rfl
theorem dX3_bestTry_51 : decode cX3_bestTry 51 = .ok (.iload_n 2, 1) := tb_d tk_X3_bestTry_1 29 (51, .iload_n 2, 1) rfl
theorem dX3_bestTry_52 : decode cX3_bestTry 52 = .ok (.ireturn, 1) := tb_d tk_X3_bestTry_1 30 (52, .ireturn, 1) rfl
theorem ggX3_fewestMen_X3_secretsCatching : GoodIn wsX3_fewestMen wsX3_secretsCatching := fun w h => ⟨List.mem_cons_of_mem _ (List.mem_append_right _ (List.mem_append_right _ (List.mem_append_right _ (List.mem_append_right _ (List.mem_append_right _ (List.mem_append_right _ (List.mem_append_right _ (List.mem_append_left _ h)))))))), good_of_word (gdX3_secretsCatching w h)⟩
set_option maxRecDepth 20000 in
theorem gX3_fewestMen_X3_secretsCatching : GoodIn wsX3_fewestMen (va_wsS RX3 66 yX3_secretsCatching wsX3_secretsCatching) := goodIn_app (a := bkS RX3 66 yX3_secretsCatching) (fun w h => ⟨List.mem_cons_of_mem _ (List.mem_append_right _ (List.mem_append_left _ h)), good_of_word (gd_bS _ _ _ w h)⟩) ggX3_fewestMen_X3_secretsCatching
theorem ggX3_fewestMen_J6_bitCount_0f7a4 : GoodIn wsX3_fewestMen wsJ6_bitCount_0f7a4 := fun w h => ⟨List.mem_cons_of_mem _ (List.mem_append_right _ (List.mem_append_right _ (List.mem_append_right _ (List.mem_append_right _ (List.mem_append_right _ (List.mem_append_right _ (List.mem_append_right _ (List.mem_append_right _ (List.mem_append_left _ h))))))))), good_of_word (gdJ6_bitCount_0f7a4 w h)⟩
set_option maxRecDepth 20000 in
theorem gX3_fewestMen_J6_bitCount_0f7a4 : GoodIn wsX3_fewestMen (va_wsS RX3 70 yJ6_bitCount_0f7a4 wsJ6_bitCount_0f7a4) := goodIn_app (a := bkS RX3 70 yJ6_bitCount_0f7a4) (fun w h => ⟨List.mem_cons_of_mem _ (List.mem_append_right _ (List.mem_append_right _ (List.mem_append_left _ h))), good_of_word (gd_bS _ _ _ w h)⟩) ggX3_fewestMen_J6_bitCount_0f7a4
theorem ggX3_fewestMen_X3_menToSplit : GoodIn wsX3_fewestMen wsX3_menToSplit := fun w h => ⟨List.mem_cons_of_mem _ (List.mem_append_right _ (List.mem_append_right _ (List.mem_append_right _ (List.mem_append_right _ (List.mem_append_right _ (List.mem_append_right _ (List.mem_append_right _ (List.mem_append_right _ (List.mem_append_right _ (List.mem_append_left _ h)))))))))), good_of_word (gdX3_menToSplit w h)⟩
set_option maxRecDepth 20000 in
theorem gX3_fewestMen_X3_menToSplit : GoodIn wsX3_fewestMen (wsV RX3 85 RX3 yX3_menToSplit wsX3_menToSplit) := goodIn_app (a := bkV RX3 85 RX3 yX3_menToSplit) (fun w h => ⟨List.mem_cons_of_mem _ (List.mem_append_right _ (List.mem_append_right _ (List.mem_append_right _ (List.mem_append_left _ h)))), good_of_word (gd_bV _ _ _ _ w h)⟩) ggX3_fewestMen_X3_menToSplit
def tb_X3_fewestMen_1 : List (Nat × Instr × Nat) := [(0, .aload_n 1, 1), (1, .getfield 18, 3), (4, .bipush 6, 2), (6, .imul, 1), (7, .istore_n 3, 1), (8, .iconst 0, 1), (9, .istore 4, 2), (11, .iload 4, 2), (13, .iload_n 3, 1), (14, .if_icmp .ge 30, 3), (17, .aload_n 0, 1), (18, .getfield 9, 3), (21, .iload 4, 2), (23, .aload_n 1, 1), (24, .iload 4, 2), (26, .bipush 6, 2), (28, .idiv, 1), (29, .iload 4, 2), (31, .bipush 6, 2), (33, .irem, 1), (34, .invokestatic 66, 3), (37, .iastore, 1), (38, .iinc 4 1, 3), (41, .goto (-30), 3), (44, .iconst 0, 1), (45, .istore 4, 2), (47, .iload 4, 2), (49, .iconst 1, 1), (50, .aload_n 1, 1), (51, .getfield 18, 3), (54, .ishl, 1), (55, .if_icmp .ge 36, 3), (58, .aload_n 0, 1), (59, .getfield 15, 3), (62, .iload 4, 2), (64, .iload 4, 2), (66, .invokestatic 70, 3), (69, .iconst 1, 1), (70, .if_icmp .gt 7, 3), (73, .iconst 0, 1)]
set_option maxRecDepth 100000 in
theorem tk_X3_fewestMen_1 : (tb_X3_fewestMen_1.all fun q => decide (decode cX3_fewestMen q.1 = .ok q.2)) = true := by decide +kernel
theorem dX3_fewestMen_0 : decode cX3_fewestMen 0 = .ok (.aload_n 1, 1) := tb_d tk_X3_fewestMen_1 0 (0, .aload_n 1, 1) rfl
theorem dX3_fewestMen_1 : decode cX3_fewestMen 1 = .ok (.getfield 18, 3) := tb_d tk_X3_fewestMen_1 1 (1, .getfield 18, 3) rfl
theorem dX3_fewestMen_4 : decode cX3_fewestMen 4 = .ok (.bipush 6, 2) := tb_d tk_X3_fewestMen_1 2 (4, .bipush 6, 2) rfl
theorem dX3_fewestMen_6 : decode cX3_fewestMen 6 = .ok (.imul, 1) := tb_d tk_X3_fewestMen_1 3 (6, .imul, 1) rfl
theorem dX3_fewestMen_7 : decode cX3_fewestMen 7 = .ok (.istore_n 3, 1) := tb_d tk_X3_fewestMen_1 4 (7, .istore_n 3, 1) rfl
theorem dX3_fewestMen_8 : decode cX3_fewestMen 8 = .ok (.iconst 0, 1) := tb_d tk_X3_fewestMen_1 5 (8, .iconst 0, 1) rfl
theorem dX3_fewestMen_9 : decode cX3_fewestMen 9 = .ok (.istore 4, 2) := tb_d tk_X3_fewestMen_1 6 (9, .istore 4, 2) rfl
theorem dX3_fewestMen_11 : decode cX3_fewestMen 11 = .ok (.iload 4, 2) := tb_d tk_X3_fewestMen_1 7 (11, .iload 4, 2) rfl
theorem dX3_fewestMen_13 : decode cX3_fewestMen 13 = .ok (.iload_n 3, 1) := tb_d tk_X3_fewestMen_1 8 (13, .iload_n 3, 1) rfl
theorem dX3_fewestMen_14 : decode cX3_fewestMen 14 = .ok (.if_icmp .ge 30, 3) := tb_d tk_X3_fewestMen_1 9 (14, .if_icmp .ge 30, 3) rfl
theorem dX3_fewestMen_17 : decode cX3_fewestMen 17 = .ok (.aload_n 0, 1) := tb_d tk_X3_fewestMen_1 10 (17, .aload_n 0, 1) rfl
theorem dX3_fewestMen_18 : decode cX3_fewestMen 18 = .ok (.getfield 9, 3) := tb_d tk_X3_fewestMen_1 11 (18, .getfield 9, 3) rfl
theorem dX3_fewestMen_21 : decode cX3_fewestMen 21 = .ok (.iload 4, 2) := tb_d tk_X3_fewestMen_1 12 (21, .iload 4, 2) rfl
theorem dX3_fewestMen_23 : decode cX3_fewestMen 23 = .ok (.aload_n 1, 1) := tb_d tk_X3_fewestMen_1 13 (23, .aload_n 1, 1) rfl
theorem dX3_fewestMen_24 : decode cX3_fewestMen 24 = .ok (.iload 4, 2) := tb_d tk_X3_fewestMen_1 14 (24, .iload 4, 2) rfl
theorem dX3_fewestMen_26 : decode cX3_fewestMen 26 = .ok (.bipush 6, 2) := tb_d tk_X3_fewestMen_1 15 (26, .bipush 6, 2) rfl
theorem dX3_fewestMen_28 : decode cX3_fewestMen 28 = .ok (.idiv, 1) := tb_d tk_X3_fewestMen_1 16 (28, .idiv, 1) rfl
theorem dX3_fewestMen_29 : decode cX3_fewestMen 29 = .ok (.iload 4, 2) := tb_d tk_X3_fewestMen_1 17 (29, .iload 4, 2) rfl
theorem dX3_fewestMen_31 : decode cX3_fewestMen 31 = .ok (.bipush 6, 2) := tb_d tk_X3_fewestMen_1 18 (31, .bipush 6, 2) rfl
theorem dX3_fewestMen_33 : decode cX3_fewestMen 33 = .ok (.irem, 1) := tb_d tk_X3_fewestMen_1 19 (33, .irem, 1) rfl
theorem dX3_fewestMen_34 : decode cX3_fewestMen 34 = .ok (.invokestatic 66, 3) := tb_d tk_X3_fewestMen_1 20 (34, .invokestatic 66, 3) rfl
theorem dX3_fewestMen_37 : decode cX3_fewestMen 37 = .ok (.iastore, 1) := tb_d tk_X3_fewestMen_1 21 (37, .iastore, 1) rfl
theorem dX3_fewestMen_38 : decode cX3_fewestMen 38 = .ok (.iinc 4 1, 3) := tb_d tk_X3_fewestMen_1 22 (38, .iinc 4 1, 3) rfl
theorem dX3_fewestMen_41 : decode cX3_fewestMen 41 = .ok (.goto (-30), 3) := tb_d tk_X3_fewestMen_1 23 (41, .goto (-30), 3) rfl
theorem dX3_fewestMen_44 : decode cX3_fewestMen 44 = .ok (.iconst 0, 1) := tb_d tk_X3_fewestMen_1 24 (44, .iconst 0, 1) rfl
theorem dX3_fewestMen_45 : decode cX3_fewestMen 45 = .ok (.istore 4, 2) := tb_d tk_X3_fewestMen_1 25 (45, .istore 4, 2) rfl
theorem dX3_fewestMen_47 : decode cX3_fewestMen 47 = .ok (.iload 4, 2) := tb_d tk_X3_fewestMen_1 26 (47, .iload 4, 2) rfl
theorem dX3_fewestMen_49 : decode cX3_fewestMen 49 = .ok (.iconst 1, 1) := tb_d tk_X3_fewestMen_1 27 (49, .iconst 1, 1) rfl
theorem dX3_fewestMen_50 : decode cX3_fewestMen 50 = .ok (.aload_n 1, 1) := tb_d tk_X3_fewestMen_1 28 (50, .aload_n 1, 1) rfl
theorem dX3_fewestMen_51 : decode cX3_fewestMen 51 = .ok (.getfield 18, 3) := tb_d tk_X3_fewestMen_1 29 (51, .getfield 18, 3) rfl
theorem dX3_fewestMen_54 : decode cX3_fewestMen 54 = .ok (.ishl, 1) := tb_d tk_X3_fewestMen_1 30 (54, .ishl, 1) rfl
theorem dX3_fewestMen_55 : decode cX3_fewestMen 55 = .ok (.if_icmp .ge 36, 3) := tb_d tk_X3_fewestMen_1 31 (55, .if_icmp .ge 36, 3) rfl
theorem dX3_fewestMen_58 : decode cX3_fewestMen 58 = .ok (.aload_n 0, 1) := tb_d tk_X3_fewestMen_1 32 (58, .aload_n 0, 1) rfl
theorem dX3_fewestMen_59 : decode cX3_fewestMen 59 = .ok (.getfield 15, 3) := tb_d tk_X3_fewestMen_1 33 (59, .getfield 15, 3) rfl
theorem dX3_fewestMen_62 : decode cX3_fewestMen 62 = .ok (.iload 4, 2) := tb_d tk_X3_fewestMen_1 34 (62, .iload 4, 2) rfl
theorem dX3_fewestMen_64 : decode cX3_fewestMen 64 = .ok (.iload 4, 2) := tb_d tk_X3_fewestMen_1 35 (64, .iload 4, 2) rfl
theorem dX3_fewestMen_66 : decode cX3_fewestMen 66 = .ok (.invokestatic 70, 3) := tb_d tk_X3_fewestMen_1 36 (66, .invokestatic 70, 3) rfl
theorem dX3_fewestMen_69 : decode cX3_fewestMen 69 = .ok (.iconst 1, 1) := tb_d tk_X3_fewestMen_1 37 (69, .iconst 1, 1) rfl
theorem dX3_fewestMen_70 : decode cX3_fewestMen 70 = .ok (.if_icmp .gt 7, 3) := tb_d tk_X3_fewestMen_1 38 (70, .if_icmp .gt 7, 3) rfl
theorem dX3_fewestMen_73 : decode cX3_fewestMen 73 = .ok (.iconst 0, 1) := tb_d tk_X3_fewestMen_1 39 (73, .iconst 0, 1) rfl
def tb_X3_fewestMen_2 : List (Nat × Instr × Nat) := [(74, .goto 10, 3), (77, .aload_n 0, 1), (78, .iload 4, 2), (80, .iload_n 3, 1), (81, .invokevirtual 85, 3), (84, .iastore, 1), (85, .iinc 4 1, 3), (88, .goto (-41), 3), (91, .aload_n 0, 1), (92, .getfield 15, 3), (95, .iload_n 2, 1), (96, .iaload, 1), (97, .sipush 1000, 3), (100, .if_icmp .ge 12, 3), (103, .aload_n 0, 1), (104, .getfield 15, 3), (107, .iload_n 2, 1), (108, .iaload, 1), (109, .goto 5, 3), (112, .ldc 88, 2), (114, .ireturn, 1)]
set_option maxRecDepth 100000 in
theorem tk_X3_fewestMen_2 : (tb_X3_fewestMen_2.all fun q => decide (decode cX3_fewestMen q.1 = .ok q.2)) = true := by decide +kernel
theorem dX3_fewestMen_74 : decode cX3_fewestMen 74 = .ok (.goto 10, 3) := tb_d tk_X3_fewestMen_2 0 (74, .goto 10, 3) rfl
theorem dX3_fewestMen_77 : decode cX3_fewestMen 77 = .ok (.aload_n 0, 1) := tb_d tk_X3_fewestMen_2 1 (77, .aload_n 0, 1) rfl
theorem dX3_fewestMen_78 : decode cX3_fewestMen 78 = .ok (.iload 4, 2) := tb_d tk_X3_fewestMen_2 2 (78, .iload 4, 2) rfl
theorem dX3_fewestMen_80 : decode cX3_fewestMen 80 = .ok (.iload_n 3, 1) := tb_d tk_X3_fewestMen_2 3 (80, .iload_n 3, 1) rfl
theorem dX3_fewestMen_81 : decode cX3_fewestMen 81 = .ok (.invokevirtual 85, 3) := tb_d tk_X3_fewestMen_2 4 (81, .invokevirtual 85, 3) rfl
theorem dX3_fewestMen_84 : decode cX3_fewestMen 84 = .ok (.iastore, 1) := tb_d tk_X3_fewestMen_2 5 (84, .iastore, 1) rfl
theorem dX3_fewestMen_85 : decode cX3_fewestMen 85 = .ok (.iinc 4 1, 3) := tb_d tk_X3_fewestMen_2 6 (85, .iinc 4 1, 3) rfl
theorem dX3_fewestMen_88 : decode cX3_fewestMen 88 = .ok (.goto (-41), 3) := tb_d tk_X3_fewestMen_2 7 (88, .goto (-41), 3) rfl
theorem dX3_fewestMen_91 : decode cX3_fewestMen 91 = .ok (.aload_n 0, 1) := tb_d tk_X3_fewestMen_2 8 (91, .aload_n 0, 1) rfl
theorem dX3_fewestMen_92 : decode cX3_fewestMen 92 = .ok (.getfield 15, 3) := tb_d tk_X3_fewestMen_2 9 (92, .getfield 15, 3) rfl
theorem dX3_fewestMen_95 : decode cX3_fewestMen 95 = .ok (.iload_n 2, 1) := tb_d tk_X3_fewestMen_2 10 (95, .iload_n 2, 1) rfl
theorem dX3_fewestMen_96 : decode cX3_fewestMen 96 = .ok (.iaload, 1) := tb_d tk_X3_fewestMen_2 11 (96, .iaload, 1) rfl
theorem dX3_fewestMen_97 : decode cX3_fewestMen 97 = .ok (.sipush 1000, 3) := tb_d tk_X3_fewestMen_2 12 (97, .sipush 1000, 3) rfl
theorem dX3_fewestMen_100 : decode cX3_fewestMen 100 = .ok (.if_icmp .ge 12, 3) := tb_d tk_X3_fewestMen_2 13 (100, .if_icmp .ge 12, 3) rfl
theorem dX3_fewestMen_103 : decode cX3_fewestMen 103 = .ok (.aload_n 0, 1) := tb_d tk_X3_fewestMen_2 14 (103, .aload_n 0, 1) rfl
theorem dX3_fewestMen_104 : decode cX3_fewestMen 104 = .ok (.getfield 15, 3) := tb_d tk_X3_fewestMen_2 15 (104, .getfield 15, 3) rfl
theorem dX3_fewestMen_107 : decode cX3_fewestMen 107 = .ok (.iload_n 2, 1) := tb_d tk_X3_fewestMen_2 16 (107, .iload_n 2, 1) rfl
theorem dX3_fewestMen_108 : decode cX3_fewestMen 108 = .ok (.iaload, 1) := tb_d tk_X3_fewestMen_2 17 (108, .iaload, 1) rfl
theorem dX3_fewestMen_109 : decode cX3_fewestMen 109 = .ok (.goto 5, 3) := tb_d tk_X3_fewestMen_2 18 (109, .goto 5, 3) rfl
theorem dX3_fewestMen_112 : decode cX3_fewestMen 112 = .ok (.ldc 88, 2) := tb_d tk_X3_fewestMen_2 19 (112, .ldc 88, 2) rfl
theorem dX3_fewestMen_114 : decode cX3_fewestMen 114 = .ok (.ireturn, 1) := tb_d tk_X3_fewestMen_2 20 (114, .ireturn, 1) rfl
def tb_X3_menToSplit_1 : List (Nat × Instr × Nat) := [(0, .sipush 1000, 3), (3, .istore_n 3, 1), (4, .iconst 0, 1), (5, .istore 4, 2), (7, .iload 4, 2), (9, .iload_n 2, 1), (10, .if_icmp .ge 57, 3), (13, .iload_n 1, 1), (14, .aload_n 0, 1), (15, .getfield 9, 3), (18, .iload 4, 2), (20, .iaload, 1), (21, .iand, 1), (22, .istore 5, 2), (24, .iload 5, 2), (26, .ifCond .eq 35, 3), (29, .iload 5, 2), (31, .iload_n 1, 1), (32, .if_icmp .eq 29, 3), (35, .iload_n 3, 1), (36, .iconst 1, 1), (37, .aload_n 0, 1), (38, .getfield 15, 3), (41, .iload 5, 2), (43, .iaload, 1), (44, .aload_n 0, 1), (45, .getfield 15, 3), (48, .iload_n 1, 1), (49, .iload 5, 2), (51, .ixor, 1), (52, .iaload, 1), (53, .invokestatic 76, 3), (56, .iadd, 1), (57, .invokestatic 89, 3), (60, .istore_n 3, 1), (61, .iinc 4 1, 3), (64, .goto (-57), 3), (67, .iload_n 3, 1), (68, .ireturn, 1)]
set_option maxRecDepth 100000 in
theorem tk_X3_menToSplit_1 : (tb_X3_menToSplit_1.all fun q => decide (decode cX3_menToSplit q.1 = .ok q.2)) = true := by decide +kernel
theorem dX3_menToSplit_0 : decode cX3_menToSplit 0 = .ok (.sipush 1000, 3) := tb_d tk_X3_menToSplit_1 0 (0, .sipush 1000, 3) rfl
theorem dX3_menToSplit_3 : decode cX3_menToSplit 3 = .ok (.istore_n 3, 1) := tb_d tk_X3_menToSplit_1 1 (3, .istore_n 3, 1) rfl
theorem dX3_menToSplit_4 : decode cX3_menToSplit 4 = .ok (.iconst 0, 1) := tb_d tk_X3_menToSplit_1 2 (4, .iconst 0, 1) rfl
theorem dX3_menToSplit_5 : decode cX3_menToSplit 5 = .ok (.istore 4, 2) := tb_d tk_X3_menToSplit_1 3 (5, .istore 4, 2) rfl
theorem dX3_menToSplit_7 : decode cX3_menToSplit 7 = .ok (.iload 4, 2) := tb_d tk_X3_menToSplit_1 4 (7, .iload 4, 2) rfl
theorem dX3_menToSplit_9 : decode cX3_menToSplit 9 = .ok (.iload_n 2, 1) := tb_d tk_X3_menToSplit_1 5 (9, .iload_n 2, 1) rfl
theorem dX3_menToSplit_10 : decode cX3_menToSplit 10 = .ok (.if_icmp .ge 57, 3) := tb_d tk_X3_menToSplit_1 6 (10, .if_icmp .ge 57, 3) rfl
theorem dX3_menToSplit_13 : decode cX3_menToSplit 13 = .ok (.iload_n 1, 1) := tb_d tk_X3_menToSplit_1 7 (13, .iload_n 1, 1) rfl
theorem dX3_menToSplit_14 : decode cX3_menToSplit 14 = .ok (.aload_n 0, 1) := tb_d tk_X3_menToSplit_1 8 (14, .aload_n 0, 1) rfl
theorem dX3_menToSplit_15 : decode cX3_menToSplit 15 = .ok (.getfield 9, 3) := tb_d tk_X3_menToSplit_1 9 (15, .getfield 9, 3) rfl
theorem dX3_menToSplit_18 : decode cX3_menToSplit 18 = .ok (.iload 4, 2) := tb_d tk_X3_menToSplit_1 10 (18, .iload 4, 2) rfl
theorem dX3_menToSplit_20 : decode cX3_menToSplit 20 = .ok (.iaload, 1) := tb_d tk_X3_menToSplit_1 11 (20, .iaload, 1) rfl
theorem dX3_menToSplit_21 : decode cX3_menToSplit 21 = .ok (.iand, 1) := tb_d tk_X3_menToSplit_1 12 (21, .iand, 1) rfl
theorem dX3_menToSplit_22 : decode cX3_menToSplit 22 = .ok (.istore 5, 2) := tb_d tk_X3_menToSplit_1 13 (22, .istore 5, 2) rfl
theorem dX3_menToSplit_24 : decode cX3_menToSplit 24 = .ok (.iload 5, 2) := tb_d tk_X3_menToSplit_1 14 (24, .iload 5, 2) rfl
theorem dX3_menToSplit_26 : decode cX3_menToSplit 26 = .ok (.ifCond .eq 35, 3) := tb_d tk_X3_menToSplit_1 15 (26, .ifCond .eq 35, 3) rfl
theorem dX3_menToSplit_29 : decode cX3_menToSplit 29 = .ok (.iload 5, 2) := tb_d tk_X3_menToSplit_1 16 (29, .iload 5, 2) rfl
theorem dX3_menToSplit_31 : decode cX3_menToSplit 31 = .ok (.iload_n 1, 1) := tb_d tk_X3_menToSplit_1 17 (31, .iload_n 1, 1) rfl
theorem dX3_menToSplit_32 : decode cX3_menToSplit 32 = .ok (.if_icmp .eq 29, 3) := tb_d tk_X3_menToSplit_1 18 (32, .if_icmp .eq 29, 3) rfl
theorem dX3_menToSplit_35 : decode cX3_menToSplit 35 = .ok (.iload_n 3, 1) := tb_d tk_X3_menToSplit_1 19 (35, .iload_n 3, 1) rfl
theorem dX3_menToSplit_36 : decode cX3_menToSplit 36 = .ok (.iconst 1, 1) := tb_d tk_X3_menToSplit_1 20 (36, .iconst 1, 1) rfl
theorem dX3_menToSplit_37 : decode cX3_menToSplit 37 = .ok (.aload_n 0, 1) := tb_d tk_X3_menToSplit_1 21 (37, .aload_n 0, 1) rfl
theorem dX3_menToSplit_38 : decode cX3_menToSplit 38 = .ok (.getfield 15, 3) := tb_d tk_X3_menToSplit_1 22 (38, .getfield 15, 3) rfl
theorem dX3_menToSplit_41 : decode cX3_menToSplit 41 = .ok (.iload 5, 2) := tb_d tk_X3_menToSplit_1 23 (41, .iload 5, 2) rfl
theorem dX3_menToSplit_43 : decode cX3_menToSplit 43 = .ok (.iaload, 1) := tb_d tk_X3_menToSplit_1 24 (43, .iaload, 1) rfl
theorem dX3_menToSplit_44 : decode cX3_menToSplit 44 = .ok (.aload_n 0, 1) := tb_d tk_X3_menToSplit_1 25 (44, .aload_n 0, 1) rfl
theorem dX3_menToSplit_45 : decode cX3_menToSplit 45 = .ok (.getfield 15, 3) := tb_d tk_X3_menToSplit_1 26 (45, .getfield 15, 3) rfl
theorem dX3_menToSplit_48 : decode cX3_menToSplit 48 = .ok (.iload_n 1, 1) := tb_d tk_X3_menToSplit_1 27 (48, .iload_n 1, 1) rfl
theorem dX3_menToSplit_49 : decode cX3_menToSplit 49 = .ok (.iload 5, 2) := tb_d tk_X3_menToSplit_1 28 (49, .iload 5, 2) rfl
theorem dX3_menToSplit_51 : decode cX3_menToSplit 51 = .ok (.ixor, 1) := tb_d tk_X3_menToSplit_1 29 (51, .ixor, 1) rfl
theorem dX3_menToSplit_52 : decode cX3_menToSplit 52 = .ok (.iaload, 1) := tb_d tk_X3_menToSplit_1 30 (52, .iaload, 1) rfl
theorem dX3_menToSplit_53 : decode cX3_menToSplit 53 = .ok (.invokestatic 76, 3) := tb_d tk_X3_menToSplit_1 31 (53, .invokestatic 76, 3) rfl
theorem dX3_menToSplit_56 : decode cX3_menToSplit 56 = .ok (.iadd, 1) := tb_d tk_X3_menToSplit_1 32 (56, .iadd, 1) rfl
theorem dX3_menToSplit_57 : decode cX3_menToSplit 57 = .ok (.invokestatic 89, 3) := tb_d tk_X3_menToSplit_1 33 (57, .invokestatic 89, 3) rfl
theorem dX3_menToSplit_60 : decode cX3_menToSplit 60 = .ok (.istore_n 3, 1) := tb_d tk_X3_menToSplit_1 34 (60, .istore_n 3, 1) rfl
theorem dX3_menToSplit_61 : decode cX3_menToSplit 61 = .ok (.iinc 4 1, 3) := tb_d tk_X3_menToSplit_1 35 (61, .iinc 4 1, 3) rfl
theorem dX3_menToSplit_64 : decode cX3_menToSplit 64 = .ok (.goto (-57), 3) := tb_d tk_X3_menToSplit_1 36 (64, .goto (-57), 3) rfl
theorem dX3_menToSplit_67 : decode cX3_menToSplit 67 = .ok (.iload_n 3, 1) := tb_d tk_X3_menToSplit_1 37 (67, .iload_n 3, 1) rfl
theorem dX3_menToSplit_68 : decode cX3_menToSplit 68 = .ok (.ireturn, 1) := tb_d tk_X3_menToSplit_1 38 (68, .ireturn, 1) rfl
def tb_X4_init_1 : List (Nat × Instr × Nat) := [(0, .aload_n 0, 1), (1, .invokespecial 3, 3), (4, .aload_n 0, 1), (5, .iconst 4, 1), (6, .newarray .int, 2), (8, .putfield 9, 3), (11, .aload_n 0, 1), (12, .bipush 9, 2), (14, .newarray .int, 2), (16, .putfield 15, 3), (19, .aload_n 0, 1), (20, .bipush 9, 2), (22, .newarray .int, 2), (24, .putfield 18, 3), (27, .aload_n 0, 1), (28, .bipush 9, 2), (30, .newarray .int, 2), (32, .putfield 21, 3), (35, .return_, 1)]
set_option maxRecDepth 100000 in
theorem tk_X4_init_1 : (tb_X4_init_1.all fun q => decide (decode cX4_init q.1 = .ok q.2)) = true := by decide +kernel
theorem dX4_init_0 : decode cX4_init 0 = .ok (.aload_n 0, 1) := tb_d tk_X4_init_1 0 (0, .aload_n 0, 1) rfl
theorem dX4_init_1 : decode cX4_init 1 = .ok (.invokespecial 3, 3) := tb_d tk_X4_init_1 1 (1, .invokespecial 3, 3) rfl
theorem dX4_init_4 : decode cX4_init 4 = .ok (.aload_n 0, 1) := tb_d tk_X4_init_1 2 (4, .aload_n 0, 1) rfl
theorem dX4_init_5 : decode cX4_init 5 = .ok (.iconst 4, 1) := tb_d tk_X4_init_1 3 (5, .iconst 4, 1) rfl
theorem dX4_init_6 : decode cX4_init 6 = .ok (.newarray .int, 2) := tb_d tk_X4_init_1 4 (6, .newarray .int, 2) rfl
theorem dX4_init_8 : decode cX4_init 8 = .ok (.putfield 9, 3) := tb_d tk_X4_init_1 5 (8, .putfield 9, 3) rfl
theorem dX4_init_11 : decode cX4_init 11 = .ok (.aload_n 0, 1) := tb_d tk_X4_init_1 6 (11, .aload_n 0, 1) rfl
theorem dX4_init_12 : decode cX4_init 12 = .ok (.bipush 9, 2) := tb_d tk_X4_init_1 7 (12, .bipush 9, 2) rfl
theorem dX4_init_14 : decode cX4_init 14 = .ok (.newarray .int, 2) := tb_d tk_X4_init_1 8 (14, .newarray .int, 2) rfl
theorem dX4_init_16 : decode cX4_init 16 = .ok (.putfield 15, 3) := tb_d tk_X4_init_1 9 (16, .putfield 15, 3) rfl
theorem dX4_init_19 : decode cX4_init 19 = .ok (.aload_n 0, 1) := tb_d tk_X4_init_1 10 (19, .aload_n 0, 1) rfl
theorem dX4_init_20 : decode cX4_init 20 = .ok (.bipush 9, 2) := tb_d tk_X4_init_1 11 (20, .bipush 9, 2) rfl
theorem dX4_init_22 : decode cX4_init 22 = .ok (.newarray .int, 2) := tb_d tk_X4_init_1 12 (22, .newarray .int, 2) rfl
theorem dX4_init_24 : decode cX4_init 24 = .ok (.putfield 18, 3) := tb_d tk_X4_init_1 13 (24, .putfield 18, 3) rfl
theorem dX4_init_27 : decode cX4_init 27 = .ok (.aload_n 0, 1) := tb_d tk_X4_init_1 14 (27, .aload_n 0, 1) rfl
theorem dX4_init_28 : decode cX4_init 28 = .ok (.bipush 9, 2) := tb_d tk_X4_init_1 15 (28, .bipush 9, 2) rfl
theorem dX4_init_30 : decode cX4_init 30 = .ok (.newarray .int, 2) := tb_d tk_X4_init_1 16 (30, .newarray .int, 2) rfl
theorem dX4_init_32 : decode cX4_init 32 = .ok (.putfield 21, 3) := tb_d tk_X4_init_1 17 (32, .putfield 21, 3) rfl
theorem dX4_init_35 : decode cX4_init 35 = .ok (.return_, 1) := tb_d tk_X4_init_1 18 (35, .return_, 1) rfl
def tb_X4_begin_1 : List (Nat × Instr × Nat) := [(0, .aload_n 0, 1), (1, .iconst 0, 1), (2, .putfield 24, 3), (5, .aload_n 0, 1), (6, .iconst 1, 1), (7, .iload_n 1, 1), (8, .ishl, 1), (9, .iconst 1, 1), (10, .isub, 1), (11, .putfield 28, 3), (14, .aload_n 0, 1), (15, .iconst 0, 1), (16, .putfield 31, 3), (19, .iconst 0, 1), (20, .istore_n 2, 1), (21, .iload_n 2, 1), (22, .iconst 4, 1), (23, .if_icmp .ge 16, 3), (26, .aload_n 0, 1), (27, .getfield 9, 3), (30, .iload_n 2, 1), (31, .iconst 0, 1), (32, .iastore, 1), (33, .iinc 2 1, 3), (36, .goto (-15), 3), (39, .return_, 1)]
set_option maxRecDepth 100000 in
theorem tk_X4_begin_1 : (tb_X4_begin_1.all fun q => decide (decode cX4_begin q.1 = .ok q.2)) = true := by decide +kernel
theorem dX4_begin_0 : decode cX4_begin 0 = .ok (.aload_n 0, 1) := tb_d tk_X4_begin_1 0 (0, .aload_n 0, 1) rfl
theorem dX4_begin_1 : decode cX4_begin 1 = .ok (.iconst 0, 1) := tb_d tk_X4_begin_1 1 (1, .iconst 0, 1) rfl
theorem dX4_begin_2 : decode cX4_begin 2 = .ok (.putfield 24, 3) := tb_d tk_X4_begin_1 2 (2, .putfield 24, 3) rfl
theorem dX4_begin_5 : decode cX4_begin 5 = .ok (.aload_n 0, 1) := tb_d tk_X4_begin_1 3 (5, .aload_n 0, 1) rfl
theorem dX4_begin_6 : decode cX4_begin 6 = .ok (.iconst 1, 1) := tb_d tk_X4_begin_1 4 (6, .iconst 1, 1) rfl
theorem dX4_begin_7 : decode cX4_begin 7 = .ok (.iload_n 1, 1) := tb_d tk_X4_begin_1 5 (7, .iload_n 1, 1) rfl
theorem dX4_begin_8 : decode cX4_begin 8 = .ok (.ishl, 1) := tb_d tk_X4_begin_1 6 (8, .ishl, 1) rfl
theorem dX4_begin_9 : decode cX4_begin 9 = .ok (.iconst 1, 1) := tb_d tk_X4_begin_1 7 (9, .iconst 1, 1) rfl
theorem dX4_begin_10 : decode cX4_begin 10 = .ok (.isub, 1) := tb_d tk_X4_begin_1 8 (10, .isub, 1) rfl
theorem dX4_begin_11 : decode cX4_begin 11 = .ok (.putfield 28, 3) := tb_d tk_X4_begin_1 9 (11, .putfield 28, 3) rfl
theorem dX4_begin_14 : decode cX4_begin 14 = .ok (.aload_n 0, 1) := tb_d tk_X4_begin_1 10 (14, .aload_n 0, 1) rfl
theorem dX4_begin_15 : decode cX4_begin 15 = .ok (.iconst 0, 1) := tb_d tk_X4_begin_1 11 (15, .iconst 0, 1) rfl
theorem dX4_begin_16 : decode cX4_begin 16 = .ok (.putfield 31, 3) := tb_d tk_X4_begin_1 12 (16, .putfield 31, 3) rfl
theorem dX4_begin_19 : decode cX4_begin 19 = .ok (.iconst 0, 1) := tb_d tk_X4_begin_1 13 (19, .iconst 0, 1) rfl
theorem dX4_begin_20 : decode cX4_begin 20 = .ok (.istore_n 2, 1) := tb_d tk_X4_begin_1 14 (20, .istore_n 2, 1) rfl
theorem dX4_begin_21 : decode cX4_begin 21 = .ok (.iload_n 2, 1) := tb_d tk_X4_begin_1 15 (21, .iload_n 2, 1) rfl
theorem dX4_begin_22 : decode cX4_begin 22 = .ok (.iconst 4, 1) := tb_d tk_X4_begin_1 16 (22, .iconst 4, 1) rfl
theorem dX4_begin_23 : decode cX4_begin 23 = .ok (.if_icmp .ge 16, 3) := tb_d tk_X4_begin_1 17 (23, .if_icmp .ge 16, 3) rfl
theorem dX4_begin_26 : decode cX4_begin 26 = .ok (.aload_n 0, 1) := tb_d tk_X4_begin_1 18 (26, .aload_n 0, 1) rfl
theorem dX4_begin_27 : decode cX4_begin 27 = .ok (.getfield 9, 3) := tb_d tk_X4_begin_1 19 (27, .getfield 9, 3) rfl
theorem dX4_begin_30 : decode cX4_begin 30 = .ok (.iload_n 2, 1) := tb_d tk_X4_begin_1 20 (30, .iload_n 2, 1) rfl
theorem dX4_begin_31 : decode cX4_begin 31 = .ok (.iconst 0, 1) := tb_d tk_X4_begin_1 21 (31, .iconst 0, 1) rfl
theorem dX4_begin_32 : decode cX4_begin 32 = .ok (.iastore, 1) := tb_d tk_X4_begin_1 22 (32, .iastore, 1) rfl
theorem dX4_begin_33 : decode cX4_begin 33 = .ok (.iinc 2 1, 3) := tb_d tk_X4_begin_1 23 (33, .iinc 2 1, 3) rfl
theorem dX4_begin_36 : decode cX4_begin 36 = .ok (.goto (-15), 3) := tb_d tk_X4_begin_1 24 (36, .goto (-15), 3) rfl
theorem dX4_begin_39 : decode cX4_begin 39 = .ok (.return_, 1) := tb_d tk_X4_begin_1 25 (39, .return_, 1) rfl
def tb_X4_become_1 : List (Nat × Instr × Nat) := [(0, .aload_n 0, 1), (1, .aload_n 1, 1), (2, .getfield 24, 3), (5, .putfield 24, 3), (8, .aload_n 0, 1), (9, .aload_n 1, 1), (10, .getfield 34, 3), (13, .putfield 34, 3), (16, .aload_n 0, 1), (17, .aload_n 1, 1), (18, .getfield 28, 3), (21, .putfield 28, 3), (24, .aload_n 0, 1), (25, .aload_n 1, 1), (26, .getfield 31, 3), (29, .putfield 31, 3), (32, .aload_n 1, 1), (33, .getfield 9, 3), (36, .iconst 0, 1), (37, .aload_n 0, 1), (38, .getfield 9, 3), (41, .iconst 0, 1), (42, .iconst 4, 1), (43, .invokestatic 37, 3), (46, .aload_n 1, 1), (47, .getfield 15, 3), (50, .iconst 0, 1), (51, .aload_n 0, 1), (52, .getfield 15, 3), (55, .iconst 0, 1), (56, .bipush 9, 2), (58, .invokestatic 37, 3), (61, .aload_n 1, 1), (62, .getfield 18, 3), (65, .iconst 0, 1), (66, .aload_n 0, 1), (67, .getfield 18, 3), (70, .iconst 0, 1), (71, .bipush 9, 2), (73, .invokestatic 37, 3)]
set_option maxRecDepth 100000 in
theorem tk_X4_become_1 : (tb_X4_become_1.all fun q => decide (decode cX4_become q.1 = .ok q.2)) = true := by decide +kernel
theorem dX4_become_0 : decode cX4_become 0 = .ok (.aload_n 0, 1) := tb_d tk_X4_become_1 0 (0, .aload_n 0, 1) rfl
theorem dX4_become_1 : decode cX4_become 1 = .ok (.aload_n 1, 1) := tb_d tk_X4_become_1 1 (1, .aload_n 1, 1) rfl
theorem dX4_become_2 : decode cX4_become 2 = .ok (.getfield 24, 3) := tb_d tk_X4_become_1 2 (2, .getfield 24, 3) rfl
theorem dX4_become_5 : decode cX4_become 5 = .ok (.putfield 24, 3) := tb_d tk_X4_become_1 3 (5, .putfield 24, 3) rfl
theorem dX4_become_8 : decode cX4_become 8 = .ok (.aload_n 0, 1) := tb_d tk_X4_become_1 4 (8, .aload_n 0, 1) rfl
theorem dX4_become_9 : decode cX4_become 9 = .ok (.aload_n 1, 1) := tb_d tk_X4_become_1 5 (9, .aload_n 1, 1) rfl
theorem dX4_become_10 : decode cX4_become 10 = .ok (.getfield 34, 3) := tb_d tk_X4_become_1 6 (10, .getfield 34, 3) rfl
theorem dX4_become_13 : decode cX4_become 13 = .ok (.putfield 34, 3) := tb_d tk_X4_become_1 7 (13, .putfield 34, 3) rfl
theorem dX4_become_16 : decode cX4_become 16 = .ok (.aload_n 0, 1) := tb_d tk_X4_become_1 8 (16, .aload_n 0, 1) rfl
theorem dX4_become_17 : decode cX4_become 17 = .ok (.aload_n 1, 1) := tb_d tk_X4_become_1 9 (17, .aload_n 1, 1) rfl
theorem dX4_become_18 : decode cX4_become 18 = .ok (.getfield 28, 3) := tb_d tk_X4_become_1 10 (18, .getfield 28, 3) rfl
theorem dX4_become_21 : decode cX4_become 21 = .ok (.putfield 28, 3) := tb_d tk_X4_become_1 11 (21, .putfield 28, 3) rfl
theorem dX4_become_24 : decode cX4_become 24 = .ok (.aload_n 0, 1) := tb_d tk_X4_become_1 12 (24, .aload_n 0, 1) rfl
theorem dX4_become_25 : decode cX4_become 25 = .ok (.aload_n 1, 1) := tb_d tk_X4_become_1 13 (25, .aload_n 1, 1) rfl
theorem dX4_become_26 : decode cX4_become 26 = .ok (.getfield 31, 3) := tb_d tk_X4_become_1 14 (26, .getfield 31, 3) rfl
theorem dX4_become_29 : decode cX4_become 29 = .ok (.putfield 31, 3) := tb_d tk_X4_become_1 15 (29, .putfield 31, 3) rfl
theorem dX4_become_32 : decode cX4_become 32 = .ok (.aload_n 1, 1) := tb_d tk_X4_become_1 16 (32, .aload_n 1, 1) rfl
theorem dX4_become_33 : decode cX4_become 33 = .ok (.getfield 9, 3) := tb_d tk_X4_become_1 17 (33, .getfield 9, 3) rfl
theorem dX4_become_36 : decode cX4_become 36 = .ok (.iconst 0, 1) := tb_d tk_X4_become_1 18 (36, .iconst 0, 1) rfl
theorem dX4_become_37 : decode cX4_become 37 = .ok (.aload_n 0, 1) := tb_d tk_X4_become_1 19 (37, .aload_n 0, 1) rfl
theorem dX4_become_38 : decode cX4_become 38 = .ok (.getfield 9, 3) := tb_d tk_X4_become_1 20 (38, .getfield 9, 3) rfl
theorem dX4_become_41 : decode cX4_become 41 = .ok (.iconst 0, 1) := tb_d tk_X4_become_1 21 (41, .iconst 0, 1) rfl
theorem dX4_become_42 : decode cX4_become 42 = .ok (.iconst 4, 1) := tb_d tk_X4_become_1 22 (42, .iconst 4, 1) rfl
theorem dX4_become_43 : decode cX4_become 43 = .ok (.invokestatic 37, 3) := tb_d tk_X4_become_1 23 (43, .invokestatic 37, 3) rfl
theorem dX4_become_46 : decode cX4_become 46 = .ok (.aload_n 1, 1) := tb_d tk_X4_become_1 24 (46, .aload_n 1, 1) rfl
theorem dX4_become_47 : decode cX4_become 47 = .ok (.getfield 15, 3) := tb_d tk_X4_become_1 25 (47, .getfield 15, 3) rfl
theorem dX4_become_50 : decode cX4_become 50 = .ok (.iconst 0, 1) := tb_d tk_X4_become_1 26 (50, .iconst 0, 1) rfl
theorem dX4_become_51 : decode cX4_become 51 = .ok (.aload_n 0, 1) := tb_d tk_X4_become_1 27 (51, .aload_n 0, 1) rfl
theorem dX4_become_52 : decode cX4_become 52 = .ok (.getfield 15, 3) := tb_d tk_X4_become_1 28 (52, .getfield 15, 3) rfl
theorem dX4_become_55 : decode cX4_become 55 = .ok (.iconst 0, 1) := tb_d tk_X4_become_1 29 (55, .iconst 0, 1) rfl
theorem dX4_become_56 : decode cX4_become 56 = .ok (.bipush 9, 2) := tb_d tk_X4_become_1 30 (56, .bipush 9, 2) rfl
theorem dX4_become_58 : decode cX4_become 58 = .ok (.invokestatic 37, 3) := tb_d tk_X4_become_1 31 (58, .invokestatic 37, 3) rfl
theorem dX4_become_61 : decode cX4_become 61 = .ok (.aload_n 1, 1) := tb_d tk_X4_become_1 32 (61, .aload_n 1, 1) rfl
theorem dX4_become_62 : decode cX4_become 62 = .ok (.getfield 18, 3) := tb_d tk_X4_become_1 33 (62, .getfield 18, 3) rfl
theorem dX4_become_65 : decode cX4_become 65 = .ok (.iconst 0, 1) := tb_d tk_X4_become_1 34 (65, .iconst 0, 1) rfl
theorem dX4_become_66 : decode cX4_become 66 = .ok (.aload_n 0, 1) := tb_d tk_X4_become_1 35 (66, .aload_n 0, 1) rfl
theorem dX4_become_67 : decode cX4_become 67 = .ok (.getfield 18, 3) := tb_d tk_X4_become_1 36 (67, .getfield 18, 3) rfl
theorem dX4_become_70 : decode cX4_become 70 = .ok (.iconst 0, 1) := tb_d tk_X4_become_1 37 (70, .iconst 0, 1) rfl
theorem dX4_become_71 : decode cX4_become 71 = .ok (.bipush 9, 2) := tb_d tk_X4_become_1 38 (71, .bipush 9, 2) rfl
theorem dX4_become_73 : decode cX4_become 73 = .ok (.invokestatic 37, 3) := tb_d tk_X4_become_1 39 (73, .invokestatic 37, 3) rfl
def tb_X4_become_2 : List (Nat × Instr × Nat) := [(76, .aload_n 1, 1), (77, .getfield 21, 3), (80, .iconst 0, 1), (81, .aload_n 0, 1), (82, .getfield 21, 3), (85, .iconst 0, 1), (86, .bipush 9, 2), (88, .invokestatic 37, 3), (91, .return_, 1)]
set_option maxRecDepth 100000 in
theorem tk_X4_become_2 : (tb_X4_become_2.all fun q => decide (decode cX4_become q.1 = .ok q.2)) = true := by decide +kernel
theorem dX4_become_76 : decode cX4_become 76 = .ok (.aload_n 1, 1) := tb_d tk_X4_become_2 0 (76, .aload_n 1, 1) rfl
theorem dX4_become_77 : decode cX4_become 77 = .ok (.getfield 21, 3) := tb_d tk_X4_become_2 1 (77, .getfield 21, 3) rfl
theorem dX4_become_80 : decode cX4_become 80 = .ok (.iconst 0, 1) := tb_d tk_X4_become_2 2 (80, .iconst 0, 1) rfl
theorem dX4_become_81 : decode cX4_become 81 = .ok (.aload_n 0, 1) := tb_d tk_X4_become_2 3 (81, .aload_n 0, 1) rfl
theorem dX4_become_82 : decode cX4_become 82 = .ok (.getfield 21, 3) := tb_d tk_X4_become_2 4 (82, .getfield 21, 3) rfl
theorem dX4_become_85 : decode cX4_become 85 = .ok (.iconst 0, 1) := tb_d tk_X4_become_2 5 (85, .iconst 0, 1) rfl
theorem dX4_become_86 : decode cX4_become 86 = .ok (.bipush 9, 2) := tb_d tk_X4_become_2 6 (86, .bipush 9, 2) rfl
theorem dX4_become_88 : decode cX4_become 88 = .ok (.invokestatic 37, 3) := tb_d tk_X4_become_2 7 (88, .invokestatic 37, 3) rfl
theorem dX4_become_91 : decode cX4_become 91 = .ok (.return_, 1) := tb_d tk_X4_become_2 8 (91, .return_, 1) rfl
def tb_X4_goBy_1 : List (Nat × Instr × Nat) := [(0, .aload_n 0, 1), (1, .dup, 1), (2, .getfield 24, 3), (5, .iconst 1, 1), (6, .iadd, 1), (7, .putfield 24, 3), (10, .aload_n 0, 1), (11, .iconst 0, 1), (12, .putfield 31, 3), (15, .return_, 1)]
set_option maxRecDepth 100000 in
theorem tk_X4_goBy_1 : (tb_X4_goBy_1.all fun q => decide (decode cX4_goBy q.1 = .ok q.2)) = true := by decide +kernel
theorem dX4_goBy_0 : decode cX4_goBy 0 = .ok (.aload_n 0, 1) := tb_d tk_X4_goBy_1 0 (0, .aload_n 0, 1) rfl
theorem dX4_goBy_1 : decode cX4_goBy 1 = .ok (.dup, 1) := tb_d tk_X4_goBy_1 1 (1, .dup, 1) rfl
theorem dX4_goBy_2 : decode cX4_goBy 2 = .ok (.getfield 24, 3) := tb_d tk_X4_goBy_1 2 (2, .getfield 24, 3) rfl
theorem dX4_goBy_5 : decode cX4_goBy 5 = .ok (.iconst 1, 1) := tb_d tk_X4_goBy_1 3 (5, .iconst 1, 1) rfl
theorem dX4_goBy_6 : decode cX4_goBy 6 = .ok (.iadd, 1) := tb_d tk_X4_goBy_1 4 (6, .iadd, 1) rfl
theorem dX4_goBy_7 : decode cX4_goBy 7 = .ok (.putfield 24, 3) := tb_d tk_X4_goBy_1 5 (7, .putfield 24, 3) rfl
theorem dX4_goBy_10 : decode cX4_goBy 10 = .ok (.aload_n 0, 1) := tb_d tk_X4_goBy_1 6 (10, .aload_n 0, 1) rfl
theorem dX4_goBy_11 : decode cX4_goBy 11 = .ok (.iconst 0, 1) := tb_d tk_X4_goBy_1 7 (11, .iconst 0, 1) rfl
theorem dX4_goBy_12 : decode cX4_goBy 12 = .ok (.putfield 31, 3) := tb_d tk_X4_goBy_1 8 (12, .putfield 31, 3) rfl
theorem dX4_goBy_15 : decode cX4_goBy 15 = .ok (.return_, 1) := tb_d tk_X4_goBy_1 9 (15, .return_, 1) rfl
theorem ggX4_addTry_X7_bit : GoodIn wsX4_addTry wsX7_bit := fun w h => ⟨List.mem_cons_of_mem _ (List.mem_append_right _ (List.mem_append_right _ (List.mem_append_left _ h))), good_of_word (gdX7_bit w h)⟩
set_option maxRecDepth 20000 in
theorem gX4_addTry_X7_bit_n43 : GoodIn wsX4_addTry (wsX7_bit) := ggX4_addTry_X7_bit
def tb_X4_addTry_1 : List (Nat × Instr × Nat) := [(0, .aload_n 0, 1), (1, .getfield 31, 3), (4, .bipush 9, 2), (6, .if_icmp .lt 4, 3), (9, .return_, 1), (10, .aload_n 0, 1), (11, .getfield 15, 3), (14, .aload_n 0, 1), (15, .getfield 31, 3), (18, .iload_n 1, 1), (19, .iastore, 1), (20, .aload_n 0, 1), (21, .getfield 18, 3), (24, .aload_n 0, 1), (25, .getfield 31, 3), (28, .iload_n 2, 1), (29, .iastore, 1), (30, .aload_n 0, 1), (31, .getfield 21, 3), (34, .aload_n 0, 1), (35, .getfield 31, 3), (38, .iload_n 3, 1), (39, .invokestatic 43, 3), (42, .iastore, 1), (43, .aload_n 0, 1), (44, .dup, 1), (45, .getfield 31, 3), (48, .iconst 1, 1), (49, .iadd, 1), (50, .putfield 31, 3), (53, .iload_n 3, 1), (54, .ifCond .eq 22, 3), (57, .iload_n 2, 1), (58, .ifCond .lt 18, 3), (61, .iload_n 2, 1), (62, .iconst 4, 1), (63, .if_icmp .ge 13, 3), (66, .aload_n 0, 1), (67, .getfield 9, 3), (70, .iload_n 2, 1)]
set_option maxRecDepth 100000 in
theorem tk_X4_addTry_1 : (tb_X4_addTry_1.all fun q => decide (decode cX4_addTry q.1 = .ok q.2)) = true := by decide +kernel
theorem dX4_addTry_0 : decode cX4_addTry 0 = .ok (.aload_n 0, 1) := tb_d tk_X4_addTry_1 0 (0, .aload_n 0, 1) rfl
theorem dX4_addTry_1 : decode cX4_addTry 1 = .ok (.getfield 31, 3) := tb_d tk_X4_addTry_1 1 (1, .getfield 31, 3) rfl
theorem dX4_addTry_4 : decode cX4_addTry 4 = .ok (.bipush 9, 2) := tb_d tk_X4_addTry_1 2 (4, .bipush 9, 2) rfl
theorem dX4_addTry_6 : decode cX4_addTry 6 = .ok (.if_icmp .lt 4, 3) := tb_d tk_X4_addTry_1 3 (6, .if_icmp .lt 4, 3) rfl
theorem dX4_addTry_9 : decode cX4_addTry 9 = .ok (.return_, 1) := tb_d tk_X4_addTry_1 4 (9, .return_, 1) rfl
theorem dX4_addTry_10 : decode cX4_addTry 10 = .ok (.aload_n 0, 1) := tb_d tk_X4_addTry_1 5 (10, .aload_n 0, 1) rfl
theorem dX4_addTry_11 : decode cX4_addTry 11 = .ok (.getfield 15, 3) := tb_d tk_X4_addTry_1 6 (11, .getfield 15, 3) rfl
theorem dX4_addTry_14 : decode cX4_addTry 14 = .ok (.aload_n 0, 1) := tb_d tk_X4_addTry_1 7 (14, .aload_n 0, 1) rfl
theorem dX4_addTry_15 : decode cX4_addTry 15 = .ok (.getfield 31, 3) := tb_d tk_X4_addTry_1 8 (15, .getfield 31, 3) rfl
theorem dX4_addTry_18 : decode cX4_addTry 18 = .ok (.iload_n 1, 1) := tb_d tk_X4_addTry_1 9 (18, .iload_n 1, 1) rfl
theorem dX4_addTry_19 : decode cX4_addTry 19 = .ok (.iastore, 1) := tb_d tk_X4_addTry_1 10 (19, .iastore, 1) rfl
theorem dX4_addTry_20 : decode cX4_addTry 20 = .ok (.aload_n 0, 1) := tb_d tk_X4_addTry_1 11 (20, .aload_n 0, 1) rfl
theorem dX4_addTry_21 : decode cX4_addTry 21 = .ok (.getfield 18, 3) := tb_d tk_X4_addTry_1 12 (21, .getfield 18, 3) rfl
theorem dX4_addTry_24 : decode cX4_addTry 24 = .ok (.aload_n 0, 1) := tb_d tk_X4_addTry_1 13 (24, .aload_n 0, 1) rfl
theorem dX4_addTry_25 : decode cX4_addTry 25 = .ok (.getfield 31, 3) := tb_d tk_X4_addTry_1 14 (25, .getfield 31, 3) rfl
theorem dX4_addTry_28 : decode cX4_addTry 28 = .ok (.iload_n 2, 1) := tb_d tk_X4_addTry_1 15 (28, .iload_n 2, 1) rfl
theorem dX4_addTry_29 : decode cX4_addTry 29 = .ok (.iastore, 1) := tb_d tk_X4_addTry_1 16 (29, .iastore, 1) rfl
theorem dX4_addTry_30 : decode cX4_addTry 30 = .ok (.aload_n 0, 1) := tb_d tk_X4_addTry_1 17 (30, .aload_n 0, 1) rfl
theorem dX4_addTry_31 : decode cX4_addTry 31 = .ok (.getfield 21, 3) := tb_d tk_X4_addTry_1 18 (31, .getfield 21, 3) rfl
theorem dX4_addTry_34 : decode cX4_addTry 34 = .ok (.aload_n 0, 1) := tb_d tk_X4_addTry_1 19 (34, .aload_n 0, 1) rfl
theorem dX4_addTry_35 : decode cX4_addTry 35 = .ok (.getfield 31, 3) := tb_d tk_X4_addTry_1 20 (35, .getfield 31, 3) rfl
theorem dX4_addTry_38 : decode cX4_addTry 38 = .ok (.iload_n 3, 1) := tb_d tk_X4_addTry_1 21 (38, .iload_n 3, 1) rfl
theorem dX4_addTry_39 : decode cX4_addTry 39 = .ok (.invokestatic 43, 3) := tb_d tk_X4_addTry_1 22 (39, .invokestatic 43, 3) rfl
theorem dX4_addTry_42 : decode cX4_addTry 42 = .ok (.iastore, 1) := tb_d tk_X4_addTry_1 23 (42, .iastore, 1) rfl
theorem dX4_addTry_43 : decode cX4_addTry 43 = .ok (.aload_n 0, 1) := tb_d tk_X4_addTry_1 24 (43, .aload_n 0, 1) rfl
theorem dX4_addTry_44 : decode cX4_addTry 44 = .ok (.dup, 1) := tb_d tk_X4_addTry_1 25 (44, .dup, 1) rfl
theorem dX4_addTry_45 : decode cX4_addTry 45 = .ok (.getfield 31, 3) := tb_d tk_X4_addTry_1 26 (45, .getfield 31, 3) rfl
theorem dX4_addTry_48 : decode cX4_addTry 48 = .ok (.iconst 1, 1) := tb_d tk_X4_addTry_1 27 (48, .iconst 1, 1) rfl
theorem dX4_addTry_49 : decode cX4_addTry 49 = .ok (.iadd, 1) := tb_d tk_X4_addTry_1 28 (49, .iadd, 1) rfl
theorem dX4_addTry_50 : decode cX4_addTry 50 = .ok (.putfield 31, 3) := tb_d tk_X4_addTry_1 29 (50, .putfield 31, 3) rfl
theorem dX4_addTry_53 : decode cX4_addTry 53 = .ok (.iload_n 3, 1) := tb_d tk_X4_addTry_1 30 (53, .iload_n 3, 1) rfl
theorem dX4_addTry_54 : decode cX4_addTry 54 = .ok (.ifCond .eq 22, 3) := tb_d tk_X4_addTry_1 31 (54, .ifCond .eq 22, 3) rfl
theorem dX4_addTry_57 : decode cX4_addTry 57 = .ok (.iload_n 2, 1) := tb_d tk_X4_addTry_1 32 (57, .iload_n 2, 1) rfl
theorem dX4_addTry_58 : decode cX4_addTry 58 = .ok (.ifCond .lt 18, 3) := tb_d tk_X4_addTry_1 33 (58, .ifCond .lt 18, 3) rfl
theorem dX4_addTry_61 : decode cX4_addTry 61 = .ok (.iload_n 2, 1) := tb_d tk_X4_addTry_1 34 (61, .iload_n 2, 1) rfl
theorem dX4_addTry_62 : decode cX4_addTry 62 = .ok (.iconst 4, 1) := tb_d tk_X4_addTry_1 35 (62, .iconst 4, 1) rfl
theorem dX4_addTry_63 : decode cX4_addTry 63 = .ok (.if_icmp .ge 13, 3) := tb_d tk_X4_addTry_1 36 (63, .if_icmp .ge 13, 3) rfl
theorem dX4_addTry_66 : decode cX4_addTry 66 = .ok (.aload_n 0, 1) := tb_d tk_X4_addTry_1 37 (66, .aload_n 0, 1) rfl
theorem dX4_addTry_67 : decode cX4_addTry 67 = .ok (.getfield 9, 3) := tb_d tk_X4_addTry_1 38 (67, .getfield 9, 3) rfl
theorem dX4_addTry_70 : decode cX4_addTry 70 = .ok (.iload_n 2, 1) := tb_d tk_X4_addTry_1 39 (70, .iload_n 2, 1) rfl
def tb_X4_addTry_2 : List (Nat × Instr × Nat) := [(71, .dup2, 1), (72, .iaload, 1), (73, .iconst 1, 1), (74, .iadd, 1), (75, .iastore, 1), (76, .return_, 1)]
set_option maxRecDepth 100000 in
theorem tk_X4_addTry_2 : (tb_X4_addTry_2.all fun q => decide (decode cX4_addTry q.1 = .ok q.2)) = true := by decide +kernel
theorem dX4_addTry_71 : decode cX4_addTry 71 = .ok (.dup2, 1) := tb_d tk_X4_addTry_2 0 (71, .dup2, 1) rfl
theorem dX4_addTry_72 : decode cX4_addTry 72 = .ok (.iaload, 1) := tb_d tk_X4_addTry_2 1 (72, .iaload, 1) rfl
theorem dX4_addTry_73 : decode cX4_addTry 73 = .ok (.iconst 1, 1) := tb_d tk_X4_addTry_2 2 (73, .iconst 1, 1) rfl
theorem dX4_addTry_74 : decode cX4_addTry 74 = .ok (.iadd, 1) := tb_d tk_X4_addTry_2 3 (74, .iadd, 1) rfl
theorem dX4_addTry_75 : decode cX4_addTry 75 = .ok (.iastore, 1) := tb_d tk_X4_addTry_2 4 (75, .iastore, 1) rfl
theorem dX4_addTry_76 : decode cX4_addTry 76 = .ok (.return_, 1) := tb_d tk_X4_addTry_2 5 (76, .return_, 1) rfl
def tb_X4_tookInAll_1 : List (Nat × Instr × Nat) := [(0, .iconst 0, 1), (1, .istore_n 1, 1), (2, .iconst 0, 1), (3, .istore_n 2, 1), (4, .iload_n 2, 1), (5, .iconst 4, 1), (6, .if_icmp .ge 18, 3), (9, .iload_n 1, 1), (10, .aload_n 0, 1), (11, .getfield 9, 3), (14, .iload_n 2, 1), (15, .iaload, 1), (16, .iadd, 1), (17, .istore_n 1, 1), (18, .iinc 2 1, 3), (21, .goto (-17), 3), (24, .iload_n 1, 1), (25, .ireturn, 1)]
set_option maxRecDepth 100000 in
theorem tk_X4_tookInAll_1 : (tb_X4_tookInAll_1.all fun q => decide (decode cX4_tookInAll q.1 = .ok q.2)) = true := by decide +kernel
theorem dX4_tookInAll_0 : decode cX4_tookInAll 0 = .ok (.iconst 0, 1) := tb_d tk_X4_tookInAll_1 0 (0, .iconst 0, 1) rfl
theorem dX4_tookInAll_1 : decode cX4_tookInAll 1 = .ok (.istore_n 1, 1) := tb_d tk_X4_tookInAll_1 1 (1, .istore_n 1, 1) rfl
theorem dX4_tookInAll_2 : decode cX4_tookInAll 2 = .ok (.iconst 0, 1) := tb_d tk_X4_tookInAll_1 2 (2, .iconst 0, 1) rfl
theorem dX4_tookInAll_3 : decode cX4_tookInAll 3 = .ok (.istore_n 2, 1) := tb_d tk_X4_tookInAll_1 3 (3, .istore_n 2, 1) rfl
theorem dX4_tookInAll_4 : decode cX4_tookInAll 4 = .ok (.iload_n 2, 1) := tb_d tk_X4_tookInAll_1 4 (4, .iload_n 2, 1) rfl
theorem dX4_tookInAll_5 : decode cX4_tookInAll 5 = .ok (.iconst 4, 1) := tb_d tk_X4_tookInAll_1 5 (5, .iconst 4, 1) rfl
theorem dX4_tookInAll_6 : decode cX4_tookInAll 6 = .ok (.if_icmp .ge 18, 3) := tb_d tk_X4_tookInAll_1 6 (6, .if_icmp .ge 18, 3) rfl
theorem dX4_tookInAll_9 : decode cX4_tookInAll 9 = .ok (.iload_n 1, 1) := tb_d tk_X4_tookInAll_1 7 (9, .iload_n 1, 1) rfl
theorem dX4_tookInAll_10 : decode cX4_tookInAll 10 = .ok (.aload_n 0, 1) := tb_d tk_X4_tookInAll_1 8 (10, .aload_n 0, 1) rfl
theorem dX4_tookInAll_11 : decode cX4_tookInAll 11 = .ok (.getfield 9, 3) := tb_d tk_X4_tookInAll_1 9 (11, .getfield 9, 3) rfl
theorem dX4_tookInAll_14 : decode cX4_tookInAll 14 = .ok (.iload_n 2, 1) := tb_d tk_X4_tookInAll_1 10 (14, .iload_n 2, 1) rfl
theorem dX4_tookInAll_15 : decode cX4_tookInAll 15 = .ok (.iaload, 1) := tb_d tk_X4_tookInAll_1 11 (15, .iaload, 1) rfl
theorem dX4_tookInAll_16 : decode cX4_tookInAll 16 = .ok (.iadd, 1) := tb_d tk_X4_tookInAll_1 12 (16, .iadd, 1) rfl
theorem dX4_tookInAll_17 : decode cX4_tookInAll 17 = .ok (.istore_n 1, 1) := tb_d tk_X4_tookInAll_1 13 (17, .istore_n 1, 1) rfl
theorem dX4_tookInAll_18 : decode cX4_tookInAll 18 = .ok (.iinc 2 1, 3) := tb_d tk_X4_tookInAll_1 14 (18, .iinc 2 1, 3) rfl
theorem dX4_tookInAll_21 : decode cX4_tookInAll 21 = .ok (.goto (-17), 3) := tb_d tk_X4_tookInAll_1 15 (21, .goto (-17), 3) rfl
theorem dX4_tookInAll_24 : decode cX4_tookInAll 24 = .ok (.iload_n 1, 1) := tb_d tk_X4_tookInAll_1 16 (24, .iload_n 1, 1) rfl
theorem dX4_tookInAll_25 : decode cX4_tookInAll 25 = .ok (.ireturn, 1) := tb_d tk_X4_tookInAll_1 17 (25, .ireturn, 1) rfl
def tb_X5_init_1 : List (Nat × Instr × Nat) := [(0, .aload_n 0, 1), (1, .invokespecial 3, 3), (4, .aload_n 0, 1), (5, .bipush 40, 2), (7, .newarray .int, 2), (9, .putfield 9, 3), (12, .aload_n 0, 1), (13, .iconst (-1), 1), (14, .putfield 15, 3), (17, .return_, 1)]
set_option maxRecDepth 100000 in
theorem tk_X5_init_1 : (tb_X5_init_1.all fun q => decide (decode cX5_init q.1 = .ok q.2)) = true := by decide +kernel
theorem dX5_init_0 : decode cX5_init 0 = .ok (.aload_n 0, 1) := tb_d tk_X5_init_1 0 (0, .aload_n 0, 1) rfl
theorem dX5_init_1 : decode cX5_init 1 = .ok (.invokespecial 3, 3) := tb_d tk_X5_init_1 1 (1, .invokespecial 3, 3) rfl
theorem dX5_init_4 : decode cX5_init 4 = .ok (.aload_n 0, 1) := tb_d tk_X5_init_1 2 (4, .aload_n 0, 1) rfl
theorem dX5_init_5 : decode cX5_init 5 = .ok (.bipush 40, 2) := tb_d tk_X5_init_1 3 (5, .bipush 40, 2) rfl
theorem dX5_init_7 : decode cX5_init 7 = .ok (.newarray .int, 2) := tb_d tk_X5_init_1 4 (7, .newarray .int, 2) rfl
theorem dX5_init_9 : decode cX5_init 9 = .ok (.putfield 9, 3) := tb_d tk_X5_init_1 5 (9, .putfield 9, 3) rfl
theorem dX5_init_12 : decode cX5_init 12 = .ok (.aload_n 0, 1) := tb_d tk_X5_init_1 6 (12, .aload_n 0, 1) rfl
theorem dX5_init_13 : decode cX5_init 13 = .ok (.iconst (-1), 1) := tb_d tk_X5_init_1 7 (13, .iconst (-1), 1) rfl
theorem dX5_init_14 : decode cX5_init 14 = .ok (.putfield 15, 3) := tb_d tk_X5_init_1 8 (14, .putfield 15, 3) rfl
theorem dX5_init_17 : decode cX5_init 17 = .ok (.return_, 1) := tb_d tk_X5_init_1 9 (17, .return_, 1) rfl
def tb_X5_make_1 : List (Nat × Instr × Nat) := [(0, .aload_n 0, 1), (1, .iload_n 1, 1), (2, .putfield 15, 3), (5, .aload_n 0, 1), (6, .iload_n 2, 1), (7, .putfield 19, 3), (10, .iconst 0, 1), (11, .istore_n 3, 1), (12, .iload_n 3, 1), (13, .bipush 40, 2), (15, .if_icmp .ge 16, 3), (18, .aload_n 0, 1), (19, .getfield 9, 3), (22, .iload_n 3, 1), (23, .iconst 0, 1), (24, .iastore, 1), (25, .iinc 3 1, 3), (28, .goto (-16), 3), (31, .return_, 1)]
set_option maxRecDepth 100000 in
theorem tk_X5_make_1 : (tb_X5_make_1.all fun q => decide (decode cX5_make q.1 = .ok q.2)) = true := by decide +kernel
theorem dX5_make_0 : decode cX5_make 0 = .ok (.aload_n 0, 1) := tb_d tk_X5_make_1 0 (0, .aload_n 0, 1) rfl
theorem dX5_make_1 : decode cX5_make 1 = .ok (.iload_n 1, 1) := tb_d tk_X5_make_1 1 (1, .iload_n 1, 1) rfl
theorem dX5_make_2 : decode cX5_make 2 = .ok (.putfield 15, 3) := tb_d tk_X5_make_1 2 (2, .putfield 15, 3) rfl
theorem dX5_make_5 : decode cX5_make 5 = .ok (.aload_n 0, 1) := tb_d tk_X5_make_1 3 (5, .aload_n 0, 1) rfl
theorem dX5_make_6 : decode cX5_make 6 = .ok (.iload_n 2, 1) := tb_d tk_X5_make_1 4 (6, .iload_n 2, 1) rfl
theorem dX5_make_7 : decode cX5_make 7 = .ok (.putfield 19, 3) := tb_d tk_X5_make_1 5 (7, .putfield 19, 3) rfl
theorem dX5_make_10 : decode cX5_make 10 = .ok (.iconst 0, 1) := tb_d tk_X5_make_1 6 (10, .iconst 0, 1) rfl
theorem dX5_make_11 : decode cX5_make 11 = .ok (.istore_n 3, 1) := tb_d tk_X5_make_1 7 (11, .istore_n 3, 1) rfl
theorem dX5_make_12 : decode cX5_make 12 = .ok (.iload_n 3, 1) := tb_d tk_X5_make_1 8 (12, .iload_n 3, 1) rfl
theorem dX5_make_13 : decode cX5_make 13 = .ok (.bipush 40, 2) := tb_d tk_X5_make_1 9 (13, .bipush 40, 2) rfl
theorem dX5_make_15 : decode cX5_make 15 = .ok (.if_icmp .ge 16, 3) := tb_d tk_X5_make_1 10 (15, .if_icmp .ge 16, 3) rfl
theorem dX5_make_18 : decode cX5_make 18 = .ok (.aload_n 0, 1) := tb_d tk_X5_make_1 11 (18, .aload_n 0, 1) rfl
theorem dX5_make_19 : decode cX5_make 19 = .ok (.getfield 9, 3) := tb_d tk_X5_make_1 12 (19, .getfield 9, 3) rfl
theorem dX5_make_22 : decode cX5_make 22 = .ok (.iload_n 3, 1) := tb_d tk_X5_make_1 13 (22, .iload_n 3, 1) rfl
theorem dX5_make_23 : decode cX5_make 23 = .ok (.iconst 0, 1) := tb_d tk_X5_make_1 14 (23, .iconst 0, 1) rfl
theorem dX5_make_24 : decode cX5_make 24 = .ok (.iastore, 1) := tb_d tk_X5_make_1 15 (24, .iastore, 1) rfl
theorem dX5_make_25 : decode cX5_make 25 = .ok (.iinc 3 1, 3) := tb_d tk_X5_make_1 16 (25, .iinc 3 1, 3) rfl
theorem dX5_make_28 : decode cX5_make 28 = .ok (.goto (-16), 3) := tb_d tk_X5_make_1 17 (28, .goto (-16), 3) rfl
theorem dX5_make_31 : decode cX5_make 31 = .ok (.return_, 1) := tb_d tk_X5_make_1 18 (31, .return_, 1) rfl
def tb_X5_reaches_1 : List (Nat × Instr × Nat) := [(0, .iload_n 1, 1), (1, .ifCond .lt 21, 3), (4, .iload_n 2, 1), (5, .ifCond .lt 17, 3), (8, .iload_n 1, 1), (9, .aload_n 0, 1), (10, .getfield 19, 3), (13, .iload_n 2, 1), (14, .isub, 1), (15, .if_icmp .gt 7, 3), (18, .iconst 1, 1), (19, .goto 4, 3), (22, .iconst 0, 1), (23, .ireturn, 1)]
set_option maxRecDepth 100000 in
theorem tk_X5_reaches_1 : (tb_X5_reaches_1.all fun q => decide (decode cX5_reaches q.1 = .ok q.2)) = true := by decide +kernel
theorem dX5_reaches_0 : decode cX5_reaches 0 = .ok (.iload_n 1, 1) := tb_d tk_X5_reaches_1 0 (0, .iload_n 1, 1) rfl
theorem dX5_reaches_1 : decode cX5_reaches 1 = .ok (.ifCond .lt 21, 3) := tb_d tk_X5_reaches_1 1 (1, .ifCond .lt 21, 3) rfl
theorem dX5_reaches_4 : decode cX5_reaches 4 = .ok (.iload_n 2, 1) := tb_d tk_X5_reaches_1 2 (4, .iload_n 2, 1) rfl
theorem dX5_reaches_5 : decode cX5_reaches 5 = .ok (.ifCond .lt 17, 3) := tb_d tk_X5_reaches_1 3 (5, .ifCond .lt 17, 3) rfl
theorem dX5_reaches_8 : decode cX5_reaches 8 = .ok (.iload_n 1, 1) := tb_d tk_X5_reaches_1 4 (8, .iload_n 1, 1) rfl
theorem dX5_reaches_9 : decode cX5_reaches 9 = .ok (.aload_n 0, 1) := tb_d tk_X5_reaches_1 5 (9, .aload_n 0, 1) rfl
theorem dX5_reaches_10 : decode cX5_reaches 10 = .ok (.getfield 19, 3) := tb_d tk_X5_reaches_1 6 (10, .getfield 19, 3) rfl
theorem dX5_reaches_13 : decode cX5_reaches 13 = .ok (.iload_n 2, 1) := tb_d tk_X5_reaches_1 7 (13, .iload_n 2, 1) rfl
theorem dX5_reaches_14 : decode cX5_reaches 14 = .ok (.isub, 1) := tb_d tk_X5_reaches_1 8 (14, .isub, 1) rfl
theorem dX5_reaches_15 : decode cX5_reaches 15 = .ok (.if_icmp .gt 7, 3) := tb_d tk_X5_reaches_1 9 (15, .if_icmp .gt 7, 3) rfl
theorem dX5_reaches_18 : decode cX5_reaches 18 = .ok (.iconst 1, 1) := tb_d tk_X5_reaches_1 10 (18, .iconst 1, 1) rfl
theorem dX5_reaches_19 : decode cX5_reaches 19 = .ok (.goto 4, 3) := tb_d tk_X5_reaches_1 11 (19, .goto 4, 3) rfl
theorem dX5_reaches_22 : decode cX5_reaches 22 = .ok (.iconst 0, 1) := tb_d tk_X5_reaches_1 12 (22, .iconst 0, 1) rfl
theorem dX5_reaches_23 : decode cX5_reaches 23 = .ok (.ireturn, 1) := tb_d tk_X5_reaches_1 13 (23, .ireturn, 1) rfl
theorem ggX5_findingOf_X5_reaches : GoodIn wsX5_findingOf wsX5_reaches := fun w h => ⟨List.mem_cons_of_mem _ (List.mem_append_right _ (List.mem_append_right _ (List.mem_append_right _ (List.mem_append_left _ h)))), good_of_word (gdX5_reaches w h)⟩
set_option maxRecDepth 20000 in
theorem gX5_findingOf_X5_reaches : GoodIn wsX5_findingOf (wsV RX5 22 RX5 yX5_reaches wsX5_reaches) := goodIn_app (a := bkV RX5 22 RX5 yX5_reaches) (fun w h => ⟨List.mem_cons_of_mem _ (List.mem_append_right _ (List.mem_append_left _ h)), good_of_word (gd_bV _ _ _ _ w h)⟩) ggX5_findingOf_X5_reaches
def tb_X5_findingOf_1 : List (Nat × Instr × Nat) := [(0, .aload_n 0, 1), (1, .getfield 15, 3), (4, .iconst (-1), 1), (5, .if_icmp .ne 5, 3), (8, .iconst 1, 1), (9, .ireturn, 1), (10, .aload_n 0, 1), (11, .iload_n 1, 1), (12, .iload_n 2, 1), (13, .invokevirtual 22, 3), (16, .ifCond .eq 7, 3), (19, .iconst 0, 1), (20, .goto 4, 3), (23, .iconst 2, 1), (24, .ireturn, 1)]
set_option maxRecDepth 100000 in
theorem tk_X5_findingOf_1 : (tb_X5_findingOf_1.all fun q => decide (decode cX5_findingOf q.1 = .ok q.2)) = true := by decide +kernel
theorem dX5_findingOf_0 : decode cX5_findingOf 0 = .ok (.aload_n 0, 1) := tb_d tk_X5_findingOf_1 0 (0, .aload_n 0, 1) rfl
theorem dX5_findingOf_1 : decode cX5_findingOf 1 = .ok (.getfield 15, 3) := tb_d tk_X5_findingOf_1 1 (1, .getfield 15, 3) rfl
theorem dX5_findingOf_4 : decode cX5_findingOf 4 = .ok (.iconst (-1), 1) := tb_d tk_X5_findingOf_1 2 (4, .iconst (-1), 1) rfl
theorem dX5_findingOf_5 : decode cX5_findingOf 5 = .ok (.if_icmp .ne 5, 3) := tb_d tk_X5_findingOf_1 3 (5, .if_icmp .ne 5, 3) rfl
theorem dX5_findingOf_8 : decode cX5_findingOf 8 = .ok (.iconst 1, 1) := tb_d tk_X5_findingOf_1 4 (8, .iconst 1, 1) rfl
theorem dX5_findingOf_9 : decode cX5_findingOf 9 = .ok (.ireturn, 1) := tb_d tk_X5_findingOf_1 5 (9, .ireturn, 1) rfl
theorem dX5_findingOf_10 : decode cX5_findingOf 10 = .ok (.aload_n 0, 1) := tb_d tk_X5_findingOf_1 6 (10, .aload_n 0, 1) rfl
theorem dX5_findingOf_11 : decode cX5_findingOf 11 = .ok (.iload_n 1, 1) := tb_d tk_X5_findingOf_1 7 (11, .iload_n 1, 1) rfl
theorem dX5_findingOf_12 : decode cX5_findingOf 12 = .ok (.iload_n 2, 1) := tb_d tk_X5_findingOf_1 8 (12, .iload_n 2, 1) rfl
theorem dX5_findingOf_13 : decode cX5_findingOf 13 = .ok (.invokevirtual 22, 3) := tb_d tk_X5_findingOf_1 9 (13, .invokevirtual 22, 3) rfl
theorem dX5_findingOf_16 : decode cX5_findingOf 16 = .ok (.ifCond .eq 7, 3) := tb_d tk_X5_findingOf_1 10 (16, .ifCond .eq 7, 3) rfl
theorem dX5_findingOf_19 : decode cX5_findingOf 19 = .ok (.iconst 0, 1) := tb_d tk_X5_findingOf_1 11 (19, .iconst 0, 1) rfl
theorem dX5_findingOf_20 : decode cX5_findingOf 20 = .ok (.goto 4, 3) := tb_d tk_X5_findingOf_1 12 (20, .goto 4, 3) rfl
theorem dX5_findingOf_23 : decode cX5_findingOf 23 = .ok (.iconst 2, 1) := tb_d tk_X5_findingOf_1 13 (23, .iconst 2, 1) rfl
theorem dX5_findingOf_24 : decode cX5_findingOf 24 = .ok (.ireturn, 1) := tb_d tk_X5_findingOf_1 14 (24, .ireturn, 1) rfl
def tb_X5_put_1 : List (Nat × Instr × Nat) := [(0, .aload_n 0, 1), (1, .getfield 9, 3), (4, .iload_n 1, 1), (5, .aload_n 0, 1), (6, .getfield 15, 3), (9, .ifCond .ne 8, 3), (12, .iload_n 2, 1), (13, .i2b, 1), (14, .goto 17, 3), (17, .aload_n 0, 1), (18, .getfield 15, 3), (21, .iconst 1, 1), (22, .if_icmp .ne 8, 3), (25, .iload_n 2, 1), (26, .i2s, 1), (27, .goto 4, 3), (30, .iload_n 2, 1), (31, .iastore, 1), (32, .aload_n 0, 1), (33, .getfield 9, 3), (36, .iload_n 1, 1), (37, .iaload, 1), (38, .ireturn, 1)]
set_option maxRecDepth 100000 in
theorem tk_X5_put_1 : (tb_X5_put_1.all fun q => decide (decode cX5_put q.1 = .ok q.2)) = true := by decide +kernel
theorem dX5_put_0 : decode cX5_put 0 = .ok (.aload_n 0, 1) := tb_d tk_X5_put_1 0 (0, .aload_n 0, 1) rfl
theorem dX5_put_1 : decode cX5_put 1 = .ok (.getfield 9, 3) := tb_d tk_X5_put_1 1 (1, .getfield 9, 3) rfl
theorem dX5_put_4 : decode cX5_put 4 = .ok (.iload_n 1, 1) := tb_d tk_X5_put_1 2 (4, .iload_n 1, 1) rfl
theorem dX5_put_5 : decode cX5_put 5 = .ok (.aload_n 0, 1) := tb_d tk_X5_put_1 3 (5, .aload_n 0, 1) rfl
theorem dX5_put_6 : decode cX5_put 6 = .ok (.getfield 15, 3) := tb_d tk_X5_put_1 4 (6, .getfield 15, 3) rfl
theorem dX5_put_9 : decode cX5_put 9 = .ok (.ifCond .ne 8, 3) := tb_d tk_X5_put_1 5 (9, .ifCond .ne 8, 3) rfl
theorem dX5_put_12 : decode cX5_put 12 = .ok (.iload_n 2, 1) := tb_d tk_X5_put_1 6 (12, .iload_n 2, 1) rfl
theorem dX5_put_13 : decode cX5_put 13 = .ok (.i2b, 1) := tb_d tk_X5_put_1 7 (13, .i2b, 1) rfl
theorem dX5_put_14 : decode cX5_put 14 = .ok (.goto 17, 3) := tb_d tk_X5_put_1 8 (14, .goto 17, 3) rfl
theorem dX5_put_17 : decode cX5_put 17 = .ok (.aload_n 0, 1) := tb_d tk_X5_put_1 9 (17, .aload_n 0, 1) rfl
theorem dX5_put_18 : decode cX5_put 18 = .ok (.getfield 15, 3) := tb_d tk_X5_put_1 10 (18, .getfield 15, 3) rfl
theorem dX5_put_21 : decode cX5_put 21 = .ok (.iconst 1, 1) := tb_d tk_X5_put_1 11 (21, .iconst 1, 1) rfl
theorem dX5_put_22 : decode cX5_put 22 = .ok (.if_icmp .ne 8, 3) := tb_d tk_X5_put_1 12 (22, .if_icmp .ne 8, 3) rfl
theorem dX5_put_25 : decode cX5_put 25 = .ok (.iload_n 2, 1) := tb_d tk_X5_put_1 13 (25, .iload_n 2, 1) rfl
theorem dX5_put_26 : decode cX5_put 26 = .ok (.i2s, 1) := tb_d tk_X5_put_1 14 (26, .i2s, 1) rfl
theorem dX5_put_27 : decode cX5_put 27 = .ok (.goto 4, 3) := tb_d tk_X5_put_1 15 (27, .goto 4, 3) rfl
theorem dX5_put_30 : decode cX5_put 30 = .ok (.iload_n 2, 1) := tb_d tk_X5_put_1 16 (30, .iload_n 2, 1) rfl
theorem dX5_put_31 : decode cX5_put 31 = .ok (.iastore, 1) := tb_d tk_X5_put_1 17 (31, .iastore, 1) rfl
theorem dX5_put_32 : decode cX5_put 32 = .ok (.aload_n 0, 1) := tb_d tk_X5_put_1 18 (32, .aload_n 0, 1) rfl
theorem dX5_put_33 : decode cX5_put 33 = .ok (.getfield 9, 3) := tb_d tk_X5_put_1 19 (33, .getfield 9, 3) rfl
theorem dX5_put_36 : decode cX5_put 36 = .ok (.iload_n 1, 1) := tb_d tk_X5_put_1 20 (36, .iload_n 1, 1) rfl
theorem dX5_put_37 : decode cX5_put 37 = .ok (.iaload, 1) := tb_d tk_X5_put_1 21 (37, .iaload, 1) rfl
theorem dX5_put_38 : decode cX5_put 38 = .ok (.ireturn, 1) := tb_d tk_X5_put_1 22 (38, .ireturn, 1) rfl
theorem ggX6_init_X2_init : GoodIn wsX6_init wsX2_init := fun w h => ⟨List.mem_cons_of_mem _ (List.mem_append_right _ (List.mem_append_right _ (List.mem_append_right _ (List.mem_append_right _ (List.mem_append_left _ h))))), good_of_word (gdX2_init w h)⟩
set_option maxRecDepth 20000 in
theorem gX6_init_X2_init_n17 : GoodIn wsX6_init (wsX2_init) := ggX6_init_X2_init
def tb_X6_init_1 : List (Nat × Instr × Nat) := [(0, .aload_n 0, 1), (1, .invokespecial 3, 3), (4, .aload_n 0, 1), (5, .bipush 100, 2), (7, .newarray .int, 2), (9, .putfield 9, 3), (12, .aload_n 0, 1), (13, .new 15, 3), (16, .dup, 1), (17, .invokespecial 17, 3), (20, .putfield 18, 3), (23, .return_, 1)]
set_option maxRecDepth 100000 in
theorem tk_X6_init_1 : (tb_X6_init_1.all fun q => decide (decode cX6_init q.1 = .ok q.2)) = true := by decide +kernel
theorem dX6_init_0 : decode cX6_init 0 = .ok (.aload_n 0, 1) := tb_d tk_X6_init_1 0 (0, .aload_n 0, 1) rfl
theorem dX6_init_1 : decode cX6_init 1 = .ok (.invokespecial 3, 3) := tb_d tk_X6_init_1 1 (1, .invokespecial 3, 3) rfl
theorem dX6_init_4 : decode cX6_init 4 = .ok (.aload_n 0, 1) := tb_d tk_X6_init_1 2 (4, .aload_n 0, 1) rfl
theorem dX6_init_5 : decode cX6_init 5 = .ok (.bipush 100, 2) := tb_d tk_X6_init_1 3 (5, .bipush 100, 2) rfl
theorem dX6_init_7 : decode cX6_init 7 = .ok (.newarray .int, 2) := tb_d tk_X6_init_1 4 (7, .newarray .int, 2) rfl
theorem dX6_init_9 : decode cX6_init 9 = .ok (.putfield 9, 3) := tb_d tk_X6_init_1 5 (9, .putfield 9, 3) rfl
theorem dX6_init_12 : decode cX6_init 12 = .ok (.aload_n 0, 1) := tb_d tk_X6_init_1 6 (12, .aload_n 0, 1) rfl
theorem dX6_init_13 : decode cX6_init 13 = .ok (.new 15, 3) := tb_d tk_X6_init_1 7 (13, .new 15, 3) rfl
theorem dX6_init_16 : decode cX6_init 16 = .ok (.dup, 1) := tb_d tk_X6_init_1 8 (16, .dup, 1) rfl
theorem dX6_init_17 : decode cX6_init 17 = .ok (.invokespecial 17, 3) := tb_d tk_X6_init_1 9 (17, .invokespecial 17, 3) rfl
theorem dX6_init_20 : decode cX6_init 20 = .ok (.putfield 18, 3) := tb_d tk_X6_init_1 10 (20, .putfield 18, 3) rfl
theorem dX6_init_23 : decode cX6_init 23 = .ok (.return_, 1) := tb_d tk_X6_init_1 11 (23, .return_, 1) rfl
def tb_X6_append_1 : List (Nat × Instr × Nat) := [(0, .aload_n 0, 1), (1, .getfield 22, 3), (4, .bipush 100, 2), (6, .if_icmp .lt 5, 3), (9, .iconst 0, 1), (10, .ireturn, 1), (11, .aload_n 0, 1), (12, .getfield 9, 3), (15, .aload_n 0, 1), (16, .getfield 22, 3), (19, .iload_n 1, 1), (20, .iastore, 1), (21, .aload_n 0, 1), (22, .dup, 1), (23, .getfield 22, 3), (26, .iconst 1, 1), (27, .iadd, 1), (28, .putfield 22, 3), (31, .iconst 1, 1), (32, .ireturn, 1)]
set_option maxRecDepth 100000 in
theorem tk_X6_append_1 : (tb_X6_append_1.all fun q => decide (decode cX6_append q.1 = .ok q.2)) = true := by decide +kernel
theorem dX6_append_0 : decode cX6_append 0 = .ok (.aload_n 0, 1) := tb_d tk_X6_append_1 0 (0, .aload_n 0, 1) rfl
theorem dX6_append_1 : decode cX6_append 1 = .ok (.getfield 22, 3) := tb_d tk_X6_append_1 1 (1, .getfield 22, 3) rfl
theorem dX6_append_4 : decode cX6_append 4 = .ok (.bipush 100, 2) := tb_d tk_X6_append_1 2 (4, .bipush 100, 2) rfl
theorem dX6_append_6 : decode cX6_append 6 = .ok (.if_icmp .lt 5, 3) := tb_d tk_X6_append_1 3 (6, .if_icmp .lt 5, 3) rfl
theorem dX6_append_9 : decode cX6_append 9 = .ok (.iconst 0, 1) := tb_d tk_X6_append_1 4 (9, .iconst 0, 1) rfl
theorem dX6_append_10 : decode cX6_append 10 = .ok (.ireturn, 1) := tb_d tk_X6_append_1 5 (10, .ireturn, 1) rfl
theorem dX6_append_11 : decode cX6_append 11 = .ok (.aload_n 0, 1) := tb_d tk_X6_append_1 6 (11, .aload_n 0, 1) rfl
theorem dX6_append_12 : decode cX6_append 12 = .ok (.getfield 9, 3) := tb_d tk_X6_append_1 7 (12, .getfield 9, 3) rfl
theorem dX6_append_15 : decode cX6_append 15 = .ok (.aload_n 0, 1) := tb_d tk_X6_append_1 8 (15, .aload_n 0, 1) rfl
theorem dX6_append_16 : decode cX6_append 16 = .ok (.getfield 22, 3) := tb_d tk_X6_append_1 9 (16, .getfield 22, 3) rfl
theorem dX6_append_19 : decode cX6_append 19 = .ok (.iload_n 1, 1) := tb_d tk_X6_append_1 10 (19, .iload_n 1, 1) rfl
theorem dX6_append_20 : decode cX6_append 20 = .ok (.iastore, 1) := tb_d tk_X6_append_1 11 (20, .iastore, 1) rfl
theorem dX6_append_21 : decode cX6_append 21 = .ok (.aload_n 0, 1) := tb_d tk_X6_append_1 12 (21, .aload_n 0, 1) rfl
theorem dX6_append_22 : decode cX6_append 22 = .ok (.dup, 1) := tb_d tk_X6_append_1 13 (22, .dup, 1) rfl
theorem dX6_append_23 : decode cX6_append 23 = .ok (.getfield 22, 3) := tb_d tk_X6_append_1 14 (23, .getfield 22, 3) rfl
theorem dX6_append_26 : decode cX6_append 26 = .ok (.iconst 1, 1) := tb_d tk_X6_append_1 15 (26, .iconst 1, 1) rfl
theorem dX6_append_27 : decode cX6_append 27 = .ok (.iadd, 1) := tb_d tk_X6_append_1 16 (27, .iadd, 1) rfl
theorem dX6_append_28 : decode cX6_append 28 = .ok (.putfield 22, 3) := tb_d tk_X6_append_1 17 (28, .putfield 22, 3) rfl
theorem dX6_append_31 : decode cX6_append 31 = .ok (.iconst 1, 1) := tb_d tk_X6_append_1 18 (31, .iconst 1, 1) rfl
theorem dX6_append_32 : decode cX6_append 32 = .ok (.ireturn, 1) := tb_d tk_X6_append_1 19 (32, .ireturn, 1) rfl
theorem ggX6_read_X6_readLaw : GoodIn wsX6_read wsX6_readLaw := fun w h => ⟨List.mem_cons_of_mem _ (List.mem_append_right _ (List.mem_append_right _ (List.mem_append_right _ (List.mem_append_right _ (List.mem_append_right _ (List.mem_append_right _ (List.mem_append_right _ (List.mem_append_right _ (List.mem_append_right _ (List.mem_append_left _ h)))))))))), good_of_word (gdX6_readLaw w h)⟩
set_option maxRecDepth 20000 in
theorem gX6_read_X6_readLaw : GoodIn wsX6_read (wsV RX6 35 RX6 yX6_readLaw wsX6_readLaw) := goodIn_app (a := bkV RX6 35 RX6 yX6_readLaw) (fun w h => ⟨List.mem_cons_of_mem _ (List.mem_append_right _ (List.mem_append_left _ h)), good_of_word (gd_bV _ _ _ _ w h)⟩) ggX6_read_X6_readLaw
theorem ggX6_read_X6_readWord : GoodIn wsX6_read wsX6_readWord := fun w h => ⟨List.mem_cons_of_mem _ (List.mem_append_right _ (List.mem_append_right _ (List.mem_append_right _ (List.mem_append_right _ (List.mem_append_right _ (List.mem_append_right _ (List.mem_append_right _ (List.mem_append_right _ (List.mem_append_right _ (List.mem_append_right _ (List.mem_append_left _ h))))))))))), good_of_word (gdX6_readWord w h)⟩
set_option maxRecDepth 20000 in
theorem gX6_read_X6_readWord : GoodIn wsX6_read (wsV RX6 39 RX6 yX6_readWord wsX6_readWord) := goodIn_app (a := bkV RX6 39 RX6 yX6_readWord) (fun w h => ⟨List.mem_cons_of_mem _ (List.mem_append_right _ (List.mem_append_right _ (List.mem_append_left _ h))), good_of_word (gd_bV _ _ _ _ w h)⟩) ggX6_read_X6_readWord
theorem ggX6_read_X6_here : GoodIn wsX6_read wsX6_here := fun w h => ⟨List.mem_cons_of_mem _ (List.mem_append_right _ (List.mem_append_right _ (List.mem_append_right _ (List.mem_append_right _ (List.mem_append_right _ (List.mem_append_right _ (List.mem_append_right _ (List.mem_append_right _ (List.mem_append_right _ (List.mem_append_right _ (List.mem_append_right _ (List.mem_append_left _ h)))))))))))), good_of_word (gdX6_here w h)⟩
set_option maxRecDepth 20000 in
theorem gX6_read_X6_here : GoodIn wsX6_read (wsV RX6 42 RX6 yX6_here wsX6_here) := goodIn_app (a := bkV RX6 42 RX6 yX6_here) (fun w h => ⟨List.mem_cons_of_mem _ (List.mem_append_right _ (List.mem_append_right _ (List.mem_append_right _ (List.mem_append_left _ h)))), good_of_word (gd_bV _ _ _ _ w h)⟩) ggX6_read_X6_here
theorem ggX6_read_X6_readGuard : GoodIn wsX6_read wsX6_readGuard := fun w h => ⟨List.mem_cons_of_mem _ (List.mem_append_right _ (List.mem_append_right _ (List.mem_append_right _ (List.mem_append_right _ (List.mem_append_right _ (List.mem_append_right _ (List.mem_append_right _ (List.mem_append_right _ (List.mem_append_right _ (List.mem_append_right _ (List.mem_append_right _ (List.mem_append_right _ (List.mem_append_left _ h))))))))))))), good_of_word (gdX6_readGuard w h)⟩
set_option maxRecDepth 20000 in
theorem gX6_read_X6_readGuard : GoodIn wsX6_read (wsV RX6 46 RX6 yX6_readGuard wsX6_readGuard) := goodIn_app (a := bkV RX6 46 RX6 yX6_readGuard) (fun w h => ⟨List.mem_cons_of_mem _ (List.mem_append_right _ (List.mem_append_right _ (List.mem_append_right _ (List.mem_append_right _ (List.mem_append_left _ h))))), good_of_word (gd_bV _ _ _ _ w h)⟩) ggX6_read_X6_readGuard
theorem ggX6_read_X4_begin : GoodIn wsX6_read wsX4_begin := fun w h => ⟨List.mem_cons_of_mem _ (List.mem_append_right _ (List.mem_append_right _ (List.mem_append_right _ (List.mem_append_right _ (List.mem_append_right _ (List.mem_append_right _ (List.mem_append_right _ (List.mem_append_right _ (List.mem_append_right _ (List.mem_append_right _ (List.mem_append_right _ (List.mem_append_right _ (List.mem_append_right _ (List.mem_append_left _ h)))))))))))))), good_of_word (gdX4_begin w h)⟩
set_option maxRecDepth 20000 in
theorem gX6_read_X4_begin : GoodIn wsX6_read (wsV RX6 53 RX4 yX4_begin wsX4_begin) := goodIn_app (a := bkV RX6 53 RX4 yX4_begin) (fun w h => ⟨List.mem_cons_of_mem _ (List.mem_append_right _ (List.mem_append_right _ (List.mem_append_right _ (List.mem_append_right _ (List.mem_append_right _ (List.mem_append_left _ h)))))), good_of_word (gd_bV _ _ _ _ w h)⟩) ggX6_read_X4_begin
def tb_X6_read_1 : List (Nat × Instr × Nat) := [(0, .aload_n 0, 1), (1, .iconst 0, 1), (2, .putfield 26, 3), (5, .aload_n 0, 1), (6, .getfield 18, 3), (9, .iconst 0, 1), (10, .putfield 29, 3), (13, .aload_n 0, 1), (14, .getfield 18, 3), (17, .iconst 0, 1), (18, .putfield 32, 3), (21, .aload_n 0, 1), (22, .invokevirtual 35, 3), (25, .ifCond .eq 10, 3), (28, .aload_n 0, 1), (29, .invokevirtual 39, 3), (32, .ifCond .ne 5, 3), (35, .iconst 0, 1), (36, .ireturn, 1), (37, .iconst 0, 1), (38, .istore_n 1, 1), (39, .iload_n 1, 1), (40, .bipush 6, 2), (42, .if_icmp .ge 27, 3), (45, .aload_n 0, 1), (46, .invokevirtual 42, 3), (49, .bipush 119, 2), (51, .if_icmp .ne 18, 3), (54, .aload_n 0, 1), (55, .invokevirtual 39, 3), (58, .ifCond .ne 5, 3), (61, .iconst 0, 1), (62, .ireturn, 1), (63, .iinc 1 1, 3), (66, .goto (-27), 3), (69, .aload_n 0, 1), (70, .invokevirtual 46, 3), (73, .ifCond .ne 5, 3), (76, .iconst 0, 1), (77, .ireturn, 1)]
set_option maxRecDepth 100000 in
theorem tk_X6_read_1 : (tb_X6_read_1.all fun q => decide (decode cX6_read q.1 = .ok q.2)) = true := by decide +kernel
theorem dX6_read_0 : decode cX6_read 0 = .ok (.aload_n 0, 1) := tb_d tk_X6_read_1 0 (0, .aload_n 0, 1) rfl
theorem dX6_read_1 : decode cX6_read 1 = .ok (.iconst 0, 1) := tb_d tk_X6_read_1 1 (1, .iconst 0, 1) rfl
theorem dX6_read_2 : decode cX6_read 2 = .ok (.putfield 26, 3) := tb_d tk_X6_read_1 2 (2, .putfield 26, 3) rfl
theorem dX6_read_5 : decode cX6_read 5 = .ok (.aload_n 0, 1) := tb_d tk_X6_read_1 3 (5, .aload_n 0, 1) rfl
theorem dX6_read_6 : decode cX6_read 6 = .ok (.getfield 18, 3) := tb_d tk_X6_read_1 4 (6, .getfield 18, 3) rfl
theorem dX6_read_9 : decode cX6_read 9 = .ok (.iconst 0, 1) := tb_d tk_X6_read_1 5 (9, .iconst 0, 1) rfl
theorem dX6_read_10 : decode cX6_read 10 = .ok (.putfield 29, 3) := tb_d tk_X6_read_1 6 (10, .putfield 29, 3) rfl
theorem dX6_read_13 : decode cX6_read 13 = .ok (.aload_n 0, 1) := tb_d tk_X6_read_1 7 (13, .aload_n 0, 1) rfl
theorem dX6_read_14 : decode cX6_read 14 = .ok (.getfield 18, 3) := tb_d tk_X6_read_1 8 (14, .getfield 18, 3) rfl
theorem dX6_read_17 : decode cX6_read 17 = .ok (.iconst 0, 1) := tb_d tk_X6_read_1 9 (17, .iconst 0, 1) rfl
theorem dX6_read_18 : decode cX6_read 18 = .ok (.putfield 32, 3) := tb_d tk_X6_read_1 10 (18, .putfield 32, 3) rfl
theorem dX6_read_21 : decode cX6_read 21 = .ok (.aload_n 0, 1) := tb_d tk_X6_read_1 11 (21, .aload_n 0, 1) rfl
theorem dX6_read_22 : decode cX6_read 22 = .ok (.invokevirtual 35, 3) := tb_d tk_X6_read_1 12 (22, .invokevirtual 35, 3) rfl
theorem dX6_read_25 : decode cX6_read 25 = .ok (.ifCond .eq 10, 3) := tb_d tk_X6_read_1 13 (25, .ifCond .eq 10, 3) rfl
theorem dX6_read_28 : decode cX6_read 28 = .ok (.aload_n 0, 1) := tb_d tk_X6_read_1 14 (28, .aload_n 0, 1) rfl
theorem dX6_read_29 : decode cX6_read 29 = .ok (.invokevirtual 39, 3) := tb_d tk_X6_read_1 15 (29, .invokevirtual 39, 3) rfl
theorem dX6_read_32 : decode cX6_read 32 = .ok (.ifCond .ne 5, 3) := tb_d tk_X6_read_1 16 (32, .ifCond .ne 5, 3) rfl
theorem dX6_read_35 : decode cX6_read 35 = .ok (.iconst 0, 1) := tb_d tk_X6_read_1 17 (35, .iconst 0, 1) rfl
theorem dX6_read_36 : decode cX6_read 36 = .ok (.ireturn, 1) := tb_d tk_X6_read_1 18 (36, .ireturn, 1) rfl
theorem dX6_read_37 : decode cX6_read 37 = .ok (.iconst 0, 1) := tb_d tk_X6_read_1 19 (37, .iconst 0, 1) rfl
theorem dX6_read_38 : decode cX6_read 38 = .ok (.istore_n 1, 1) := tb_d tk_X6_read_1 20 (38, .istore_n 1, 1) rfl
theorem dX6_read_39 : decode cX6_read 39 = .ok (.iload_n 1, 1) := tb_d tk_X6_read_1 21 (39, .iload_n 1, 1) rfl
theorem dX6_read_40 : decode cX6_read 40 = .ok (.bipush 6, 2) := tb_d tk_X6_read_1 22 (40, .bipush 6, 2) rfl
theorem dX6_read_42 : decode cX6_read 42 = .ok (.if_icmp .ge 27, 3) := tb_d tk_X6_read_1 23 (42, .if_icmp .ge 27, 3) rfl
theorem dX6_read_45 : decode cX6_read 45 = .ok (.aload_n 0, 1) := tb_d tk_X6_read_1 24 (45, .aload_n 0, 1) rfl
theorem dX6_read_46 : decode cX6_read 46 = .ok (.invokevirtual 42, 3) := tb_d tk_X6_read_1 25 (46, .invokevirtual 42, 3) rfl
theorem dX6_read_49 : decode cX6_read 49 = .ok (.bipush 119, 2) := tb_d tk_X6_read_1 26 (49, .bipush 119, 2) rfl
theorem dX6_read_51 : decode cX6_read 51 = .ok (.if_icmp .ne 18, 3) := tb_d tk_X6_read_1 27 (51, .if_icmp .ne 18, 3) rfl
theorem dX6_read_54 : decode cX6_read 54 = .ok (.aload_n 0, 1) := tb_d tk_X6_read_1 28 (54, .aload_n 0, 1) rfl
theorem dX6_read_55 : decode cX6_read 55 = .ok (.invokevirtual 39, 3) := tb_d tk_X6_read_1 29 (55, .invokevirtual 39, 3) rfl
theorem dX6_read_58 : decode cX6_read 58 = .ok (.ifCond .ne 5, 3) := tb_d tk_X6_read_1 30 (58, .ifCond .ne 5, 3) rfl
theorem dX6_read_61 : decode cX6_read 61 = .ok (.iconst 0, 1) := tb_d tk_X6_read_1 31 (61, .iconst 0, 1) rfl
theorem dX6_read_62 : decode cX6_read 62 = .ok (.ireturn, 1) := tb_d tk_X6_read_1 32 (62, .ireturn, 1) rfl
theorem dX6_read_63 : decode cX6_read 63 = .ok (.iinc 1 1, 3) := tb_d tk_X6_read_1 33 (63, .iinc 1 1, 3) rfl
theorem dX6_read_66 : decode cX6_read 66 = .ok (.goto (-27), 3) := tb_d tk_X6_read_1 34 (66, .goto (-27), 3) rfl
theorem dX6_read_69 : decode cX6_read 69 = .ok (.aload_n 0, 1) := tb_d tk_X6_read_1 35 (69, .aload_n 0, 1) rfl
theorem dX6_read_70 : decode cX6_read 70 = .ok (.invokevirtual 46, 3) := tb_d tk_X6_read_1 36 (70, .invokevirtual 46, 3) rfl
theorem dX6_read_73 : decode cX6_read 73 = .ok (.ifCond .ne 5, 3) := tb_d tk_X6_read_1 37 (73, .ifCond .ne 5, 3) rfl
theorem dX6_read_76 : decode cX6_read 76 = .ok (.iconst 0, 1) := tb_d tk_X6_read_1 38 (76, .iconst 0, 1) rfl
theorem dX6_read_77 : decode cX6_read 77 = .ok (.ireturn, 1) := tb_d tk_X6_read_1 39 (77, .ireturn, 1) rfl
def tb_X6_read_2 : List (Nat × Instr × Nat) := [(78, .iconst 0, 1), (79, .istore_n 1, 1), (80, .iload_n 1, 1), (81, .iconst 4, 1), (82, .if_icmp .ge 26, 3), (85, .aload_n 0, 1), (86, .invokevirtual 42, 3), (89, .iconst (-1), 1), (90, .if_icmp .eq 18, 3), (93, .aload_n 0, 1), (94, .invokevirtual 46, 3), (97, .ifCond .ne 5, 3), (100, .iconst 0, 1), (101, .ireturn, 1), (102, .iinc 1 1, 3), (105, .goto (-25), 3), (108, .aload_n 0, 1), (109, .getfield 18, 3), (112, .getfield 49, 3), (115, .aload_n 0, 1), (116, .getfield 18, 3), (119, .getfield 32, 3), (122, .invokevirtual 53, 3), (125, .iconst 1, 1), (126, .ireturn, 1)]
set_option maxRecDepth 100000 in
theorem tk_X6_read_2 : (tb_X6_read_2.all fun q => decide (decode cX6_read q.1 = .ok q.2)) = true := by decide +kernel
theorem dX6_read_78 : decode cX6_read 78 = .ok (.iconst 0, 1) := tb_d tk_X6_read_2 0 (78, .iconst 0, 1) rfl
theorem dX6_read_79 : decode cX6_read 79 = .ok (.istore_n 1, 1) := tb_d tk_X6_read_2 1 (79, .istore_n 1, 1) rfl
theorem dX6_read_80 : decode cX6_read 80 = .ok (.iload_n 1, 1) := tb_d tk_X6_read_2 2 (80, .iload_n 1, 1) rfl
theorem dX6_read_81 : decode cX6_read 81 = .ok (.iconst 4, 1) := tb_d tk_X6_read_2 3 (81, .iconst 4, 1) rfl
theorem dX6_read_82 : decode cX6_read 82 = .ok (.if_icmp .ge 26, 3) := tb_d tk_X6_read_2 4 (82, .if_icmp .ge 26, 3) rfl
theorem dX6_read_85 : decode cX6_read 85 = .ok (.aload_n 0, 1) := tb_d tk_X6_read_2 5 (85, .aload_n 0, 1) rfl
theorem dX6_read_86 : decode cX6_read 86 = .ok (.invokevirtual 42, 3) := tb_d tk_X6_read_2 6 (86, .invokevirtual 42, 3) rfl
theorem dX6_read_89 : decode cX6_read 89 = .ok (.iconst (-1), 1) := tb_d tk_X6_read_2 7 (89, .iconst (-1), 1) rfl
theorem dX6_read_90 : decode cX6_read 90 = .ok (.if_icmp .eq 18, 3) := tb_d tk_X6_read_2 8 (90, .if_icmp .eq 18, 3) rfl
theorem dX6_read_93 : decode cX6_read 93 = .ok (.aload_n 0, 1) := tb_d tk_X6_read_2 9 (93, .aload_n 0, 1) rfl
theorem dX6_read_94 : decode cX6_read 94 = .ok (.invokevirtual 46, 3) := tb_d tk_X6_read_2 10 (94, .invokevirtual 46, 3) rfl
theorem dX6_read_97 : decode cX6_read 97 = .ok (.ifCond .ne 5, 3) := tb_d tk_X6_read_2 11 (97, .ifCond .ne 5, 3) rfl
theorem dX6_read_100 : decode cX6_read 100 = .ok (.iconst 0, 1) := tb_d tk_X6_read_2 12 (100, .iconst 0, 1) rfl
theorem dX6_read_101 : decode cX6_read 101 = .ok (.ireturn, 1) := tb_d tk_X6_read_2 13 (101, .ireturn, 1) rfl
theorem dX6_read_102 : decode cX6_read 102 = .ok (.iinc 1 1, 3) := tb_d tk_X6_read_2 14 (102, .iinc 1 1, 3) rfl
theorem dX6_read_105 : decode cX6_read 105 = .ok (.goto (-25), 3) := tb_d tk_X6_read_2 15 (105, .goto (-25), 3) rfl
theorem dX6_read_108 : decode cX6_read 108 = .ok (.aload_n 0, 1) := tb_d tk_X6_read_2 16 (108, .aload_n 0, 1) rfl
theorem dX6_read_109 : decode cX6_read 109 = .ok (.getfield 18, 3) := tb_d tk_X6_read_2 17 (109, .getfield 18, 3) rfl
theorem dX6_read_112 : decode cX6_read 112 = .ok (.getfield 49, 3) := tb_d tk_X6_read_2 18 (112, .getfield 49, 3) rfl
theorem dX6_read_115 : decode cX6_read 115 = .ok (.aload_n 0, 1) := tb_d tk_X6_read_2 19 (115, .aload_n 0, 1) rfl
theorem dX6_read_116 : decode cX6_read 116 = .ok (.getfield 18, 3) := tb_d tk_X6_read_2 20 (116, .getfield 18, 3) rfl
theorem dX6_read_119 : decode cX6_read 119 = .ok (.getfield 32, 3) := tb_d tk_X6_read_2 21 (119, .getfield 32, 3) rfl
theorem dX6_read_122 : decode cX6_read 122 = .ok (.invokevirtual 53, 3) := tb_d tk_X6_read_2 22 (122, .invokevirtual 53, 3) rfl
theorem dX6_read_125 : decode cX6_read 125 = .ok (.iconst 1, 1) := tb_d tk_X6_read_2 23 (125, .iconst 1, 1) rfl
theorem dX6_read_126 : decode cX6_read 126 = .ok (.ireturn, 1) := tb_d tk_X6_read_2 24 (126, .ireturn, 1) rfl
theorem ggX6_readLaw_X6_readSign : GoodIn wsX6_readLaw wsX6_readSign := fun w h => ⟨List.mem_cons_of_mem _ (List.mem_append_right _ (List.mem_append_right _ (List.mem_append_right _ (List.mem_append_right _ (List.mem_append_right _ (List.mem_append_right _ (List.mem_append_left _ h))))))), good_of_word (gdX6_readSign w h)⟩
set_option maxRecDepth 20000 in
theorem gX6_readLaw_X6_readSign : GoodIn wsX6_readLaw (wsV RX6 59 RX6 yX6_readSign wsX6_readSign) := goodIn_app (a := bkV RX6 59 RX6 yX6_readSign) (fun w h => ⟨List.mem_cons_of_mem _ (List.mem_append_right _ (List.mem_append_left _ h)), good_of_word (gd_bV _ _ _ _ w h)⟩) ggX6_readLaw_X6_readSign
theorem ggX6_readLaw_X6_readNumber : GoodIn wsX6_readLaw wsX6_readNumber := fun w h => ⟨List.mem_cons_of_mem _ (List.mem_append_right _ (List.mem_append_right _ (List.mem_append_right _ (List.mem_append_right _ (List.mem_append_right _ (List.mem_append_right _ (List.mem_append_right _ (List.mem_append_left _ h)))))))), good_of_word (gdX6_readNumber w h)⟩
set_option maxRecDepth 20000 in
theorem gX6_readLaw_X6_readNumber : GoodIn wsX6_readLaw (wsV RX6 63 RX6 yX6_readNumber wsX6_readNumber) := goodIn_app (a := bkV RX6 63 RX6 yX6_readNumber) (fun w h => ⟨List.mem_cons_of_mem _ (List.mem_append_right _ (List.mem_append_right _ (List.mem_append_left _ h))), good_of_word (gd_bV _ _ _ _ w h)⟩) ggX6_readLaw_X6_readNumber
def tb_X6_readLaw_1 : List (Nat × Instr × Nat) := [(0, .aload_n 0, 1), (1, .bipush 113, 2), (3, .invokevirtual 59, 3), (6, .ifCond .eq 12, 3), (9, .aload_n 0, 1), (10, .bipush 9, 2), (12, .invokevirtual 63, 3), (15, .ifCond .ne 5, 3), (18, .iconst 0, 1), (19, .ireturn, 1), (20, .aload_n 0, 1), (21, .getfield 18, 3), (24, .getfield 49, 3), (27, .aload_n 0, 1), (28, .getfield 66, 3), (31, .putfield 69, 3), (34, .aload_n 0, 1), (35, .bipush 44, 2), (37, .invokevirtual 59, 3), (40, .ifCond .eq 12, 3), (43, .aload_n 0, 1), (44, .bipush 9, 2), (46, .invokevirtual 63, 3), (49, .ifCond .ne 5, 3), (52, .iconst 0, 1), (53, .ireturn, 1), (54, .aload_n 0, 1), (55, .getfield 18, 3), (58, .aload_n 0, 1), (59, .getfield 66, 3), (62, .putfield 72, 3), (65, .aload_n 0, 1), (66, .bipush 44, 2), (68, .invokevirtual 59, 3), (71, .ifCond .eq 12, 3), (74, .aload_n 0, 1), (75, .bipush 6, 2), (77, .invokevirtual 63, 3), (80, .ifCond .ne 5, 3), (83, .iconst 0, 1)]
set_option maxRecDepth 100000 in
theorem tk_X6_readLaw_1 : (tb_X6_readLaw_1.all fun q => decide (decode cX6_readLaw q.1 = .ok q.2)) = true := by decide +kernel
theorem dX6_readLaw_0 : decode cX6_readLaw 0 = .ok (.aload_n 0, 1) := tb_d tk_X6_readLaw_1 0 (0, .aload_n 0, 1) rfl
theorem dX6_readLaw_1 : decode cX6_readLaw 1 = .ok (.bipush 113, 2) := tb_d tk_X6_readLaw_1 1 (1, .bipush 113, 2) rfl
theorem dX6_readLaw_3 : decode cX6_readLaw 3 = .ok (.invokevirtual 59, 3) := tb_d tk_X6_readLaw_1 2 (3, .invokevirtual 59, 3) rfl
theorem dX6_readLaw_6 : decode cX6_readLaw 6 = .ok (.ifCond .eq 12, 3) := tb_d tk_X6_readLaw_1 3 (6, .ifCond .eq 12, 3) rfl
theorem dX6_readLaw_9 : decode cX6_readLaw 9 = .ok (.aload_n 0, 1) := tb_d tk_X6_readLaw_1 4 (9, .aload_n 0, 1) rfl
theorem dX6_readLaw_10 : decode cX6_readLaw 10 = .ok (.bipush 9, 2) := tb_d tk_X6_readLaw_1 5 (10, .bipush 9, 2) rfl
theorem dX6_readLaw_12 : decode cX6_readLaw 12 = .ok (.invokevirtual 63, 3) := tb_d tk_X6_readLaw_1 6 (12, .invokevirtual 63, 3) rfl
theorem dX6_readLaw_15 : decode cX6_readLaw 15 = .ok (.ifCond .ne 5, 3) := tb_d tk_X6_readLaw_1 7 (15, .ifCond .ne 5, 3) rfl
theorem dX6_readLaw_18 : decode cX6_readLaw 18 = .ok (.iconst 0, 1) := tb_d tk_X6_readLaw_1 8 (18, .iconst 0, 1) rfl
theorem dX6_readLaw_19 : decode cX6_readLaw 19 = .ok (.ireturn, 1) := tb_d tk_X6_readLaw_1 9 (19, .ireturn, 1) rfl
theorem dX6_readLaw_20 : decode cX6_readLaw 20 = .ok (.aload_n 0, 1) := tb_d tk_X6_readLaw_1 10 (20, .aload_n 0, 1) rfl
theorem dX6_readLaw_21 : decode cX6_readLaw 21 = .ok (.getfield 18, 3) := tb_d tk_X6_readLaw_1 11 (21, .getfield 18, 3) rfl
theorem dX6_readLaw_24 : decode cX6_readLaw 24 = .ok (.getfield 49, 3) := tb_d tk_X6_readLaw_1 12 (24, .getfield 49, 3) rfl
theorem dX6_readLaw_27 : decode cX6_readLaw 27 = .ok (.aload_n 0, 1) := tb_d tk_X6_readLaw_1 13 (27, .aload_n 0, 1) rfl
theorem dX6_readLaw_28 : decode cX6_readLaw 28 = .ok (.getfield 66, 3) := tb_d tk_X6_readLaw_1 14 (28, .getfield 66, 3) rfl
theorem dX6_readLaw_31 : decode cX6_readLaw 31 = .ok (.putfield 69, 3) := tb_d tk_X6_readLaw_1 15 (31, .putfield 69, 3) rfl
theorem dX6_readLaw_34 : decode cX6_readLaw 34 = .ok (.aload_n 0, 1) := tb_d tk_X6_readLaw_1 16 (34, .aload_n 0, 1) rfl
theorem dX6_readLaw_35 : decode cX6_readLaw 35 = .ok (.bipush 44, 2) := tb_d tk_X6_readLaw_1 17 (35, .bipush 44, 2) rfl
theorem dX6_readLaw_37 : decode cX6_readLaw 37 = .ok (.invokevirtual 59, 3) := tb_d tk_X6_readLaw_1 18 (37, .invokevirtual 59, 3) rfl
theorem dX6_readLaw_40 : decode cX6_readLaw 40 = .ok (.ifCond .eq 12, 3) := tb_d tk_X6_readLaw_1 19 (40, .ifCond .eq 12, 3) rfl
theorem dX6_readLaw_43 : decode cX6_readLaw 43 = .ok (.aload_n 0, 1) := tb_d tk_X6_readLaw_1 20 (43, .aload_n 0, 1) rfl
theorem dX6_readLaw_44 : decode cX6_readLaw 44 = .ok (.bipush 9, 2) := tb_d tk_X6_readLaw_1 21 (44, .bipush 9, 2) rfl
theorem dX6_readLaw_46 : decode cX6_readLaw 46 = .ok (.invokevirtual 63, 3) := tb_d tk_X6_readLaw_1 22 (46, .invokevirtual 63, 3) rfl
theorem dX6_readLaw_49 : decode cX6_readLaw 49 = .ok (.ifCond .ne 5, 3) := tb_d tk_X6_readLaw_1 23 (49, .ifCond .ne 5, 3) rfl
theorem dX6_readLaw_52 : decode cX6_readLaw 52 = .ok (.iconst 0, 1) := tb_d tk_X6_readLaw_1 24 (52, .iconst 0, 1) rfl
theorem dX6_readLaw_53 : decode cX6_readLaw 53 = .ok (.ireturn, 1) := tb_d tk_X6_readLaw_1 25 (53, .ireturn, 1) rfl
theorem dX6_readLaw_54 : decode cX6_readLaw 54 = .ok (.aload_n 0, 1) := tb_d tk_X6_readLaw_1 26 (54, .aload_n 0, 1) rfl
theorem dX6_readLaw_55 : decode cX6_readLaw 55 = .ok (.getfield 18, 3) := tb_d tk_X6_readLaw_1 27 (55, .getfield 18, 3) rfl
theorem dX6_readLaw_58 : decode cX6_readLaw 58 = .ok (.aload_n 0, 1) := tb_d tk_X6_readLaw_1 28 (58, .aload_n 0, 1) rfl
theorem dX6_readLaw_59 : decode cX6_readLaw 59 = .ok (.getfield 66, 3) := tb_d tk_X6_readLaw_1 29 (59, .getfield 66, 3) rfl
theorem dX6_readLaw_62 : decode cX6_readLaw 62 = .ok (.putfield 72, 3) := tb_d tk_X6_readLaw_1 30 (62, .putfield 72, 3) rfl
theorem dX6_readLaw_65 : decode cX6_readLaw 65 = .ok (.aload_n 0, 1) := tb_d tk_X6_readLaw_1 31 (65, .aload_n 0, 1) rfl
theorem dX6_readLaw_66 : decode cX6_readLaw 66 = .ok (.bipush 44, 2) := tb_d tk_X6_readLaw_1 32 (66, .bipush 44, 2) rfl
theorem dX6_readLaw_68 : decode cX6_readLaw 68 = .ok (.invokevirtual 59, 3) := tb_d tk_X6_readLaw_1 33 (68, .invokevirtual 59, 3) rfl
theorem dX6_readLaw_71 : decode cX6_readLaw 71 = .ok (.ifCond .eq 12, 3) := tb_d tk_X6_readLaw_1 34 (71, .ifCond .eq 12, 3) rfl
theorem dX6_readLaw_74 : decode cX6_readLaw 74 = .ok (.aload_n 0, 1) := tb_d tk_X6_readLaw_1 35 (74, .aload_n 0, 1) rfl
theorem dX6_readLaw_75 : decode cX6_readLaw 75 = .ok (.bipush 6, 2) := tb_d tk_X6_readLaw_1 36 (75, .bipush 6, 2) rfl
theorem dX6_readLaw_77 : decode cX6_readLaw 77 = .ok (.invokevirtual 63, 3) := tb_d tk_X6_readLaw_1 37 (77, .invokevirtual 63, 3) rfl
theorem dX6_readLaw_80 : decode cX6_readLaw 80 = .ok (.ifCond .ne 5, 3) := tb_d tk_X6_readLaw_1 38 (80, .ifCond .ne 5, 3) rfl
theorem dX6_readLaw_83 : decode cX6_readLaw 83 = .ok (.iconst 0, 1) := tb_d tk_X6_readLaw_1 39 (83, .iconst 0, 1) rfl
def tb_X6_readLaw_2 : List (Nat × Instr × Nat) := [(84, .ireturn, 1), (85, .aload_n 0, 1), (86, .getfield 18, 3), (89, .aload_n 0, 1), (90, .getfield 66, 3), (93, .putfield 75, 3), (96, .aload_n 0, 1), (97, .bipush 59, 2), (99, .invokevirtual 59, 3), (102, .ireturn, 1)]
set_option maxRecDepth 100000 in
theorem tk_X6_readLaw_2 : (tb_X6_readLaw_2.all fun q => decide (decode cX6_readLaw q.1 = .ok q.2)) = true := by decide +kernel
theorem dX6_readLaw_84 : decode cX6_readLaw 84 = .ok (.ireturn, 1) := tb_d tk_X6_readLaw_2 0 (84, .ireturn, 1) rfl
theorem dX6_readLaw_85 : decode cX6_readLaw 85 = .ok (.aload_n 0, 1) := tb_d tk_X6_readLaw_2 1 (85, .aload_n 0, 1) rfl
theorem dX6_readLaw_86 : decode cX6_readLaw 86 = .ok (.getfield 18, 3) := tb_d tk_X6_readLaw_2 2 (86, .getfield 18, 3) rfl
theorem dX6_readLaw_89 : decode cX6_readLaw 89 = .ok (.aload_n 0, 1) := tb_d tk_X6_readLaw_2 3 (89, .aload_n 0, 1) rfl
theorem dX6_readLaw_90 : decode cX6_readLaw 90 = .ok (.getfield 66, 3) := tb_d tk_X6_readLaw_2 4 (90, .getfield 66, 3) rfl
theorem dX6_readLaw_93 : decode cX6_readLaw 93 = .ok (.putfield 75, 3) := tb_d tk_X6_readLaw_2 5 (93, .putfield 75, 3) rfl
theorem dX6_readLaw_96 : decode cX6_readLaw 96 = .ok (.aload_n 0, 1) := tb_d tk_X6_readLaw_2 6 (96, .aload_n 0, 1) rfl
theorem dX6_readLaw_97 : decode cX6_readLaw 97 = .ok (.bipush 59, 2) := tb_d tk_X6_readLaw_2 7 (97, .bipush 59, 2) rfl
theorem dX6_readLaw_99 : decode cX6_readLaw 99 = .ok (.invokevirtual 59, 3) := tb_d tk_X6_readLaw_2 8 (99, .invokevirtual 59, 3) rfl
theorem dX6_readLaw_102 : decode cX6_readLaw 102 = .ok (.ireturn, 1) := tb_d tk_X6_readLaw_2 9 (102, .ireturn, 1) rfl
theorem ggX6_readWord_X6_here : GoodIn wsX6_readWord wsX6_here := fun w h => ⟨List.mem_cons_of_mem _ (List.mem_append_right _ (List.mem_append_right _ (List.mem_append_right _ (List.mem_append_right _ (List.mem_append_right _ (List.mem_append_right _ (List.mem_append_right _ (List.mem_append_left _ h)))))))), good_of_word (gdX6_here w h)⟩
set_option maxRecDepth 20000 in
theorem gX6_readWord_X6_here : GoodIn wsX6_readWord (wsV RX6 42 RX6 yX6_here wsX6_here) := goodIn_app (a := bkV RX6 42 RX6 yX6_here) (fun w h => ⟨List.mem_cons_of_mem _ (List.mem_append_right _ (List.mem_append_left _ h)), good_of_word (gd_bV _ _ _ _ w h)⟩) ggX6_readWord_X6_here
theorem ggX6_readWord_X6_faulty : GoodIn wsX6_readWord wsX6_faulty := fun w h => ⟨List.mem_cons_of_mem _ (List.mem_append_right _ (List.mem_append_right _ (List.mem_append_right _ (List.mem_append_right _ (List.mem_append_right _ (List.mem_append_right _ (List.mem_append_right _ (List.mem_append_right _ (List.mem_append_left _ h))))))))), good_of_word (gdX6_faulty w h)⟩
set_option maxRecDepth 20000 in
theorem gX6_readWord_X6_faulty : GoodIn wsX6_readWord (wsV RX6 78 RX6 yX6_faulty wsX6_faulty) := goodIn_app (a := bkV RX6 78 RX6 yX6_faulty) (fun w h => ⟨List.mem_cons_of_mem _ (List.mem_append_right _ (List.mem_append_right _ (List.mem_append_left _ h))), good_of_word (gd_bV _ _ _ _ w h)⟩) ggX6_readWord_X6_faulty
theorem ggX6_readWord_X6_readSign : GoodIn wsX6_readWord wsX6_readSign := fun w h => ⟨List.mem_cons_of_mem _ (List.mem_append_right _ (List.mem_append_right _ (List.mem_append_right _ (List.mem_append_right _ (List.mem_append_right _ (List.mem_append_right _ (List.mem_append_right _ (List.mem_append_right _ (List.mem_append_right _ (List.mem_append_left _ h)))))))))), good_of_word (gdX6_readSign w h)⟩
set_option maxRecDepth 20000 in
theorem gX6_readWord_X6_readSign : GoodIn wsX6_readWord (wsV RX6 59 RX6 yX6_readSign wsX6_readSign) := goodIn_app (a := bkV RX6 59 RX6 yX6_readSign) (fun w h => ⟨List.mem_cons_of_mem _ (List.mem_append_right _ (List.mem_append_right _ (List.mem_append_right _ (List.mem_append_left _ h)))), good_of_word (gd_bV _ _ _ _ w h)⟩) ggX6_readWord_X6_readSign
theorem ggX6_readWord_X6_wasTold : GoodIn wsX6_readWord wsX6_wasTold := fun w h => ⟨List.mem_cons_of_mem _ (List.mem_append_right _ (List.mem_append_right _ (List.mem_append_right _ (List.mem_append_right _ (List.mem_append_right _ (List.mem_append_right _ (List.mem_append_right _ (List.mem_append_right _ (List.mem_append_right _ (List.mem_append_right _ (List.mem_append_left _ h))))))))))), good_of_word (gdX6_wasTold w h)⟩
set_option maxRecDepth 20000 in
theorem gX6_readWord_X6_wasTold : GoodIn wsX6_readWord (wsV RX6 84 RX6 yX6_wasTold wsX6_wasTold) := goodIn_app (a := bkV RX6 84 RX6 yX6_wasTold) (fun w h => ⟨List.mem_cons_of_mem _ (List.mem_append_right _ (List.mem_append_right _ (List.mem_append_right _ (List.mem_append_right _ (List.mem_append_left _ h))))), good_of_word (gd_bV _ _ _ _ w h)⟩) ggX6_readWord_X6_wasTold
def tb_X6_readWord_1 : List (Nat × Instr × Nat) := [(0, .aload_n 0, 1), (1, .invokevirtual 42, 3), (4, .bipush 119, 2), (6, .if_icmp .ne 21, 3), (9, .aload_n 0, 1), (10, .getfield 18, 3), (13, .getfield 29, 3), (16, .bipush 6, 2), (18, .if_icmp .lt 9, 3), (21, .aload_n 0, 1), (22, .iconst 3, 1), (23, .invokevirtual 78, 3), (26, .ireturn, 1), (27, .aload_n 0, 1), (28, .bipush 119, 2), (30, .invokevirtual 59, 3), (33, .ifCond .ne 5, 3), (36, .iconst 0, 1), (37, .ireturn, 1), (38, .iconst 0, 1), (39, .istore_n 1, 1), (40, .iload_n 1, 1), (41, .iconst 3, 1), (42, .if_icmp .ge 88, 3), (45, .aload_n 0, 1), (46, .invokevirtual 42, 3), (49, .bipush 97, 2), (51, .isub, 1), (52, .istore_n 2, 1), (53, .iload_n 2, 1), (54, .ifCond .lt 9, 3), (57, .iload_n 2, 1), (58, .bipush 25, 2), (60, .if_icmp .le 9, 3), (63, .aload_n 0, 1), (64, .iconst 1, 1), (65, .invokevirtual 78, 3), (68, .ireturn, 1), (69, .aload_n 0, 1), (70, .getfield 18, 3)]
set_option maxRecDepth 100000 in
theorem tk_X6_readWord_1 : (tb_X6_readWord_1.all fun q => decide (decode cX6_readWord q.1 = .ok q.2)) = true := by decide +kernel
theorem dX6_readWord_0 : decode cX6_readWord 0 = .ok (.aload_n 0, 1) := tb_d tk_X6_readWord_1 0 (0, .aload_n 0, 1) rfl
theorem dX6_readWord_1 : decode cX6_readWord 1 = .ok (.invokevirtual 42, 3) := tb_d tk_X6_readWord_1 1 (1, .invokevirtual 42, 3) rfl
theorem dX6_readWord_4 : decode cX6_readWord 4 = .ok (.bipush 119, 2) := tb_d tk_X6_readWord_1 2 (4, .bipush 119, 2) rfl
theorem dX6_readWord_6 : decode cX6_readWord 6 = .ok (.if_icmp .ne 21, 3) := tb_d tk_X6_readWord_1 3 (6, .if_icmp .ne 21, 3) rfl
theorem dX6_readWord_9 : decode cX6_readWord 9 = .ok (.aload_n 0, 1) := tb_d tk_X6_readWord_1 4 (9, .aload_n 0, 1) rfl
theorem dX6_readWord_10 : decode cX6_readWord 10 = .ok (.getfield 18, 3) := tb_d tk_X6_readWord_1 5 (10, .getfield 18, 3) rfl
theorem dX6_readWord_13 : decode cX6_readWord 13 = .ok (.getfield 29, 3) := tb_d tk_X6_readWord_1 6 (13, .getfield 29, 3) rfl
theorem dX6_readWord_16 : decode cX6_readWord 16 = .ok (.bipush 6, 2) := tb_d tk_X6_readWord_1 7 (16, .bipush 6, 2) rfl
theorem dX6_readWord_18 : decode cX6_readWord 18 = .ok (.if_icmp .lt 9, 3) := tb_d tk_X6_readWord_1 8 (18, .if_icmp .lt 9, 3) rfl
theorem dX6_readWord_21 : decode cX6_readWord 21 = .ok (.aload_n 0, 1) := tb_d tk_X6_readWord_1 9 (21, .aload_n 0, 1) rfl
theorem dX6_readWord_22 : decode cX6_readWord 22 = .ok (.iconst 3, 1) := tb_d tk_X6_readWord_1 10 (22, .iconst 3, 1) rfl
theorem dX6_readWord_23 : decode cX6_readWord 23 = .ok (.invokevirtual 78, 3) := tb_d tk_X6_readWord_1 11 (23, .invokevirtual 78, 3) rfl
theorem dX6_readWord_26 : decode cX6_readWord 26 = .ok (.ireturn, 1) := tb_d tk_X6_readWord_1 12 (26, .ireturn, 1) rfl
theorem dX6_readWord_27 : decode cX6_readWord 27 = .ok (.aload_n 0, 1) := tb_d tk_X6_readWord_1 13 (27, .aload_n 0, 1) rfl
theorem dX6_readWord_28 : decode cX6_readWord 28 = .ok (.bipush 119, 2) := tb_d tk_X6_readWord_1 14 (28, .bipush 119, 2) rfl
theorem dX6_readWord_30 : decode cX6_readWord 30 = .ok (.invokevirtual 59, 3) := tb_d tk_X6_readWord_1 15 (30, .invokevirtual 59, 3) rfl
theorem dX6_readWord_33 : decode cX6_readWord 33 = .ok (.ifCond .ne 5, 3) := tb_d tk_X6_readWord_1 16 (33, .ifCond .ne 5, 3) rfl
theorem dX6_readWord_36 : decode cX6_readWord 36 = .ok (.iconst 0, 1) := tb_d tk_X6_readWord_1 17 (36, .iconst 0, 1) rfl
theorem dX6_readWord_37 : decode cX6_readWord 37 = .ok (.ireturn, 1) := tb_d tk_X6_readWord_1 18 (37, .ireturn, 1) rfl
theorem dX6_readWord_38 : decode cX6_readWord 38 = .ok (.iconst 0, 1) := tb_d tk_X6_readWord_1 19 (38, .iconst 0, 1) rfl
theorem dX6_readWord_39 : decode cX6_readWord 39 = .ok (.istore_n 1, 1) := tb_d tk_X6_readWord_1 20 (39, .istore_n 1, 1) rfl
theorem dX6_readWord_40 : decode cX6_readWord 40 = .ok (.iload_n 1, 1) := tb_d tk_X6_readWord_1 21 (40, .iload_n 1, 1) rfl
theorem dX6_readWord_41 : decode cX6_readWord 41 = .ok (.iconst 3, 1) := tb_d tk_X6_readWord_1 22 (41, .iconst 3, 1) rfl
theorem dX6_readWord_42 : decode cX6_readWord 42 = .ok (.if_icmp .ge 88, 3) := tb_d tk_X6_readWord_1 23 (42, .if_icmp .ge 88, 3) rfl
theorem dX6_readWord_45 : decode cX6_readWord 45 = .ok (.aload_n 0, 1) := tb_d tk_X6_readWord_1 24 (45, .aload_n 0, 1) rfl
theorem dX6_readWord_46 : decode cX6_readWord 46 = .ok (.invokevirtual 42, 3) := tb_d tk_X6_readWord_1 25 (46, .invokevirtual 42, 3) rfl
theorem dX6_readWord_49 : decode cX6_readWord 49 = .ok (.bipush 97, 2) := tb_d tk_X6_readWord_1 26 (49, .bipush 97, 2) rfl
theorem dX6_readWord_51 : decode cX6_readWord 51 = .ok (.isub, 1) := tb_d tk_X6_readWord_1 27 (51, .isub, 1) rfl
theorem dX6_readWord_52 : decode cX6_readWord 52 = .ok (.istore_n 2, 1) := tb_d tk_X6_readWord_1 28 (52, .istore_n 2, 1) rfl
theorem dX6_readWord_53 : decode cX6_readWord 53 = .ok (.iload_n 2, 1) := tb_d tk_X6_readWord_1 29 (53, .iload_n 2, 1) rfl
theorem dX6_readWord_54 : decode cX6_readWord 54 = .ok (.ifCond .lt 9, 3) := tb_d tk_X6_readWord_1 30 (54, .ifCond .lt 9, 3) rfl
theorem dX6_readWord_57 : decode cX6_readWord 57 = .ok (.iload_n 2, 1) := tb_d tk_X6_readWord_1 31 (57, .iload_n 2, 1) rfl
theorem dX6_readWord_58 : decode cX6_readWord 58 = .ok (.bipush 25, 2) := tb_d tk_X6_readWord_1 32 (58, .bipush 25, 2) rfl
theorem dX6_readWord_60 : decode cX6_readWord 60 = .ok (.if_icmp .le 9, 3) := tb_d tk_X6_readWord_1 33 (60, .if_icmp .le 9, 3) rfl
theorem dX6_readWord_63 : decode cX6_readWord 63 = .ok (.aload_n 0, 1) := tb_d tk_X6_readWord_1 34 (63, .aload_n 0, 1) rfl
theorem dX6_readWord_64 : decode cX6_readWord 64 = .ok (.iconst 1, 1) := tb_d tk_X6_readWord_1 35 (64, .iconst 1, 1) rfl
theorem dX6_readWord_65 : decode cX6_readWord 65 = .ok (.invokevirtual 78, 3) := tb_d tk_X6_readWord_1 36 (65, .invokevirtual 78, 3) rfl
theorem dX6_readWord_68 : decode cX6_readWord 68 = .ok (.ireturn, 1) := tb_d tk_X6_readWord_1 37 (68, .ireturn, 1) rfl
theorem dX6_readWord_69 : decode cX6_readWord 69 = .ok (.aload_n 0, 1) := tb_d tk_X6_readWord_1 38 (69, .aload_n 0, 1) rfl
theorem dX6_readWord_70 : decode cX6_readWord 70 = .ok (.getfield 18, 3) := tb_d tk_X6_readWord_1 39 (70, .getfield 18, 3) rfl
def tb_X6_readWord_2 : List (Nat × Instr × Nat) := [(73, .getfield 81, 3), (76, .aload_n 0, 1), (77, .getfield 18, 3), (80, .getfield 29, 3), (83, .iconst 3, 1), (84, .imul, 1), (85, .iload_n 1, 1), (86, .iadd, 1), (87, .iload_n 2, 1), (88, .iastore, 1), (89, .iload_n 1, 1), (90, .iconst 2, 1), (91, .if_icmp .ne 23, 3), (94, .aload_n 0, 1), (95, .aload_n 0, 1), (96, .getfield 18, 3), (99, .getfield 29, 3), (102, .invokevirtual 84, 3), (105, .ifCond .eq 9, 3), (108, .aload_n 0, 1), (109, .iconst 2, 1), (110, .invokevirtual 78, 3), (113, .ireturn, 1), (114, .aload_n 0, 1), (115, .dup, 1), (116, .getfield 26, 3), (119, .iconst 1, 1), (120, .iadd, 1), (121, .putfield 26, 3), (124, .iinc 1 1, 3), (127, .goto (-87), 3), (130, .aload_n 0, 1), (131, .getfield 18, 3), (134, .dup, 1), (135, .getfield 29, 3), (138, .iconst 1, 1), (139, .iadd, 1), (140, .putfield 29, 3), (143, .aload_n 0, 1), (144, .bipush 59, 2)]
set_option maxRecDepth 100000 in
theorem tk_X6_readWord_2 : (tb_X6_readWord_2.all fun q => decide (decode cX6_readWord q.1 = .ok q.2)) = true := by decide +kernel
theorem dX6_readWord_73 : decode cX6_readWord 73 = .ok (.getfield 81, 3) := tb_d tk_X6_readWord_2 0 (73, .getfield 81, 3) rfl
theorem dX6_readWord_76 : decode cX6_readWord 76 = .ok (.aload_n 0, 1) := tb_d tk_X6_readWord_2 1 (76, .aload_n 0, 1) rfl
theorem dX6_readWord_77 : decode cX6_readWord 77 = .ok (.getfield 18, 3) := tb_d tk_X6_readWord_2 2 (77, .getfield 18, 3) rfl
theorem dX6_readWord_80 : decode cX6_readWord 80 = .ok (.getfield 29, 3) := tb_d tk_X6_readWord_2 3 (80, .getfield 29, 3) rfl
theorem dX6_readWord_83 : decode cX6_readWord 83 = .ok (.iconst 3, 1) := tb_d tk_X6_readWord_2 4 (83, .iconst 3, 1) rfl
theorem dX6_readWord_84 : decode cX6_readWord 84 = .ok (.imul, 1) := tb_d tk_X6_readWord_2 5 (84, .imul, 1) rfl
theorem dX6_readWord_85 : decode cX6_readWord 85 = .ok (.iload_n 1, 1) := tb_d tk_X6_readWord_2 6 (85, .iload_n 1, 1) rfl
theorem dX6_readWord_86 : decode cX6_readWord 86 = .ok (.iadd, 1) := tb_d tk_X6_readWord_2 7 (86, .iadd, 1) rfl
theorem dX6_readWord_87 : decode cX6_readWord 87 = .ok (.iload_n 2, 1) := tb_d tk_X6_readWord_2 8 (87, .iload_n 2, 1) rfl
theorem dX6_readWord_88 : decode cX6_readWord 88 = .ok (.iastore, 1) := tb_d tk_X6_readWord_2 9 (88, .iastore, 1) rfl
theorem dX6_readWord_89 : decode cX6_readWord 89 = .ok (.iload_n 1, 1) := tb_d tk_X6_readWord_2 10 (89, .iload_n 1, 1) rfl
theorem dX6_readWord_90 : decode cX6_readWord 90 = .ok (.iconst 2, 1) := tb_d tk_X6_readWord_2 11 (90, .iconst 2, 1) rfl
theorem dX6_readWord_91 : decode cX6_readWord 91 = .ok (.if_icmp .ne 23, 3) := tb_d tk_X6_readWord_2 12 (91, .if_icmp .ne 23, 3) rfl
theorem dX6_readWord_94 : decode cX6_readWord 94 = .ok (.aload_n 0, 1) := tb_d tk_X6_readWord_2 13 (94, .aload_n 0, 1) rfl
theorem dX6_readWord_95 : decode cX6_readWord 95 = .ok (.aload_n 0, 1) := tb_d tk_X6_readWord_2 14 (95, .aload_n 0, 1) rfl
theorem dX6_readWord_96 : decode cX6_readWord 96 = .ok (.getfield 18, 3) := tb_d tk_X6_readWord_2 15 (96, .getfield 18, 3) rfl
theorem dX6_readWord_99 : decode cX6_readWord 99 = .ok (.getfield 29, 3) := tb_d tk_X6_readWord_2 16 (99, .getfield 29, 3) rfl
theorem dX6_readWord_102 : decode cX6_readWord 102 = .ok (.invokevirtual 84, 3) := tb_d tk_X6_readWord_2 17 (102, .invokevirtual 84, 3) rfl
theorem dX6_readWord_105 : decode cX6_readWord 105 = .ok (.ifCond .eq 9, 3) := tb_d tk_X6_readWord_2 18 (105, .ifCond .eq 9, 3) rfl
theorem dX6_readWord_108 : decode cX6_readWord 108 = .ok (.aload_n 0, 1) := tb_d tk_X6_readWord_2 19 (108, .aload_n 0, 1) rfl
theorem dX6_readWord_109 : decode cX6_readWord 109 = .ok (.iconst 2, 1) := tb_d tk_X6_readWord_2 20 (109, .iconst 2, 1) rfl
theorem dX6_readWord_110 : decode cX6_readWord 110 = .ok (.invokevirtual 78, 3) := tb_d tk_X6_readWord_2 21 (110, .invokevirtual 78, 3) rfl
theorem dX6_readWord_113 : decode cX6_readWord 113 = .ok (.ireturn, 1) := tb_d tk_X6_readWord_2 22 (113, .ireturn, 1) rfl
theorem dX6_readWord_114 : decode cX6_readWord 114 = .ok (.aload_n 0, 1) := tb_d tk_X6_readWord_2 23 (114, .aload_n 0, 1) rfl
theorem dX6_readWord_115 : decode cX6_readWord 115 = .ok (.dup, 1) := tb_d tk_X6_readWord_2 24 (115, .dup, 1) rfl
theorem dX6_readWord_116 : decode cX6_readWord 116 = .ok (.getfield 26, 3) := tb_d tk_X6_readWord_2 25 (116, .getfield 26, 3) rfl
theorem dX6_readWord_119 : decode cX6_readWord 119 = .ok (.iconst 1, 1) := tb_d tk_X6_readWord_2 26 (119, .iconst 1, 1) rfl
theorem dX6_readWord_120 : decode cX6_readWord 120 = .ok (.iadd, 1) := tb_d tk_X6_readWord_2 27 (120, .iadd, 1) rfl
theorem dX6_readWord_121 : decode cX6_readWord 121 = .ok (.putfield 26, 3) := tb_d tk_X6_readWord_2 28 (121, .putfield 26, 3) rfl
theorem dX6_readWord_124 : decode cX6_readWord 124 = .ok (.iinc 1 1, 3) := tb_d tk_X6_readWord_2 29 (124, .iinc 1 1, 3) rfl
theorem dX6_readWord_127 : decode cX6_readWord 127 = .ok (.goto (-87), 3) := tb_d tk_X6_readWord_2 30 (127, .goto (-87), 3) rfl
theorem dX6_readWord_130 : decode cX6_readWord 130 = .ok (.aload_n 0, 1) := tb_d tk_X6_readWord_2 31 (130, .aload_n 0, 1) rfl
theorem dX6_readWord_131 : decode cX6_readWord 131 = .ok (.getfield 18, 3) := tb_d tk_X6_readWord_2 32 (131, .getfield 18, 3) rfl
theorem dX6_readWord_134 : decode cX6_readWord 134 = .ok (.dup, 1) := tb_d tk_X6_readWord_2 33 (134, .dup, 1) rfl
theorem dX6_readWord_135 : decode cX6_readWord 135 = .ok (.getfield 29, 3) := tb_d tk_X6_readWord_2 34 (135, .getfield 29, 3) rfl
theorem dX6_readWord_138 : decode cX6_readWord 138 = .ok (.iconst 1, 1) := tb_d tk_X6_readWord_2 35 (138, .iconst 1, 1) rfl
theorem dX6_readWord_139 : decode cX6_readWord 139 = .ok (.iadd, 1) := tb_d tk_X6_readWord_2 36 (139, .iadd, 1) rfl
theorem dX6_readWord_140 : decode cX6_readWord 140 = .ok (.putfield 29, 3) := tb_d tk_X6_readWord_2 37 (140, .putfield 29, 3) rfl
theorem dX6_readWord_143 : decode cX6_readWord 143 = .ok (.aload_n 0, 1) := tb_d tk_X6_readWord_2 38 (143, .aload_n 0, 1) rfl
theorem dX6_readWord_144 : decode cX6_readWord 144 = .ok (.bipush 59, 2) := tb_d tk_X6_readWord_2 39 (144, .bipush 59, 2) rfl
def tb_X6_readWord_3 : List (Nat × Instr × Nat) := [(146, .invokevirtual 59, 3), (149, .ireturn, 1)]
set_option maxRecDepth 100000 in
theorem tk_X6_readWord_3 : (tb_X6_readWord_3.all fun q => decide (decode cX6_readWord q.1 = .ok q.2)) = true := by decide +kernel
theorem dX6_readWord_146 : decode cX6_readWord 146 = .ok (.invokevirtual 59, 3) := tb_d tk_X6_readWord_3 0 (146, .invokevirtual 59, 3) rfl
theorem dX6_readWord_149 : decode cX6_readWord 149 = .ok (.ireturn, 1) := tb_d tk_X6_readWord_3 1 (149, .ireturn, 1) rfl
theorem ggX6_wasTold_X2_distance : GoodIn wsX6_wasTold wsX2_distance := fun w h => ⟨List.mem_cons_of_mem _ (List.mem_append_right _ (List.mem_append_right _ (List.mem_append_right _ (List.mem_append_right _ (List.mem_append_left _ h))))), good_of_word (gdX2_distance w h)⟩
set_option maxRecDepth 20000 in
theorem gX6_wasTold_X2_distance : GoodIn wsX6_wasTold (wsV RX6 87 RX2 yX2_distance wsX2_distance) := goodIn_app (a := bkV RX6 87 RX2 yX2_distance) (fun w h => ⟨List.mem_cons_of_mem _ (List.mem_append_right _ (List.mem_append_left _ h)), good_of_word (gd_bV _ _ _ _ w h)⟩) ggX6_wasTold_X2_distance
def tb_X6_wasTold_1 : List (Nat × Instr × Nat) := [(0, .iconst 0, 1), (1, .istore_n 2, 1), (2, .iload_n 2, 1), (3, .iload_n 1, 1), (4, .if_icmp .ge 23, 3), (7, .aload_n 0, 1), (8, .getfield 18, 3), (11, .iload_n 1, 1), (12, .iload_n 2, 1), (13, .invokevirtual 87, 3), (16, .ifCond .ne 5, 3), (19, .iconst 1, 1), (20, .ireturn, 1), (21, .iinc 2 1, 3), (24, .goto (-22), 3), (27, .iconst 0, 1), (28, .ireturn, 1)]
set_option maxRecDepth 100000 in
theorem tk_X6_wasTold_1 : (tb_X6_wasTold_1.all fun q => decide (decode cX6_wasTold q.1 = .ok q.2)) = true := by decide +kernel
theorem dX6_wasTold_0 : decode cX6_wasTold 0 = .ok (.iconst 0, 1) := tb_d tk_X6_wasTold_1 0 (0, .iconst 0, 1) rfl
theorem dX6_wasTold_1 : decode cX6_wasTold 1 = .ok (.istore_n 2, 1) := tb_d tk_X6_wasTold_1 1 (1, .istore_n 2, 1) rfl
theorem dX6_wasTold_2 : decode cX6_wasTold 2 = .ok (.iload_n 2, 1) := tb_d tk_X6_wasTold_1 2 (2, .iload_n 2, 1) rfl
theorem dX6_wasTold_3 : decode cX6_wasTold 3 = .ok (.iload_n 1, 1) := tb_d tk_X6_wasTold_1 3 (3, .iload_n 1, 1) rfl
theorem dX6_wasTold_4 : decode cX6_wasTold 4 = .ok (.if_icmp .ge 23, 3) := tb_d tk_X6_wasTold_1 4 (4, .if_icmp .ge 23, 3) rfl
theorem dX6_wasTold_7 : decode cX6_wasTold 7 = .ok (.aload_n 0, 1) := tb_d tk_X6_wasTold_1 5 (7, .aload_n 0, 1) rfl
theorem dX6_wasTold_8 : decode cX6_wasTold 8 = .ok (.getfield 18, 3) := tb_d tk_X6_wasTold_1 6 (8, .getfield 18, 3) rfl
theorem dX6_wasTold_11 : decode cX6_wasTold 11 = .ok (.iload_n 1, 1) := tb_d tk_X6_wasTold_1 7 (11, .iload_n 1, 1) rfl
theorem dX6_wasTold_12 : decode cX6_wasTold 12 = .ok (.iload_n 2, 1) := tb_d tk_X6_wasTold_1 8 (12, .iload_n 2, 1) rfl
theorem dX6_wasTold_13 : decode cX6_wasTold 13 = .ok (.invokevirtual 87, 3) := tb_d tk_X6_wasTold_1 9 (13, .invokevirtual 87, 3) rfl
theorem dX6_wasTold_16 : decode cX6_wasTold 16 = .ok (.ifCond .ne 5, 3) := tb_d tk_X6_wasTold_1 10 (16, .ifCond .ne 5, 3) rfl
theorem dX6_wasTold_19 : decode cX6_wasTold 19 = .ok (.iconst 1, 1) := tb_d tk_X6_wasTold_1 11 (19, .iconst 1, 1) rfl
theorem dX6_wasTold_20 : decode cX6_wasTold 20 = .ok (.ireturn, 1) := tb_d tk_X6_wasTold_1 12 (20, .ireturn, 1) rfl
theorem dX6_wasTold_21 : decode cX6_wasTold 21 = .ok (.iinc 2 1, 3) := tb_d tk_X6_wasTold_1 13 (21, .iinc 2 1, 3) rfl
theorem dX6_wasTold_24 : decode cX6_wasTold 24 = .ok (.goto (-22), 3) := tb_d tk_X6_wasTold_1 14 (24, .goto (-22), 3) rfl
theorem dX6_wasTold_27 : decode cX6_wasTold 27 = .ok (.iconst 0, 1) := tb_d tk_X6_wasTold_1 15 (27, .iconst 0, 1) rfl
theorem dX6_wasTold_28 : decode cX6_wasTold 28 = .ok (.ireturn, 1) := tb_d tk_X6_wasTold_1 16 (28, .ireturn, 1) rfl
theorem ggX6_readGuard_X6_here : GoodIn wsX6_readGuard wsX6_here := fun w h => ⟨List.mem_cons_of_mem _ (List.mem_append_right _ (List.mem_append_right _ (List.mem_append_right _ (List.mem_append_right _ (List.mem_append_right _ (List.mem_append_right _ (List.mem_append_right _ (List.mem_append_right _ (List.mem_append_left _ h))))))))), good_of_word (gdX6_here w h)⟩
set_option maxRecDepth 20000 in
theorem gX6_readGuard_X6_here : GoodIn wsX6_readGuard (wsV RX6 42 RX6 yX6_here wsX6_here) := goodIn_app (a := bkV RX6 42 RX6 yX6_here) (fun w h => ⟨List.mem_cons_of_mem _ (List.mem_append_right _ (List.mem_append_left _ h)), good_of_word (gd_bV _ _ _ _ w h)⟩) ggX6_readGuard_X6_here
theorem ggX6_readGuard_X6_kindOf : GoodIn wsX6_readGuard wsX6_kindOf := fun w h => ⟨List.mem_cons_of_mem _ (List.mem_append_right _ (List.mem_append_right _ (List.mem_append_right _ (List.mem_append_right _ (List.mem_append_right _ (List.mem_append_right _ (List.mem_append_right _ (List.mem_append_right _ (List.mem_append_right _ (List.mem_append_left _ h)))))))))), good_of_word (gdX6_kindOf w h)⟩
set_option maxRecDepth 20000 in
theorem gX6_readGuard_X6_kindOf : GoodIn wsX6_readGuard (va_wsS RX6 91 yX6_kindOf wsX6_kindOf) := goodIn_app (a := bkS RX6 91 yX6_kindOf) (fun w h => ⟨List.mem_cons_of_mem _ (List.mem_append_right _ (List.mem_append_right _ (List.mem_append_left _ h))), good_of_word (gd_bS _ _ _ w h)⟩) ggX6_readGuard_X6_kindOf
theorem ggX6_readGuard_X6_faulty : GoodIn wsX6_readGuard wsX6_faulty := fun w h => ⟨List.mem_cons_of_mem _ (List.mem_append_right _ (List.mem_append_right _ (List.mem_append_right _ (List.mem_append_right _ (List.mem_append_right _ (List.mem_append_right _ (List.mem_append_right _ (List.mem_append_right _ (List.mem_append_right _ (List.mem_append_right _ (List.mem_append_left _ h))))))))))), good_of_word (gdX6_faulty w h)⟩
set_option maxRecDepth 20000 in
theorem gX6_readGuard_X6_faulty : GoodIn wsX6_readGuard (wsV RX6 78 RX6 yX6_faulty wsX6_faulty) := goodIn_app (a := bkV RX6 78 RX6 yX6_faulty) (fun w h => ⟨List.mem_cons_of_mem _ (List.mem_append_right _ (List.mem_append_right _ (List.mem_append_right _ (List.mem_append_left _ h)))), good_of_word (gd_bV _ _ _ _ w h)⟩) ggX6_readGuard_X6_faulty
theorem ggX6_readGuard_X6_readNumber : GoodIn wsX6_readGuard wsX6_readNumber := fun w h => ⟨List.mem_cons_of_mem _ (List.mem_append_right _ (List.mem_append_right _ (List.mem_append_right _ (List.mem_append_right _ (List.mem_append_right _ (List.mem_append_right _ (List.mem_append_right _ (List.mem_append_right _ (List.mem_append_right _ (List.mem_append_right _ (List.mem_append_right _ (List.mem_append_left _ h)))))))))))), good_of_word (gdX6_readNumber w h)⟩
set_option maxRecDepth 20000 in
theorem gX6_readGuard_X6_readNumber : GoodIn wsX6_readGuard (wsV RX6 63 RX6 yX6_readNumber wsX6_readNumber) := goodIn_app (a := bkV RX6 63 RX6 yX6_readNumber) (fun w h => ⟨List.mem_cons_of_mem _ (List.mem_append_right _ (List.mem_append_right _ (List.mem_append_right _ (List.mem_append_right _ (List.mem_append_left _ h))))), good_of_word (gd_bV _ _ _ _ w h)⟩) ggX6_readGuard_X6_readNumber
theorem ggX6_readGuard_X6_readSign : GoodIn wsX6_readGuard wsX6_readSign := fun w h => ⟨List.mem_cons_of_mem _ (List.mem_append_right _ (List.mem_append_right _ (List.mem_append_right _ (List.mem_append_right _ (List.mem_append_right _ (List.mem_append_right _ (List.mem_append_right _ (List.mem_append_right _ (List.mem_append_right _ (List.mem_append_right _ (List.mem_append_right _ (List.mem_append_right _ (List.mem_append_left _ h))))))))))))), good_of_word (gdX6_readSign w h)⟩
set_option maxRecDepth 20000 in
theorem gX6_readGuard_X6_readSign : GoodIn wsX6_readGuard (wsV RX6 59 RX6 yX6_readSign wsX6_readSign) := goodIn_app (a := bkV RX6 59 RX6 yX6_readSign) (fun w h => ⟨List.mem_cons_of_mem _ (List.mem_append_right _ (List.mem_append_right _ (List.mem_append_right _ (List.mem_append_right _ (List.mem_append_right _ (List.mem_append_left _ h)))))), good_of_word (gd_bV _ _ _ _ w h)⟩) ggX6_readGuard_X6_readSign
def tb_X6_readGuard_1 : List (Nat × Instr × Nat) := [(0, .aload_n 0, 1), (1, .invokevirtual 42, 3), (4, .invokestatic 91, 3), (7, .istore_n 1, 1), (8, .iload_n 1, 1), (9, .ldc 95, 2), (11, .if_icmp .ne 9, 3), (14, .aload_n 0, 1), (15, .iconst 1, 1), (16, .invokevirtual 78, 3), (19, .ireturn, 1), (20, .aload_n 0, 1), (21, .getfield 18, 3), (24, .getfield 32, 3), (27, .iconst 4, 1), (28, .if_icmp .lt 9, 3), (31, .aload_n 0, 1), (32, .iconst 3, 1), (33, .invokevirtual 78, 3), (36, .ireturn, 1), (37, .aload_n 0, 1), (38, .dup, 1), (39, .getfield 26, 3), (42, .iconst 1, 1), (43, .iadd, 1), (44, .putfield 26, 3), (47, .aload_n 0, 1), (48, .bipush 9, 2), (50, .invokevirtual 63, 3), (53, .ifCond .ne 5, 3), (56, .iconst 0, 1), (57, .ireturn, 1), (58, .aload_n 0, 1), (59, .getfield 18, 3), (62, .getfield 96, 3), (65, .aload_n 0, 1), (66, .getfield 18, 3), (69, .getfield 32, 3), (72, .iload_n 1, 1), (73, .iastore, 1)]
set_option maxRecDepth 100000 in
theorem tk_X6_readGuard_1 : (tb_X6_readGuard_1.all fun q => decide (decode cX6_readGuard q.1 = .ok q.2)) = true := by decide +kernel
theorem dX6_readGuard_0 : decode cX6_readGuard 0 = .ok (.aload_n 0, 1) := tb_d tk_X6_readGuard_1 0 (0, .aload_n 0, 1) rfl
theorem dX6_readGuard_1 : decode cX6_readGuard 1 = .ok (.invokevirtual 42, 3) := tb_d tk_X6_readGuard_1 1 (1, .invokevirtual 42, 3) rfl
theorem dX6_readGuard_4 : decode cX6_readGuard 4 = .ok (.invokestatic 91, 3) := tb_d tk_X6_readGuard_1 2 (4, .invokestatic 91, 3) rfl
theorem dX6_readGuard_7 : decode cX6_readGuard 7 = .ok (.istore_n 1, 1) := tb_d tk_X6_readGuard_1 3 (7, .istore_n 1, 1) rfl
theorem dX6_readGuard_8 : decode cX6_readGuard 8 = .ok (.iload_n 1, 1) := tb_d tk_X6_readGuard_1 4 (8, .iload_n 1, 1) rfl
theorem dX6_readGuard_9 : decode cX6_readGuard 9 = .ok (.ldc 95, 2) := tb_d tk_X6_readGuard_1 5 (9, .ldc 95, 2) rfl
theorem dX6_readGuard_11 : decode cX6_readGuard 11 = .ok (.if_icmp .ne 9, 3) := tb_d tk_X6_readGuard_1 6 (11, .if_icmp .ne 9, 3) rfl
theorem dX6_readGuard_14 : decode cX6_readGuard 14 = .ok (.aload_n 0, 1) := tb_d tk_X6_readGuard_1 7 (14, .aload_n 0, 1) rfl
theorem dX6_readGuard_15 : decode cX6_readGuard 15 = .ok (.iconst 1, 1) := tb_d tk_X6_readGuard_1 8 (15, .iconst 1, 1) rfl
theorem dX6_readGuard_16 : decode cX6_readGuard 16 = .ok (.invokevirtual 78, 3) := tb_d tk_X6_readGuard_1 9 (16, .invokevirtual 78, 3) rfl
theorem dX6_readGuard_19 : decode cX6_readGuard 19 = .ok (.ireturn, 1) := tb_d tk_X6_readGuard_1 10 (19, .ireturn, 1) rfl
theorem dX6_readGuard_20 : decode cX6_readGuard 20 = .ok (.aload_n 0, 1) := tb_d tk_X6_readGuard_1 11 (20, .aload_n 0, 1) rfl
theorem dX6_readGuard_21 : decode cX6_readGuard 21 = .ok (.getfield 18, 3) := tb_d tk_X6_readGuard_1 12 (21, .getfield 18, 3) rfl
theorem dX6_readGuard_24 : decode cX6_readGuard 24 = .ok (.getfield 32, 3) := tb_d tk_X6_readGuard_1 13 (24, .getfield 32, 3) rfl
theorem dX6_readGuard_27 : decode cX6_readGuard 27 = .ok (.iconst 4, 1) := tb_d tk_X6_readGuard_1 14 (27, .iconst 4, 1) rfl
theorem dX6_readGuard_28 : decode cX6_readGuard 28 = .ok (.if_icmp .lt 9, 3) := tb_d tk_X6_readGuard_1 15 (28, .if_icmp .lt 9, 3) rfl
theorem dX6_readGuard_31 : decode cX6_readGuard 31 = .ok (.aload_n 0, 1) := tb_d tk_X6_readGuard_1 16 (31, .aload_n 0, 1) rfl
theorem dX6_readGuard_32 : decode cX6_readGuard 32 = .ok (.iconst 3, 1) := tb_d tk_X6_readGuard_1 17 (32, .iconst 3, 1) rfl
theorem dX6_readGuard_33 : decode cX6_readGuard 33 = .ok (.invokevirtual 78, 3) := tb_d tk_X6_readGuard_1 18 (33, .invokevirtual 78, 3) rfl
theorem dX6_readGuard_36 : decode cX6_readGuard 36 = .ok (.ireturn, 1) := tb_d tk_X6_readGuard_1 19 (36, .ireturn, 1) rfl
theorem dX6_readGuard_37 : decode cX6_readGuard 37 = .ok (.aload_n 0, 1) := tb_d tk_X6_readGuard_1 20 (37, .aload_n 0, 1) rfl
theorem dX6_readGuard_38 : decode cX6_readGuard 38 = .ok (.dup, 1) := tb_d tk_X6_readGuard_1 21 (38, .dup, 1) rfl
theorem dX6_readGuard_39 : decode cX6_readGuard 39 = .ok (.getfield 26, 3) := tb_d tk_X6_readGuard_1 22 (39, .getfield 26, 3) rfl
theorem dX6_readGuard_42 : decode cX6_readGuard 42 = .ok (.iconst 1, 1) := tb_d tk_X6_readGuard_1 23 (42, .iconst 1, 1) rfl
theorem dX6_readGuard_43 : decode cX6_readGuard 43 = .ok (.iadd, 1) := tb_d tk_X6_readGuard_1 24 (43, .iadd, 1) rfl
theorem dX6_readGuard_44 : decode cX6_readGuard 44 = .ok (.putfield 26, 3) := tb_d tk_X6_readGuard_1 25 (44, .putfield 26, 3) rfl
theorem dX6_readGuard_47 : decode cX6_readGuard 47 = .ok (.aload_n 0, 1) := tb_d tk_X6_readGuard_1 26 (47, .aload_n 0, 1) rfl
theorem dX6_readGuard_48 : decode cX6_readGuard 48 = .ok (.bipush 9, 2) := tb_d tk_X6_readGuard_1 27 (48, .bipush 9, 2) rfl
theorem dX6_readGuard_50 : decode cX6_readGuard 50 = .ok (.invokevirtual 63, 3) := tb_d tk_X6_readGuard_1 28 (50, .invokevirtual 63, 3) rfl
theorem dX6_readGuard_53 : decode cX6_readGuard 53 = .ok (.ifCond .ne 5, 3) := tb_d tk_X6_readGuard_1 29 (53, .ifCond .ne 5, 3) rfl
theorem dX6_readGuard_56 : decode cX6_readGuard 56 = .ok (.iconst 0, 1) := tb_d tk_X6_readGuard_1 30 (56, .iconst 0, 1) rfl
theorem dX6_readGuard_57 : decode cX6_readGuard 57 = .ok (.ireturn, 1) := tb_d tk_X6_readGuard_1 31 (57, .ireturn, 1) rfl
theorem dX6_readGuard_58 : decode cX6_readGuard 58 = .ok (.aload_n 0, 1) := tb_d tk_X6_readGuard_1 32 (58, .aload_n 0, 1) rfl
theorem dX6_readGuard_59 : decode cX6_readGuard 59 = .ok (.getfield 18, 3) := tb_d tk_X6_readGuard_1 33 (59, .getfield 18, 3) rfl
theorem dX6_readGuard_62 : decode cX6_readGuard 62 = .ok (.getfield 96, 3) := tb_d tk_X6_readGuard_1 34 (62, .getfield 96, 3) rfl
theorem dX6_readGuard_65 : decode cX6_readGuard 65 = .ok (.aload_n 0, 1) := tb_d tk_X6_readGuard_1 35 (65, .aload_n 0, 1) rfl
theorem dX6_readGuard_66 : decode cX6_readGuard 66 = .ok (.getfield 18, 3) := tb_d tk_X6_readGuard_1 36 (66, .getfield 18, 3) rfl
theorem dX6_readGuard_69 : decode cX6_readGuard 69 = .ok (.getfield 32, 3) := tb_d tk_X6_readGuard_1 37 (69, .getfield 32, 3) rfl
theorem dX6_readGuard_72 : decode cX6_readGuard 72 = .ok (.iload_n 1, 1) := tb_d tk_X6_readGuard_1 38 (72, .iload_n 1, 1) rfl
theorem dX6_readGuard_73 : decode cX6_readGuard 73 = .ok (.iastore, 1) := tb_d tk_X6_readGuard_1 39 (73, .iastore, 1) rfl
def tb_X6_readGuard_2 : List (Nat × Instr × Nat) := [(74, .aload_n 0, 1), (75, .getfield 18, 3), (78, .getfield 99, 3), (81, .aload_n 0, 1), (82, .getfield 18, 3), (85, .getfield 32, 3), (88, .aload_n 0, 1), (89, .getfield 66, 3), (92, .iastore, 1), (93, .aload_n 0, 1), (94, .getfield 18, 3), (97, .dup, 1), (98, .getfield 32, 3), (101, .iconst 1, 1), (102, .iadd, 1), (103, .putfield 32, 3), (106, .aload_n 0, 1), (107, .bipush 59, 2), (109, .invokevirtual 59, 3), (112, .ireturn, 1)]
set_option maxRecDepth 100000 in
theorem tk_X6_readGuard_2 : (tb_X6_readGuard_2.all fun q => decide (decode cX6_readGuard q.1 = .ok q.2)) = true := by decide +kernel
theorem dX6_readGuard_74 : decode cX6_readGuard 74 = .ok (.aload_n 0, 1) := tb_d tk_X6_readGuard_2 0 (74, .aload_n 0, 1) rfl
theorem dX6_readGuard_75 : decode cX6_readGuard 75 = .ok (.getfield 18, 3) := tb_d tk_X6_readGuard_2 1 (75, .getfield 18, 3) rfl
theorem dX6_readGuard_78 : decode cX6_readGuard 78 = .ok (.getfield 99, 3) := tb_d tk_X6_readGuard_2 2 (78, .getfield 99, 3) rfl
theorem dX6_readGuard_81 : decode cX6_readGuard 81 = .ok (.aload_n 0, 1) := tb_d tk_X6_readGuard_2 3 (81, .aload_n 0, 1) rfl
theorem dX6_readGuard_82 : decode cX6_readGuard 82 = .ok (.getfield 18, 3) := tb_d tk_X6_readGuard_2 4 (82, .getfield 18, 3) rfl
theorem dX6_readGuard_85 : decode cX6_readGuard 85 = .ok (.getfield 32, 3) := tb_d tk_X6_readGuard_2 5 (85, .getfield 32, 3) rfl
theorem dX6_readGuard_88 : decode cX6_readGuard 88 = .ok (.aload_n 0, 1) := tb_d tk_X6_readGuard_2 6 (88, .aload_n 0, 1) rfl
theorem dX6_readGuard_89 : decode cX6_readGuard 89 = .ok (.getfield 66, 3) := tb_d tk_X6_readGuard_2 7 (89, .getfield 66, 3) rfl
theorem dX6_readGuard_92 : decode cX6_readGuard 92 = .ok (.iastore, 1) := tb_d tk_X6_readGuard_2 8 (92, .iastore, 1) rfl
theorem dX6_readGuard_93 : decode cX6_readGuard 93 = .ok (.aload_n 0, 1) := tb_d tk_X6_readGuard_2 9 (93, .aload_n 0, 1) rfl
theorem dX6_readGuard_94 : decode cX6_readGuard 94 = .ok (.getfield 18, 3) := tb_d tk_X6_readGuard_2 10 (94, .getfield 18, 3) rfl
theorem dX6_readGuard_97 : decode cX6_readGuard 97 = .ok (.dup, 1) := tb_d tk_X6_readGuard_2 11 (97, .dup, 1) rfl
theorem dX6_readGuard_98 : decode cX6_readGuard 98 = .ok (.getfield 32, 3) := tb_d tk_X6_readGuard_2 12 (98, .getfield 32, 3) rfl
theorem dX6_readGuard_101 : decode cX6_readGuard 101 = .ok (.iconst 1, 1) := tb_d tk_X6_readGuard_2 13 (101, .iconst 1, 1) rfl
theorem dX6_readGuard_102 : decode cX6_readGuard 102 = .ok (.iadd, 1) := tb_d tk_X6_readGuard_2 14 (102, .iadd, 1) rfl
theorem dX6_readGuard_103 : decode cX6_readGuard 103 = .ok (.putfield 32, 3) := tb_d tk_X6_readGuard_2 15 (103, .putfield 32, 3) rfl
theorem dX6_readGuard_106 : decode cX6_readGuard 106 = .ok (.aload_n 0, 1) := tb_d tk_X6_readGuard_2 16 (106, .aload_n 0, 1) rfl
theorem dX6_readGuard_107 : decode cX6_readGuard 107 = .ok (.bipush 59, 2) := tb_d tk_X6_readGuard_2 17 (107, .bipush 59, 2) rfl
theorem dX6_readGuard_109 : decode cX6_readGuard 109 = .ok (.invokevirtual 59, 3) := tb_d tk_X6_readGuard_2 18 (109, .invokevirtual 59, 3) rfl
theorem dX6_readGuard_112 : decode cX6_readGuard 112 = .ok (.ireturn, 1) := tb_d tk_X6_readGuard_2 19 (112, .ireturn, 1) rfl
def tb_X6_kindOf_1 : List (Nat × Instr × Nat) := [(0, .iload_n 0, 1), (1, .lookupswitch 61 #[(100, 57), (101, 55), (103, 59), (107, 51), (115, 53)], 51), (52, .iconst 1, 1), (53, .ireturn, 1), (54, .iconst 2, 1), (55, .ireturn, 1), (56, .iconst 3, 1), (57, .ireturn, 1), (58, .iconst 4, 1), (59, .ireturn, 1), (60, .iconst 5, 1), (61, .ireturn, 1), (62, .ldc 95, 2), (64, .ireturn, 1)]
set_option maxRecDepth 100000 in
theorem tk_X6_kindOf_1 : (tb_X6_kindOf_1.all fun q => decide (decode cX6_kindOf q.1 = .ok q.2)) = true := by decide +kernel
theorem dX6_kindOf_0 : decode cX6_kindOf 0 = .ok (.iload_n 0, 1) := tb_d tk_X6_kindOf_1 0 (0, .iload_n 0, 1) rfl
theorem dX6_kindOf_1 : decode cX6_kindOf 1 = .ok (.lookupswitch 61 #[(100, 57), (101, 55), (103, 59), (107, 51), (115, 53)], 51) := tb_d tk_X6_kindOf_1 1 (1, .lookupswitch 61 #[(100, 57), (101, 55), (103, 59), (107, 51), (115, 53)], 51) rfl
theorem dX6_kindOf_52 : decode cX6_kindOf 52 = .ok (.iconst 1, 1) := tb_d tk_X6_kindOf_1 2 (52, .iconst 1, 1) rfl
theorem dX6_kindOf_53 : decode cX6_kindOf 53 = .ok (.ireturn, 1) := tb_d tk_X6_kindOf_1 3 (53, .ireturn, 1) rfl
theorem dX6_kindOf_54 : decode cX6_kindOf 54 = .ok (.iconst 2, 1) := tb_d tk_X6_kindOf_1 4 (54, .iconst 2, 1) rfl
theorem dX6_kindOf_55 : decode cX6_kindOf 55 = .ok (.ireturn, 1) := tb_d tk_X6_kindOf_1 5 (55, .ireturn, 1) rfl
theorem dX6_kindOf_56 : decode cX6_kindOf 56 = .ok (.iconst 3, 1) := tb_d tk_X6_kindOf_1 6 (56, .iconst 3, 1) rfl
theorem dX6_kindOf_57 : decode cX6_kindOf 57 = .ok (.ireturn, 1) := tb_d tk_X6_kindOf_1 7 (57, .ireturn, 1) rfl
theorem dX6_kindOf_58 : decode cX6_kindOf 58 = .ok (.iconst 4, 1) := tb_d tk_X6_kindOf_1 8 (58, .iconst 4, 1) rfl
theorem dX6_kindOf_59 : decode cX6_kindOf 59 = .ok (.ireturn, 1) := tb_d tk_X6_kindOf_1 9 (59, .ireturn, 1) rfl
theorem dX6_kindOf_60 : decode cX6_kindOf 60 = .ok (.iconst 5, 1) := tb_d tk_X6_kindOf_1 10 (60, .iconst 5, 1) rfl
theorem dX6_kindOf_61 : decode cX6_kindOf 61 = .ok (.ireturn, 1) := tb_d tk_X6_kindOf_1 11 (61, .ireturn, 1) rfl
theorem dX6_kindOf_62 : decode cX6_kindOf 62 = .ok (.ldc 95, 2) := tb_d tk_X6_kindOf_1 12 (62, .ldc 95, 2) rfl
theorem dX6_kindOf_64 : decode cX6_kindOf 64 = .ok (.ireturn, 1) := tb_d tk_X6_kindOf_1 13 (64, .ireturn, 1) rfl
theorem ggX6_readSign_X6_here : GoodIn wsX6_readSign wsX6_here := fun w h => ⟨List.mem_cons_of_mem _ (List.mem_append_right _ (List.mem_append_right _ (List.mem_append_right _ (List.mem_append_right _ (List.mem_append_left _ h))))), good_of_word (gdX6_here w h)⟩
set_option maxRecDepth 20000 in
theorem gX6_readSign_X6_here : GoodIn wsX6_readSign (wsV RX6 42 RX6 yX6_here wsX6_here) := goodIn_app (a := bkV RX6 42 RX6 yX6_here) (fun w h => ⟨List.mem_cons_of_mem _ (List.mem_append_right _ (List.mem_append_left _ h)), good_of_word (gd_bV _ _ _ _ w h)⟩) ggX6_readSign_X6_here
theorem ggX6_readSign_X6_faulty : GoodIn wsX6_readSign wsX6_faulty := fun w h => ⟨List.mem_cons_of_mem _ (List.mem_append_right _ (List.mem_append_right _ (List.mem_append_right _ (List.mem_append_right _ (List.mem_append_right _ (List.mem_append_left _ h)))))), good_of_word (gdX6_faulty w h)⟩
set_option maxRecDepth 20000 in
theorem gX6_readSign_X6_faulty : GoodIn wsX6_readSign (wsV RX6 78 RX6 yX6_faulty wsX6_faulty) := goodIn_app (a := bkV RX6 78 RX6 yX6_faulty) (fun w h => ⟨List.mem_cons_of_mem _ (List.mem_append_right _ (List.mem_append_right _ (List.mem_append_left _ h))), good_of_word (gd_bV _ _ _ _ w h)⟩) ggX6_readSign_X6_faulty
def tb_X6_readSign_1 : List (Nat × Instr × Nat) := [(0, .aload_n 0, 1), (1, .invokevirtual 42, 3), (4, .iload_n 1, 1), (5, .if_icmp .eq 9, 3), (8, .aload_n 0, 1), (9, .iconst 1, 1), (10, .invokevirtual 78, 3), (13, .ireturn, 1), (14, .aload_n 0, 1), (15, .dup, 1), (16, .getfield 26, 3), (19, .iconst 1, 1), (20, .iadd, 1), (21, .putfield 26, 3), (24, .iconst 1, 1), (25, .ireturn, 1)]
set_option maxRecDepth 100000 in
theorem tk_X6_readSign_1 : (tb_X6_readSign_1.all fun q => decide (decode cX6_readSign q.1 = .ok q.2)) = true := by decide +kernel
theorem dX6_readSign_0 : decode cX6_readSign 0 = .ok (.aload_n 0, 1) := tb_d tk_X6_readSign_1 0 (0, .aload_n 0, 1) rfl
theorem dX6_readSign_1 : decode cX6_readSign 1 = .ok (.invokevirtual 42, 3) := tb_d tk_X6_readSign_1 1 (1, .invokevirtual 42, 3) rfl
theorem dX6_readSign_4 : decode cX6_readSign 4 = .ok (.iload_n 1, 1) := tb_d tk_X6_readSign_1 2 (4, .iload_n 1, 1) rfl
theorem dX6_readSign_5 : decode cX6_readSign 5 = .ok (.if_icmp .eq 9, 3) := tb_d tk_X6_readSign_1 3 (5, .if_icmp .eq 9, 3) rfl
theorem dX6_readSign_8 : decode cX6_readSign 8 = .ok (.aload_n 0, 1) := tb_d tk_X6_readSign_1 4 (8, .aload_n 0, 1) rfl
theorem dX6_readSign_9 : decode cX6_readSign 9 = .ok (.iconst 1, 1) := tb_d tk_X6_readSign_1 5 (9, .iconst 1, 1) rfl
theorem dX6_readSign_10 : decode cX6_readSign 10 = .ok (.invokevirtual 78, 3) := tb_d tk_X6_readSign_1 6 (10, .invokevirtual 78, 3) rfl
theorem dX6_readSign_13 : decode cX6_readSign 13 = .ok (.ireturn, 1) := tb_d tk_X6_readSign_1 7 (13, .ireturn, 1) rfl
theorem dX6_readSign_14 : decode cX6_readSign 14 = .ok (.aload_n 0, 1) := tb_d tk_X6_readSign_1 8 (14, .aload_n 0, 1) rfl
theorem dX6_readSign_15 : decode cX6_readSign 15 = .ok (.dup, 1) := tb_d tk_X6_readSign_1 9 (15, .dup, 1) rfl
theorem dX6_readSign_16 : decode cX6_readSign 16 = .ok (.getfield 26, 3) := tb_d tk_X6_readSign_1 10 (16, .getfield 26, 3) rfl
theorem dX6_readSign_19 : decode cX6_readSign 19 = .ok (.iconst 1, 1) := tb_d tk_X6_readSign_1 11 (19, .iconst 1, 1) rfl
theorem dX6_readSign_20 : decode cX6_readSign 20 = .ok (.iadd, 1) := tb_d tk_X6_readSign_1 12 (20, .iadd, 1) rfl
theorem dX6_readSign_21 : decode cX6_readSign 21 = .ok (.putfield 26, 3) := tb_d tk_X6_readSign_1 13 (21, .putfield 26, 3) rfl
theorem dX6_readSign_24 : decode cX6_readSign 24 = .ok (.iconst 1, 1) := tb_d tk_X6_readSign_1 14 (24, .iconst 1, 1) rfl
theorem dX6_readSign_25 : decode cX6_readSign 25 = .ok (.ireturn, 1) := tb_d tk_X6_readSign_1 15 (25, .ireturn, 1) rfl
theorem ggX6_readNumber_X6_isFigure : GoodIn wsX6_readNumber wsX6_isFigure := fun w h => ⟨List.mem_cons_of_mem _ (List.mem_append_right _ (List.mem_append_right _ (List.mem_append_right _ (List.mem_append_right _ (List.mem_append_left _ h))))), good_of_word (gdX6_isFigure w h)⟩
set_option maxRecDepth 20000 in
theorem gX6_readNumber_X6_isFigure : GoodIn wsX6_readNumber (va_wsS RX6 102 yX6_isFigure wsX6_isFigure) := goodIn_app (a := bkS RX6 102 yX6_isFigure) (fun w h => ⟨List.mem_cons_of_mem _ (List.mem_append_right _ (List.mem_append_left _ h)), good_of_word (gd_bS _ _ _ w h)⟩) ggX6_readNumber_X6_isFigure
theorem ggX6_readNumber_X6_faulty : GoodIn wsX6_readNumber wsX6_faulty := fun w h => ⟨List.mem_cons_of_mem _ (List.mem_append_right _ (List.mem_append_right _ (List.mem_append_right _ (List.mem_append_right _ (List.mem_append_right _ (List.mem_append_left _ h)))))), good_of_word (gdX6_faulty w h)⟩
set_option maxRecDepth 20000 in
theorem gX6_readNumber_X6_faulty : GoodIn wsX6_readNumber (wsV RX6 78 RX6 yX6_faulty wsX6_faulty) := goodIn_app (a := bkV RX6 78 RX6 yX6_faulty) (fun w h => ⟨List.mem_cons_of_mem _ (List.mem_append_right _ (List.mem_append_right _ (List.mem_append_left _ h))), good_of_word (gd_bV _ _ _ _ w h)⟩) ggX6_readNumber_X6_faulty
def tb_X6_readNumber_1 : List (Nat × Instr × Nat) := [(0, .iconst 0, 1), (1, .istore_n 2, 1), (2, .aload_n 0, 1), (3, .iconst 0, 1), (4, .putfield 66, 3), (7, .aload_n 0, 1), (8, .getfield 26, 3), (11, .istore_n 3, 1), (12, .iload_n 3, 1), (13, .aload_n 0, 1), (14, .getfield 22, 3), (17, .if_icmp .ge 50, 3), (20, .iload_n 2, 1), (21, .iconst 3, 1), (22, .if_icmp .ge 45, 3), (25, .aload_n 0, 1), (26, .getfield 9, 3), (29, .iload_n 3, 1), (30, .iaload, 1), (31, .invokestatic 102, 3), (34, .ifCond .eq 33, 3), (37, .aload_n 0, 1), (38, .aload_n 0, 1), (39, .getfield 66, 3), (42, .bipush 10, 2), (44, .imul, 1), (45, .aload_n 0, 1), (46, .getfield 9, 3), (49, .iload_n 3, 1), (50, .iaload, 1), (51, .iadd, 1), (52, .bipush 48, 2), (54, .isub, 1), (55, .putfield 66, 3), (58, .iinc 2 1, 3), (61, .iinc 3 1, 3), (64, .goto (-52), 3), (67, .iload_n 2, 1), (68, .ifCond .eq 8, 3), (71, .iload_n 2, 1)]
set_option maxRecDepth 100000 in
theorem tk_X6_readNumber_1 : (tb_X6_readNumber_1.all fun q => decide (decode cX6_readNumber q.1 = .ok q.2)) = true := by decide +kernel
theorem dX6_readNumber_0 : decode cX6_readNumber 0 = .ok (.iconst 0, 1) := tb_d tk_X6_readNumber_1 0 (0, .iconst 0, 1) rfl
theorem dX6_readNumber_1 : decode cX6_readNumber 1 = .ok (.istore_n 2, 1) := tb_d tk_X6_readNumber_1 1 (1, .istore_n 2, 1) rfl
theorem dX6_readNumber_2 : decode cX6_readNumber 2 = .ok (.aload_n 0, 1) := tb_d tk_X6_readNumber_1 2 (2, .aload_n 0, 1) rfl
theorem dX6_readNumber_3 : decode cX6_readNumber 3 = .ok (.iconst 0, 1) := tb_d tk_X6_readNumber_1 3 (3, .iconst 0, 1) rfl
theorem dX6_readNumber_4 : decode cX6_readNumber 4 = .ok (.putfield 66, 3) := tb_d tk_X6_readNumber_1 4 (4, .putfield 66, 3) rfl
theorem dX6_readNumber_7 : decode cX6_readNumber 7 = .ok (.aload_n 0, 1) := tb_d tk_X6_readNumber_1 5 (7, .aload_n 0, 1) rfl
theorem dX6_readNumber_8 : decode cX6_readNumber 8 = .ok (.getfield 26, 3) := tb_d tk_X6_readNumber_1 6 (8, .getfield 26, 3) rfl
theorem dX6_readNumber_11 : decode cX6_readNumber 11 = .ok (.istore_n 3, 1) := tb_d tk_X6_readNumber_1 7 (11, .istore_n 3, 1) rfl
theorem dX6_readNumber_12 : decode cX6_readNumber 12 = .ok (.iload_n 3, 1) := tb_d tk_X6_readNumber_1 8 (12, .iload_n 3, 1) rfl
theorem dX6_readNumber_13 : decode cX6_readNumber 13 = .ok (.aload_n 0, 1) := tb_d tk_X6_readNumber_1 9 (13, .aload_n 0, 1) rfl
theorem dX6_readNumber_14 : decode cX6_readNumber 14 = .ok (.getfield 22, 3) := tb_d tk_X6_readNumber_1 10 (14, .getfield 22, 3) rfl
theorem dX6_readNumber_17 : decode cX6_readNumber 17 = .ok (.if_icmp .ge 50, 3) := tb_d tk_X6_readNumber_1 11 (17, .if_icmp .ge 50, 3) rfl
theorem dX6_readNumber_20 : decode cX6_readNumber 20 = .ok (.iload_n 2, 1) := tb_d tk_X6_readNumber_1 12 (20, .iload_n 2, 1) rfl
theorem dX6_readNumber_21 : decode cX6_readNumber 21 = .ok (.iconst 3, 1) := tb_d tk_X6_readNumber_1 13 (21, .iconst 3, 1) rfl
theorem dX6_readNumber_22 : decode cX6_readNumber 22 = .ok (.if_icmp .ge 45, 3) := tb_d tk_X6_readNumber_1 14 (22, .if_icmp .ge 45, 3) rfl
theorem dX6_readNumber_25 : decode cX6_readNumber 25 = .ok (.aload_n 0, 1) := tb_d tk_X6_readNumber_1 15 (25, .aload_n 0, 1) rfl
theorem dX6_readNumber_26 : decode cX6_readNumber 26 = .ok (.getfield 9, 3) := tb_d tk_X6_readNumber_1 16 (26, .getfield 9, 3) rfl
theorem dX6_readNumber_29 : decode cX6_readNumber 29 = .ok (.iload_n 3, 1) := tb_d tk_X6_readNumber_1 17 (29, .iload_n 3, 1) rfl
theorem dX6_readNumber_30 : decode cX6_readNumber 30 = .ok (.iaload, 1) := tb_d tk_X6_readNumber_1 18 (30, .iaload, 1) rfl
theorem dX6_readNumber_31 : decode cX6_readNumber 31 = .ok (.invokestatic 102, 3) := tb_d tk_X6_readNumber_1 19 (31, .invokestatic 102, 3) rfl
theorem dX6_readNumber_34 : decode cX6_readNumber 34 = .ok (.ifCond .eq 33, 3) := tb_d tk_X6_readNumber_1 20 (34, .ifCond .eq 33, 3) rfl
theorem dX6_readNumber_37 : decode cX6_readNumber 37 = .ok (.aload_n 0, 1) := tb_d tk_X6_readNumber_1 21 (37, .aload_n 0, 1) rfl
theorem dX6_readNumber_38 : decode cX6_readNumber 38 = .ok (.aload_n 0, 1) := tb_d tk_X6_readNumber_1 22 (38, .aload_n 0, 1) rfl
theorem dX6_readNumber_39 : decode cX6_readNumber 39 = .ok (.getfield 66, 3) := tb_d tk_X6_readNumber_1 23 (39, .getfield 66, 3) rfl
theorem dX6_readNumber_42 : decode cX6_readNumber 42 = .ok (.bipush 10, 2) := tb_d tk_X6_readNumber_1 24 (42, .bipush 10, 2) rfl
theorem dX6_readNumber_44 : decode cX6_readNumber 44 = .ok (.imul, 1) := tb_d tk_X6_readNumber_1 25 (44, .imul, 1) rfl
theorem dX6_readNumber_45 : decode cX6_readNumber 45 = .ok (.aload_n 0, 1) := tb_d tk_X6_readNumber_1 26 (45, .aload_n 0, 1) rfl
theorem dX6_readNumber_46 : decode cX6_readNumber 46 = .ok (.getfield 9, 3) := tb_d tk_X6_readNumber_1 27 (46, .getfield 9, 3) rfl
theorem dX6_readNumber_49 : decode cX6_readNumber 49 = .ok (.iload_n 3, 1) := tb_d tk_X6_readNumber_1 28 (49, .iload_n 3, 1) rfl
theorem dX6_readNumber_50 : decode cX6_readNumber 50 = .ok (.iaload, 1) := tb_d tk_X6_readNumber_1 29 (50, .iaload, 1) rfl
theorem dX6_readNumber_51 : decode cX6_readNumber 51 = .ok (.iadd, 1) := tb_d tk_X6_readNumber_1 30 (51, .iadd, 1) rfl
theorem dX6_readNumber_52 : decode cX6_readNumber 52 = .ok (.bipush 48, 2) := tb_d tk_X6_readNumber_1 31 (52, .bipush 48, 2) rfl
theorem dX6_readNumber_54 : decode cX6_readNumber 54 = .ok (.isub, 1) := tb_d tk_X6_readNumber_1 32 (54, .isub, 1) rfl
theorem dX6_readNumber_55 : decode cX6_readNumber 55 = .ok (.putfield 66, 3) := tb_d tk_X6_readNumber_1 33 (55, .putfield 66, 3) rfl
theorem dX6_readNumber_58 : decode cX6_readNumber 58 = .ok (.iinc 2 1, 3) := tb_d tk_X6_readNumber_1 34 (58, .iinc 2 1, 3) rfl
theorem dX6_readNumber_61 : decode cX6_readNumber 61 = .ok (.iinc 3 1, 3) := tb_d tk_X6_readNumber_1 35 (61, .iinc 3 1, 3) rfl
theorem dX6_readNumber_64 : decode cX6_readNumber 64 = .ok (.goto (-52), 3) := tb_d tk_X6_readNumber_1 36 (64, .goto (-52), 3) rfl
theorem dX6_readNumber_67 : decode cX6_readNumber 67 = .ok (.iload_n 2, 1) := tb_d tk_X6_readNumber_1 37 (67, .iload_n 2, 1) rfl
theorem dX6_readNumber_68 : decode cX6_readNumber 68 = .ok (.ifCond .eq 8, 3) := tb_d tk_X6_readNumber_1 38 (68, .ifCond .eq 8, 3) rfl
theorem dX6_readNumber_71 : decode cX6_readNumber 71 = .ok (.iload_n 2, 1) := tb_d tk_X6_readNumber_1 39 (71, .iload_n 2, 1) rfl
def tb_X6_readNumber_2 : List (Nat × Instr × Nat) := [(72, .iconst 2, 1), (73, .if_icmp .le 9, 3), (76, .aload_n 0, 1), (77, .iconst 1, 1), (78, .invokevirtual 78, 3), (81, .ireturn, 1), (82, .aload_n 0, 1), (83, .getfield 66, 3), (86, .iload_n 1, 1), (87, .if_icmp .le 9, 3), (90, .aload_n 0, 1), (91, .iconst 2, 1), (92, .invokevirtual 78, 3), (95, .ireturn, 1), (96, .aload_n 0, 1), (97, .dup, 1), (98, .getfield 26, 3), (101, .iload_n 2, 1), (102, .iadd, 1), (103, .putfield 26, 3), (106, .iconst 1, 1), (107, .ireturn, 1)]
set_option maxRecDepth 100000 in
theorem tk_X6_readNumber_2 : (tb_X6_readNumber_2.all fun q => decide (decode cX6_readNumber q.1 = .ok q.2)) = true := by decide +kernel
theorem dX6_readNumber_72 : decode cX6_readNumber 72 = .ok (.iconst 2, 1) := tb_d tk_X6_readNumber_2 0 (72, .iconst 2, 1) rfl
theorem dX6_readNumber_73 : decode cX6_readNumber 73 = .ok (.if_icmp .le 9, 3) := tb_d tk_X6_readNumber_2 1 (73, .if_icmp .le 9, 3) rfl
theorem dX6_readNumber_76 : decode cX6_readNumber 76 = .ok (.aload_n 0, 1) := tb_d tk_X6_readNumber_2 2 (76, .aload_n 0, 1) rfl
theorem dX6_readNumber_77 : decode cX6_readNumber 77 = .ok (.iconst 1, 1) := tb_d tk_X6_readNumber_2 3 (77, .iconst 1, 1) rfl
theorem dX6_readNumber_78 : decode cX6_readNumber 78 = .ok (.invokevirtual 78, 3) := tb_d tk_X6_readNumber_2 4 (78, .invokevirtual 78, 3) rfl
theorem dX6_readNumber_81 : decode cX6_readNumber 81 = .ok (.ireturn, 1) := tb_d tk_X6_readNumber_2 5 (81, .ireturn, 1) rfl
theorem dX6_readNumber_82 : decode cX6_readNumber 82 = .ok (.aload_n 0, 1) := tb_d tk_X6_readNumber_2 6 (82, .aload_n 0, 1) rfl
theorem dX6_readNumber_83 : decode cX6_readNumber 83 = .ok (.getfield 66, 3) := tb_d tk_X6_readNumber_2 7 (83, .getfield 66, 3) rfl
theorem dX6_readNumber_86 : decode cX6_readNumber 86 = .ok (.iload_n 1, 1) := tb_d tk_X6_readNumber_2 8 (86, .iload_n 1, 1) rfl
theorem dX6_readNumber_87 : decode cX6_readNumber 87 = .ok (.if_icmp .le 9, 3) := tb_d tk_X6_readNumber_2 9 (87, .if_icmp .le 9, 3) rfl
theorem dX6_readNumber_90 : decode cX6_readNumber 90 = .ok (.aload_n 0, 1) := tb_d tk_X6_readNumber_2 10 (90, .aload_n 0, 1) rfl
theorem dX6_readNumber_91 : decode cX6_readNumber 91 = .ok (.iconst 2, 1) := tb_d tk_X6_readNumber_2 11 (91, .iconst 2, 1) rfl
theorem dX6_readNumber_92 : decode cX6_readNumber 92 = .ok (.invokevirtual 78, 3) := tb_d tk_X6_readNumber_2 12 (92, .invokevirtual 78, 3) rfl
theorem dX6_readNumber_95 : decode cX6_readNumber 95 = .ok (.ireturn, 1) := tb_d tk_X6_readNumber_2 13 (95, .ireturn, 1) rfl
theorem dX6_readNumber_96 : decode cX6_readNumber 96 = .ok (.aload_n 0, 1) := tb_d tk_X6_readNumber_2 14 (96, .aload_n 0, 1) rfl
theorem dX6_readNumber_97 : decode cX6_readNumber 97 = .ok (.dup, 1) := tb_d tk_X6_readNumber_2 15 (97, .dup, 1) rfl
theorem dX6_readNumber_98 : decode cX6_readNumber 98 = .ok (.getfield 26, 3) := tb_d tk_X6_readNumber_2 16 (98, .getfield 26, 3) rfl
theorem dX6_readNumber_101 : decode cX6_readNumber 101 = .ok (.iload_n 2, 1) := tb_d tk_X6_readNumber_2 17 (101, .iload_n 2, 1) rfl
theorem dX6_readNumber_102 : decode cX6_readNumber 102 = .ok (.iadd, 1) := tb_d tk_X6_readNumber_2 18 (102, .iadd, 1) rfl
theorem dX6_readNumber_103 : decode cX6_readNumber 103 = .ok (.putfield 26, 3) := tb_d tk_X6_readNumber_2 19 (103, .putfield 26, 3) rfl
theorem dX6_readNumber_106 : decode cX6_readNumber 106 = .ok (.iconst 1, 1) := tb_d tk_X6_readNumber_2 20 (106, .iconst 1, 1) rfl
theorem dX6_readNumber_107 : decode cX6_readNumber 107 = .ok (.ireturn, 1) := tb_d tk_X6_readNumber_2 21 (107, .ireturn, 1) rfl
def tb_X6_isFigure_1 : List (Nat × Instr × Nat) := [(0, .iload_n 0, 1), (1, .bipush 48, 2), (3, .if_icmp .lt 13, 3), (6, .iload_n 0, 1), (7, .bipush 57, 2), (9, .if_icmp .gt 7, 3), (12, .iconst 1, 1), (13, .goto 4, 3), (16, .iconst 0, 1), (17, .ireturn, 1)]
set_option maxRecDepth 100000 in
theorem tk_X6_isFigure_1 : (tb_X6_isFigure_1.all fun q => decide (decode cX6_isFigure q.1 = .ok q.2)) = true := by decide +kernel
theorem dX6_isFigure_0 : decode cX6_isFigure 0 = .ok (.iload_n 0, 1) := tb_d tk_X6_isFigure_1 0 (0, .iload_n 0, 1) rfl
theorem dX6_isFigure_1 : decode cX6_isFigure 1 = .ok (.bipush 48, 2) := tb_d tk_X6_isFigure_1 1 (1, .bipush 48, 2) rfl
theorem dX6_isFigure_3 : decode cX6_isFigure 3 = .ok (.if_icmp .lt 13, 3) := tb_d tk_X6_isFigure_1 2 (3, .if_icmp .lt 13, 3) rfl
theorem dX6_isFigure_6 : decode cX6_isFigure 6 = .ok (.iload_n 0, 1) := tb_d tk_X6_isFigure_1 3 (6, .iload_n 0, 1) rfl
theorem dX6_isFigure_7 : decode cX6_isFigure 7 = .ok (.bipush 57, 2) := tb_d tk_X6_isFigure_1 4 (7, .bipush 57, 2) rfl
theorem dX6_isFigure_9 : decode cX6_isFigure 9 = .ok (.if_icmp .gt 7, 3) := tb_d tk_X6_isFigure_1 5 (9, .if_icmp .gt 7, 3) rfl
theorem dX6_isFigure_12 : decode cX6_isFigure 12 = .ok (.iconst 1, 1) := tb_d tk_X6_isFigure_1 6 (12, .iconst 1, 1) rfl
theorem dX6_isFigure_13 : decode cX6_isFigure 13 = .ok (.goto 4, 3) := tb_d tk_X6_isFigure_1 7 (13, .goto 4, 3) rfl
theorem dX6_isFigure_16 : decode cX6_isFigure 16 = .ok (.iconst 0, 1) := tb_d tk_X6_isFigure_1 8 (16, .iconst 0, 1) rfl
theorem dX6_isFigure_17 : decode cX6_isFigure 17 = .ok (.ireturn, 1) := tb_d tk_X6_isFigure_1 9 (17, .ireturn, 1) rfl
def tb_X6_here_1 : List (Nat × Instr × Nat) := [(0, .aload_n 0, 1), (1, .getfield 26, 3), (4, .aload_n 0, 1), (5, .getfield 22, 3), (8, .if_icmp .ge 15, 3), (11, .aload_n 0, 1), (12, .getfield 9, 3), (15, .aload_n 0, 1), (16, .getfield 26, 3), (19, .iaload, 1), (20, .goto 4, 3), (23, .iconst (-1), 1), (24, .ireturn, 1)]
set_option maxRecDepth 100000 in
theorem tk_X6_here_1 : (tb_X6_here_1.all fun q => decide (decode cX6_here q.1 = .ok q.2)) = true := by decide +kernel
theorem dX6_here_0 : decode cX6_here 0 = .ok (.aload_n 0, 1) := tb_d tk_X6_here_1 0 (0, .aload_n 0, 1) rfl
theorem dX6_here_1 : decode cX6_here 1 = .ok (.getfield 26, 3) := tb_d tk_X6_here_1 1 (1, .getfield 26, 3) rfl
theorem dX6_here_4 : decode cX6_here 4 = .ok (.aload_n 0, 1) := tb_d tk_X6_here_1 2 (4, .aload_n 0, 1) rfl
theorem dX6_here_5 : decode cX6_here 5 = .ok (.getfield 22, 3) := tb_d tk_X6_here_1 3 (5, .getfield 22, 3) rfl
theorem dX6_here_8 : decode cX6_here 8 = .ok (.if_icmp .ge 15, 3) := tb_d tk_X6_here_1 4 (8, .if_icmp .ge 15, 3) rfl
theorem dX6_here_11 : decode cX6_here 11 = .ok (.aload_n 0, 1) := tb_d tk_X6_here_1 5 (11, .aload_n 0, 1) rfl
theorem dX6_here_12 : decode cX6_here 12 = .ok (.getfield 9, 3) := tb_d tk_X6_here_1 6 (12, .getfield 9, 3) rfl
theorem dX6_here_15 : decode cX6_here 15 = .ok (.aload_n 0, 1) := tb_d tk_X6_here_1 7 (15, .aload_n 0, 1) rfl
theorem dX6_here_16 : decode cX6_here 16 = .ok (.getfield 26, 3) := tb_d tk_X6_here_1 8 (16, .getfield 26, 3) rfl
theorem dX6_here_19 : decode cX6_here 19 = .ok (.iaload, 1) := tb_d tk_X6_here_1 9 (19, .iaload, 1) rfl
theorem dX6_here_20 : decode cX6_here 20 = .ok (.goto 4, 3) := tb_d tk_X6_here_1 10 (20, .goto 4, 3) rfl
theorem dX6_here_23 : decode cX6_here 23 = .ok (.iconst (-1), 1) := tb_d tk_X6_here_1 11 (23, .iconst (-1), 1) rfl
theorem dX6_here_24 : decode cX6_here 24 = .ok (.ireturn, 1) := tb_d tk_X6_here_1 12 (24, .ireturn, 1) rfl
def tb_X6_faulty_1 : List (Nat × Instr × Nat) := [(0, .aload_n 0, 1), (1, .iload_n 1, 1), (2, .putfield 105, 3), (5, .aload_n 0, 1), (6, .aload_n 0, 1), (7, .getfield 26, 3), (10, .putfield 108, 3), (13, .iconst 0, 1), (14, .ireturn, 1)]
set_option maxRecDepth 100000 in
theorem tk_X6_faulty_1 : (tb_X6_faulty_1.all fun q => decide (decode cX6_faulty q.1 = .ok q.2)) = true := by decide +kernel
theorem dX6_faulty_0 : decode cX6_faulty 0 = .ok (.aload_n 0, 1) := tb_d tk_X6_faulty_1 0 (0, .aload_n 0, 1) rfl
theorem dX6_faulty_1 : decode cX6_faulty 1 = .ok (.iload_n 1, 1) := tb_d tk_X6_faulty_1 1 (1, .iload_n 1, 1) rfl
theorem dX6_faulty_2 : decode cX6_faulty 2 = .ok (.putfield 105, 3) := tb_d tk_X6_faulty_1 2 (2, .putfield 105, 3) rfl
theorem dX6_faulty_5 : decode cX6_faulty 5 = .ok (.aload_n 0, 1) := tb_d tk_X6_faulty_1 3 (5, .aload_n 0, 1) rfl
theorem dX6_faulty_6 : decode cX6_faulty 6 = .ok (.aload_n 0, 1) := tb_d tk_X6_faulty_1 4 (6, .aload_n 0, 1) rfl
theorem dX6_faulty_7 : decode cX6_faulty 7 = .ok (.getfield 26, 3) := tb_d tk_X6_faulty_1 5 (7, .getfield 26, 3) rfl
theorem dX6_faulty_10 : decode cX6_faulty 10 = .ok (.putfield 108, 3) := tb_d tk_X6_faulty_1 6 (10, .putfield 108, 3) rfl
theorem dX6_faulty_13 : decode cX6_faulty 13 = .ok (.iconst 0, 1) := tb_d tk_X6_faulty_1 7 (13, .iconst 0, 1) rfl
theorem dX6_faulty_14 : decode cX6_faulty 14 = .ok (.ireturn, 1) := tb_d tk_X6_faulty_1 8 (14, .ireturn, 1) rfl
theorem ggX7_init_X6_init : GoodIn wsX7_init wsX6_init := fun w h => ⟨List.mem_cons_of_mem _ (List.mem_append_right _ (List.mem_append_right _ (List.mem_append_right _ (List.mem_append_right _ (List.mem_append_right _ (List.mem_append_right _ (List.mem_append_right _ (List.mem_append_right _ (List.mem_append_right _ (List.mem_append_left _ h)))))))))), good_of_word (gdX6_init w h)⟩
set_option maxRecDepth 20000 in
theorem gX7_init_X6_init_n17 : GoodIn wsX7_init (wsX6_init) := ggX7_init_X6_init
theorem ggX7_init_X2_init : GoodIn wsX7_init wsX2_init := fun w h => ⟨List.mem_cons_of_mem _ (List.mem_append_right _ (List.mem_append_right _ (List.mem_append_right _ (List.mem_append_right _ (List.mem_append_right _ (List.mem_append_right _ (List.mem_append_right _ (List.mem_append_right _ (List.mem_append_right _ (List.mem_append_right _ (List.mem_append_left _ h))))))))))), good_of_word (gdX2_init w h)⟩
set_option maxRecDepth 20000 in
theorem gX7_init_X2_init_n24 : GoodIn wsX7_init (wsX2_init) := ggX7_init_X2_init
theorem ggX7_init_X0_init : GoodIn wsX7_init wsX0_init := fun w h => ⟨List.mem_cons_of_mem _ (List.mem_append_right _ (List.mem_append_right _ (List.mem_append_right _ (List.mem_append_right _ (List.mem_append_right _ (List.mem_append_right _ (List.mem_append_right _ (List.mem_append_right _ (List.mem_append_right _ (List.mem_append_right _ (List.mem_append_right _ (List.mem_append_left _ h)))))))))))), good_of_word (gdX0_init w h)⟩
set_option maxRecDepth 20000 in
theorem gX7_init_X0_init : GoodIn wsX7_init (wsX0_init) := ggX7_init_X0_init
theorem ggX7_init_X3_init : GoodIn wsX7_init wsX3_init := fun w h => ⟨List.mem_cons_of_mem _ (List.mem_append_right _ (List.mem_append_right _ (List.mem_append_right _ (List.mem_append_right _ (List.mem_append_right _ (List.mem_append_right _ (List.mem_append_right _ (List.mem_append_right _ (List.mem_append_right _ (List.mem_append_right _ (List.mem_append_right _ (List.mem_append_right _ (List.mem_append_left _ h))))))))))))), good_of_word (gdX3_init w h)⟩
set_option maxRecDepth 20000 in
theorem gX7_init_X3_init_n42 : GoodIn wsX7_init (wsX3_init) := ggX7_init_X3_init
theorem ggX7_init_X1_init : GoodIn wsX7_init wsX1_init := fun w h => ⟨List.mem_cons_of_mem _ (List.mem_append_right _ (List.mem_append_right _ (List.mem_append_right _ (List.mem_append_right _ (List.mem_append_right _ (List.mem_append_right _ (List.mem_append_right _ (List.mem_append_right _ (List.mem_append_right _ (List.mem_append_right _ (List.mem_append_right _ (List.mem_append_right _ (List.mem_append_right _ (List.mem_append_left _ h)))))))))))))), good_of_word (gdX1_init w h)⟩
set_option maxRecDepth 20000 in
theorem gX7_init_X1_init_n49 : GoodIn wsX7_init (wsX1_init) := ggX7_init_X1_init
theorem ggX7_init_X5_init : GoodIn wsX7_init wsX5_init := fun w h => ⟨List.mem_cons_of_mem _ (List.mem_append_right _ (List.mem_append_right _ (List.mem_append_right _ (List.mem_append_right _ (List.mem_append_right _ (List.mem_append_right _ (List.mem_append_right _ (List.mem_append_right _ (List.mem_append_right _ (List.mem_append_right _ (List.mem_append_right _ (List.mem_append_right _ (List.mem_append_right _ (List.mem_append_right _ (List.mem_append_left _ h))))))))))))))), good_of_word (gdX5_init w h)⟩
set_option maxRecDepth 20000 in
theorem gX7_init_X5_init_n54 : GoodIn wsX7_init (wsX5_init) := ggX7_init_X5_init
def tb_X7_init_1 : List (Nat × Instr × Nat) := [(0, .aload_n 0, 1), (1, .invokespecial 1, 3), (4, .aload_n 0, 1), (5, .bipush 8, 2), (7, .anewarray 9, 3), (10, .putfield 11, 3), (13, .aload_n 0, 1), (14, .new 15, 3), (17, .dup, 1), (18, .invokespecial 17, 3), (21, .putfield 18, 3), (24, .aload_n 0, 1), (25, .new 22, 3), (28, .dup, 1), (29, .invokespecial 24, 3), (32, .putfield 25, 3), (35, .aload_n 0, 1), (36, .new 29, 3), (39, .dup, 1), (40, .invokespecial 31, 3), (43, .putfield 32, 3), (46, .aload_n 0, 1), (47, .iconst 2, 1), (48, .anewarray 22, 3), (51, .putfield 36, 3), (54, .aload_n 0, 1), (55, .new 40, 3), (58, .dup, 1), (59, .invokespecial 42, 3), (62, .putfield 43, 3), (65, .aload_n 0, 1), (66, .new 47, 3), (69, .dup, 1), (70, .invokespecial 49, 3), (73, .putfield 50, 3), (76, .iconst 0, 1), (77, .istore_n 1, 1), (78, .iload_n 1, 1), (79, .bipush 8, 2), (81, .if_icmp .ge 22, 3)]
set_option maxRecDepth 100000 in
theorem tk_X7_init_1 : (tb_X7_init_1.all fun q => decide (decode cX7_init q.1 = .ok q.2)) = true := by decide +kernel
theorem dX7_init_0 : decode cX7_init 0 = .ok (.aload_n 0, 1) := tb_d tk_X7_init_1 0 (0, .aload_n 0, 1) rfl
theorem dX7_init_1 : decode cX7_init 1 = .ok (.invokespecial 1, 3) := tb_d tk_X7_init_1 1 (1, .invokespecial 1, 3) rfl
theorem dX7_init_4 : decode cX7_init 4 = .ok (.aload_n 0, 1) := tb_d tk_X7_init_1 2 (4, .aload_n 0, 1) rfl
theorem dX7_init_5 : decode cX7_init 5 = .ok (.bipush 8, 2) := tb_d tk_X7_init_1 3 (5, .bipush 8, 2) rfl
theorem dX7_init_7 : decode cX7_init 7 = .ok (.anewarray 9, 3) := tb_d tk_X7_init_1 4 (7, .anewarray 9, 3) rfl
theorem dX7_init_10 : decode cX7_init 10 = .ok (.putfield 11, 3) := tb_d tk_X7_init_1 5 (10, .putfield 11, 3) rfl
theorem dX7_init_13 : decode cX7_init 13 = .ok (.aload_n 0, 1) := tb_d tk_X7_init_1 6 (13, .aload_n 0, 1) rfl
theorem dX7_init_14 : decode cX7_init 14 = .ok (.new 15, 3) := tb_d tk_X7_init_1 7 (14, .new 15, 3) rfl
theorem dX7_init_17 : decode cX7_init 17 = .ok (.dup, 1) := tb_d tk_X7_init_1 8 (17, .dup, 1) rfl
theorem dX7_init_18 : decode cX7_init 18 = .ok (.invokespecial 17, 3) := tb_d tk_X7_init_1 9 (18, .invokespecial 17, 3) rfl
theorem dX7_init_21 : decode cX7_init 21 = .ok (.putfield 18, 3) := tb_d tk_X7_init_1 10 (21, .putfield 18, 3) rfl
theorem dX7_init_24 : decode cX7_init 24 = .ok (.aload_n 0, 1) := tb_d tk_X7_init_1 11 (24, .aload_n 0, 1) rfl
theorem dX7_init_25 : decode cX7_init 25 = .ok (.new 22, 3) := tb_d tk_X7_init_1 12 (25, .new 22, 3) rfl
theorem dX7_init_28 : decode cX7_init 28 = .ok (.dup, 1) := tb_d tk_X7_init_1 13 (28, .dup, 1) rfl
theorem dX7_init_29 : decode cX7_init 29 = .ok (.invokespecial 24, 3) := tb_d tk_X7_init_1 14 (29, .invokespecial 24, 3) rfl
theorem dX7_init_32 : decode cX7_init 32 = .ok (.putfield 25, 3) := tb_d tk_X7_init_1 15 (32, .putfield 25, 3) rfl
theorem dX7_init_35 : decode cX7_init 35 = .ok (.aload_n 0, 1) := tb_d tk_X7_init_1 16 (35, .aload_n 0, 1) rfl
theorem dX7_init_36 : decode cX7_init 36 = .ok (.new 29, 3) := tb_d tk_X7_init_1 17 (36, .new 29, 3) rfl
theorem dX7_init_39 : decode cX7_init 39 = .ok (.dup, 1) := tb_d tk_X7_init_1 18 (39, .dup, 1) rfl
theorem dX7_init_40 : decode cX7_init 40 = .ok (.invokespecial 31, 3) := tb_d tk_X7_init_1 19 (40, .invokespecial 31, 3) rfl
theorem dX7_init_43 : decode cX7_init 43 = .ok (.putfield 32, 3) := tb_d tk_X7_init_1 20 (43, .putfield 32, 3) rfl
theorem dX7_init_46 : decode cX7_init 46 = .ok (.aload_n 0, 1) := tb_d tk_X7_init_1 21 (46, .aload_n 0, 1) rfl
theorem dX7_init_47 : decode cX7_init 47 = .ok (.iconst 2, 1) := tb_d tk_X7_init_1 22 (47, .iconst 2, 1) rfl
theorem dX7_init_48 : decode cX7_init 48 = .ok (.anewarray 22, 3) := tb_d tk_X7_init_1 23 (48, .anewarray 22, 3) rfl
theorem dX7_init_51 : decode cX7_init 51 = .ok (.putfield 36, 3) := tb_d tk_X7_init_1 24 (51, .putfield 36, 3) rfl
theorem dX7_init_54 : decode cX7_init 54 = .ok (.aload_n 0, 1) := tb_d tk_X7_init_1 25 (54, .aload_n 0, 1) rfl
theorem dX7_init_55 : decode cX7_init 55 = .ok (.new 40, 3) := tb_d tk_X7_init_1 26 (55, .new 40, 3) rfl
theorem dX7_init_58 : decode cX7_init 58 = .ok (.dup, 1) := tb_d tk_X7_init_1 27 (58, .dup, 1) rfl
theorem dX7_init_59 : decode cX7_init 59 = .ok (.invokespecial 42, 3) := tb_d tk_X7_init_1 28 (59, .invokespecial 42, 3) rfl
theorem dX7_init_62 : decode cX7_init 62 = .ok (.putfield 43, 3) := tb_d tk_X7_init_1 29 (62, .putfield 43, 3) rfl
theorem dX7_init_65 : decode cX7_init 65 = .ok (.aload_n 0, 1) := tb_d tk_X7_init_1 30 (65, .aload_n 0, 1) rfl
theorem dX7_init_66 : decode cX7_init 66 = .ok (.new 47, 3) := tb_d tk_X7_init_1 31 (66, .new 47, 3) rfl
theorem dX7_init_69 : decode cX7_init 69 = .ok (.dup, 1) := tb_d tk_X7_init_1 32 (69, .dup, 1) rfl
theorem dX7_init_70 : decode cX7_init 70 = .ok (.invokespecial 49, 3) := tb_d tk_X7_init_1 33 (70, .invokespecial 49, 3) rfl
theorem dX7_init_73 : decode cX7_init 73 = .ok (.putfield 50, 3) := tb_d tk_X7_init_1 34 (73, .putfield 50, 3) rfl
theorem dX7_init_76 : decode cX7_init 76 = .ok (.iconst 0, 1) := tb_d tk_X7_init_1 35 (76, .iconst 0, 1) rfl
theorem dX7_init_77 : decode cX7_init 77 = .ok (.istore_n 1, 1) := tb_d tk_X7_init_1 36 (77, .istore_n 1, 1) rfl
theorem dX7_init_78 : decode cX7_init 78 = .ok (.iload_n 1, 1) := tb_d tk_X7_init_1 37 (78, .iload_n 1, 1) rfl
theorem dX7_init_79 : decode cX7_init 79 = .ok (.bipush 8, 2) := tb_d tk_X7_init_1 38 (79, .bipush 8, 2) rfl
theorem dX7_init_81 : decode cX7_init 81 = .ok (.if_icmp .ge 22, 3) := tb_d tk_X7_init_1 39 (81, .if_icmp .ge 22, 3) rfl
def tb_X7_init_2 : List (Nat × Instr × Nat) := [(84, .aload_n 0, 1), (85, .getfield 11, 3), (88, .iload_n 1, 1), (89, .new 9, 3), (92, .dup, 1), (93, .invokespecial 54, 3), (96, .aastore, 1), (97, .iinc 1 1, 3), (100, .goto (-22), 3), (103, .iconst 0, 1), (104, .istore_n 1, 1), (105, .iload_n 1, 1), (106, .iconst 2, 1), (107, .if_icmp .ge 22, 3), (110, .aload_n 0, 1), (111, .getfield 36, 3), (114, .iload_n 1, 1), (115, .new 22, 3), (118, .dup, 1), (119, .invokespecial 24, 3), (122, .aastore, 1), (123, .iinc 1 1, 3), (126, .goto (-21), 3), (129, .return_, 1)]
set_option maxRecDepth 100000 in
theorem tk_X7_init_2 : (tb_X7_init_2.all fun q => decide (decode cX7_init q.1 = .ok q.2)) = true := by decide +kernel
theorem dX7_init_84 : decode cX7_init 84 = .ok (.aload_n 0, 1) := tb_d tk_X7_init_2 0 (84, .aload_n 0, 1) rfl
theorem dX7_init_85 : decode cX7_init 85 = .ok (.getfield 11, 3) := tb_d tk_X7_init_2 1 (85, .getfield 11, 3) rfl
theorem dX7_init_88 : decode cX7_init 88 = .ok (.iload_n 1, 1) := tb_d tk_X7_init_2 2 (88, .iload_n 1, 1) rfl
theorem dX7_init_89 : decode cX7_init 89 = .ok (.new 9, 3) := tb_d tk_X7_init_2 3 (89, .new 9, 3) rfl
theorem dX7_init_92 : decode cX7_init 92 = .ok (.dup, 1) := tb_d tk_X7_init_2 4 (92, .dup, 1) rfl
theorem dX7_init_93 : decode cX7_init 93 = .ok (.invokespecial 54, 3) := tb_d tk_X7_init_2 5 (93, .invokespecial 54, 3) rfl
theorem dX7_init_96 : decode cX7_init 96 = .ok (.aastore, 1) := tb_d tk_X7_init_2 6 (96, .aastore, 1) rfl
theorem dX7_init_97 : decode cX7_init 97 = .ok (.iinc 1 1, 3) := tb_d tk_X7_init_2 7 (97, .iinc 1 1, 3) rfl
theorem dX7_init_100 : decode cX7_init 100 = .ok (.goto (-22), 3) := tb_d tk_X7_init_2 8 (100, .goto (-22), 3) rfl
theorem dX7_init_103 : decode cX7_init 103 = .ok (.iconst 0, 1) := tb_d tk_X7_init_2 9 (103, .iconst 0, 1) rfl
theorem dX7_init_104 : decode cX7_init 104 = .ok (.istore_n 1, 1) := tb_d tk_X7_init_2 10 (104, .istore_n 1, 1) rfl
theorem dX7_init_105 : decode cX7_init 105 = .ok (.iload_n 1, 1) := tb_d tk_X7_init_2 11 (105, .iload_n 1, 1) rfl
theorem dX7_init_106 : decode cX7_init 106 = .ok (.iconst 2, 1) := tb_d tk_X7_init_2 12 (106, .iconst 2, 1) rfl
theorem dX7_init_107 : decode cX7_init 107 = .ok (.if_icmp .ge 22, 3) := tb_d tk_X7_init_2 13 (107, .if_icmp .ge 22, 3) rfl
theorem dX7_init_110 : decode cX7_init 110 = .ok (.aload_n 0, 1) := tb_d tk_X7_init_2 14 (110, .aload_n 0, 1) rfl
theorem dX7_init_111 : decode cX7_init 111 = .ok (.getfield 36, 3) := tb_d tk_X7_init_2 15 (111, .getfield 36, 3) rfl
theorem dX7_init_114 : decode cX7_init 114 = .ok (.iload_n 1, 1) := tb_d tk_X7_init_2 16 (114, .iload_n 1, 1) rfl
theorem dX7_init_115 : decode cX7_init 115 = .ok (.new 22, 3) := tb_d tk_X7_init_2 17 (115, .new 22, 3) rfl
theorem dX7_init_118 : decode cX7_init 118 = .ok (.dup, 1) := tb_d tk_X7_init_2 18 (118, .dup, 1) rfl
theorem dX7_init_119 : decode cX7_init 119 = .ok (.invokespecial 24, 3) := tb_d tk_X7_init_2 19 (119, .invokespecial 24, 3) rfl
theorem dX7_init_122 : decode cX7_init 122 = .ok (.aastore, 1) := tb_d tk_X7_init_2 20 (122, .aastore, 1) rfl
theorem dX7_init_123 : decode cX7_init 123 = .ok (.iinc 1 1, 3) := tb_d tk_X7_init_2 21 (123, .iinc 1 1, 3) rfl
theorem dX7_init_126 : decode cX7_init 126 = .ok (.goto (-21), 3) := tb_d tk_X7_init_2 22 (126, .goto (-21), 3) rfl
theorem dX7_init_129 : decode cX7_init 129 = .ok (.return_, 1) := tb_d tk_X7_init_2 23 (129, .return_, 1) rfl
theorem ggX7_row_X7_isRow : GoodIn wsX7_row wsX7_isRow := fun w h => ⟨List.mem_cons_of_mem _ (List.mem_append_right _ (List.mem_append_right _ (List.mem_append_right _ (List.mem_append_right _ (List.mem_append_right _ (List.mem_append_right _ (List.mem_append_right _ (List.mem_append_left _ h)))))))), good_of_word (gdX7_isRow w h)⟩
set_option maxRecDepth 20000 in
theorem gX7_row_X7_isRow : GoodIn wsX7_row (wsV RX7 55 RX7 yX7_isRow wsX7_isRow) := goodIn_app (a := bkV RX7 55 RX7 yX7_isRow) (fun w h => ⟨List.mem_cons_of_mem _ (List.mem_append_right _ (List.mem_append_left _ h)), good_of_word (gd_bV _ _ _ _ w h)⟩) ggX7_row_X7_isRow
theorem ggX7_row_X7_found : GoodIn wsX7_row wsX7_found := fun w h => ⟨List.mem_cons_of_mem _ (List.mem_append_right _ (List.mem_append_right _ (List.mem_append_right _ (List.mem_append_right _ (List.mem_append_right _ (List.mem_append_right _ (List.mem_append_right _ (List.mem_append_right _ (List.mem_append_left _ h))))))))), good_of_word (gdX7_found w h)⟩
set_option maxRecDepth 20000 in
theorem gX7_row_X7_found : GoodIn wsX7_row (wsV RX7 60 RX7 yX7_found wsX7_found) := goodIn_app (a := bkV RX7 60 RX7 yX7_found) (fun w h => ⟨List.mem_cons_of_mem _ (List.mem_append_right _ (List.mem_append_right _ (List.mem_append_left _ h))), good_of_word (gd_bV _ _ _ _ w h)⟩) ggX7_row_X7_found
theorem ggX7_row_X5_make : GoodIn wsX7_row wsX5_make := fun w h => ⟨List.mem_cons_of_mem _ (List.mem_append_right _ (List.mem_append_right _ (List.mem_append_right _ (List.mem_append_right _ (List.mem_append_right _ (List.mem_append_right _ (List.mem_append_right _ (List.mem_append_right _ (List.mem_append_right _ (List.mem_append_left _ h)))))))))), good_of_word (gdX5_make w h)⟩
set_option maxRecDepth 20000 in
theorem gX7_row_X5_make : GoodIn wsX7_row (wsV RX7 64 RX5 yX5_make wsX5_make) := goodIn_app (a := bkV RX7 64 RX5 yX5_make) (fun w h => ⟨List.mem_cons_of_mem _ (List.mem_append_right _ (List.mem_append_right _ (List.mem_append_right _ (List.mem_append_left _ h)))), good_of_word (gd_bV _ _ _ _ w h)⟩) ggX7_row_X5_make
theorem ggX7_row_X7_unfound : GoodIn wsX7_row wsX7_unfound := fun w h => ⟨List.mem_cons_of_mem _ (List.mem_append_right _ (List.mem_append_right _ (List.mem_append_right _ (List.mem_append_right _ (List.mem_append_right _ (List.mem_append_right _ (List.mem_append_right _ (List.mem_append_right _ (List.mem_append_right _ (List.mem_append_right _ (List.mem_append_left _ h))))))))))), good_of_word (gdX7_unfound w h)⟩
set_option maxRecDepth 20000 in
theorem gX7_row_X7_unfound : GoodIn wsX7_row (wsV RX7 68 RX7 yX7_unfound wsX7_unfound) := goodIn_app (a := bkV RX7 68 RX7 yX7_unfound) (fun w h => ⟨List.mem_cons_of_mem _ (List.mem_append_right _ (List.mem_append_right _ (List.mem_append_right _ (List.mem_append_right _ (List.mem_append_left _ h))))), good_of_word (gd_bV _ _ _ _ w h)⟩) ggX7_row_X7_unfound
def tb_X7_row_1 : List (Nat × Instr × Nat) := [(0, .aload_n 0, 1), (1, .iload_n 1, 1), (2, .invokevirtual 55, 3), (5, .ifCond .eq 18, 3), (8, .iload_n 2, 1), (9, .ifCond .lt 14, 3), (12, .iload_n 2, 1), (13, .iconst 2, 1), (14, .if_icmp .gt 9, 3), (17, .iload_n 3, 1), (18, .bipush 40, 2), (20, .if_icmp .le 6, 3), (23, .ldc 59, 2), (25, .ireturn, 1), (26, .iload_n 3, 1), (27, .ifCond .ge 9, 3), (30, .aload_n 0, 1), (31, .iconst 4, 1), (32, .invokevirtual 60, 3), (35, .ireturn, 1), (36, .aload_n 0, 1), (37, .getfield 11, 3), (40, .iload_n 1, 1), (41, .aaload, 1), (42, .iload_n 2, 1), (43, .iload_n 3, 1), (44, .invokevirtual 64, 3), (47, .aload_n 0, 1), (48, .iload_n 3, 1), (49, .invokevirtual 68, 3), (52, .ireturn, 1)]
set_option maxRecDepth 100000 in
theorem tk_X7_row_1 : (tb_X7_row_1.all fun q => decide (decode cX7_row q.1 = .ok q.2)) = true := by decide +kernel
theorem dX7_row_0 : decode cX7_row 0 = .ok (.aload_n 0, 1) := tb_d tk_X7_row_1 0 (0, .aload_n 0, 1) rfl
theorem dX7_row_1 : decode cX7_row 1 = .ok (.iload_n 1, 1) := tb_d tk_X7_row_1 1 (1, .iload_n 1, 1) rfl
theorem dX7_row_2 : decode cX7_row 2 = .ok (.invokevirtual 55, 3) := tb_d tk_X7_row_1 2 (2, .invokevirtual 55, 3) rfl
theorem dX7_row_5 : decode cX7_row 5 = .ok (.ifCond .eq 18, 3) := tb_d tk_X7_row_1 3 (5, .ifCond .eq 18, 3) rfl
theorem dX7_row_8 : decode cX7_row 8 = .ok (.iload_n 2, 1) := tb_d tk_X7_row_1 4 (8, .iload_n 2, 1) rfl
theorem dX7_row_9 : decode cX7_row 9 = .ok (.ifCond .lt 14, 3) := tb_d tk_X7_row_1 5 (9, .ifCond .lt 14, 3) rfl
theorem dX7_row_12 : decode cX7_row 12 = .ok (.iload_n 2, 1) := tb_d tk_X7_row_1 6 (12, .iload_n 2, 1) rfl
theorem dX7_row_13 : decode cX7_row 13 = .ok (.iconst 2, 1) := tb_d tk_X7_row_1 7 (13, .iconst 2, 1) rfl
theorem dX7_row_14 : decode cX7_row 14 = .ok (.if_icmp .gt 9, 3) := tb_d tk_X7_row_1 8 (14, .if_icmp .gt 9, 3) rfl
theorem dX7_row_17 : decode cX7_row 17 = .ok (.iload_n 3, 1) := tb_d tk_X7_row_1 9 (17, .iload_n 3, 1) rfl
theorem dX7_row_18 : decode cX7_row 18 = .ok (.bipush 40, 2) := tb_d tk_X7_row_1 10 (18, .bipush 40, 2) rfl
theorem dX7_row_20 : decode cX7_row 20 = .ok (.if_icmp .le 6, 3) := tb_d tk_X7_row_1 11 (20, .if_icmp .le 6, 3) rfl
theorem dX7_row_23 : decode cX7_row 23 = .ok (.ldc 59, 2) := tb_d tk_X7_row_1 12 (23, .ldc 59, 2) rfl
theorem dX7_row_25 : decode cX7_row 25 = .ok (.ireturn, 1) := tb_d tk_X7_row_1 13 (25, .ireturn, 1) rfl
theorem dX7_row_26 : decode cX7_row 26 = .ok (.iload_n 3, 1) := tb_d tk_X7_row_1 14 (26, .iload_n 3, 1) rfl
theorem dX7_row_27 : decode cX7_row 27 = .ok (.ifCond .ge 9, 3) := tb_d tk_X7_row_1 15 (27, .ifCond .ge 9, 3) rfl
theorem dX7_row_30 : decode cX7_row 30 = .ok (.aload_n 0, 1) := tb_d tk_X7_row_1 16 (30, .aload_n 0, 1) rfl
theorem dX7_row_31 : decode cX7_row 31 = .ok (.iconst 4, 1) := tb_d tk_X7_row_1 17 (31, .iconst 4, 1) rfl
theorem dX7_row_32 : decode cX7_row 32 = .ok (.invokevirtual 60, 3) := tb_d tk_X7_row_1 18 (32, .invokevirtual 60, 3) rfl
theorem dX7_row_35 : decode cX7_row 35 = .ok (.ireturn, 1) := tb_d tk_X7_row_1 19 (35, .ireturn, 1) rfl
theorem dX7_row_36 : decode cX7_row 36 = .ok (.aload_n 0, 1) := tb_d tk_X7_row_1 20 (36, .aload_n 0, 1) rfl
theorem dX7_row_37 : decode cX7_row 37 = .ok (.getfield 11, 3) := tb_d tk_X7_row_1 21 (37, .getfield 11, 3) rfl
theorem dX7_row_40 : decode cX7_row 40 = .ok (.iload_n 1, 1) := tb_d tk_X7_row_1 22 (40, .iload_n 1, 1) rfl
theorem dX7_row_41 : decode cX7_row 41 = .ok (.aaload, 1) := tb_d tk_X7_row_1 23 (41, .aaload, 1) rfl
theorem dX7_row_42 : decode cX7_row 42 = .ok (.iload_n 2, 1) := tb_d tk_X7_row_1 24 (42, .iload_n 2, 1) rfl
theorem dX7_row_43 : decode cX7_row 43 = .ok (.iload_n 3, 1) := tb_d tk_X7_row_1 25 (43, .iload_n 3, 1) rfl
theorem dX7_row_44 : decode cX7_row 44 = .ok (.invokevirtual 64, 3) := tb_d tk_X7_row_1 26 (44, .invokevirtual 64, 3) rfl
theorem dX7_row_47 : decode cX7_row 47 = .ok (.aload_n 0, 1) := tb_d tk_X7_row_1 27 (47, .aload_n 0, 1) rfl
theorem dX7_row_48 : decode cX7_row 48 = .ok (.iload_n 3, 1) := tb_d tk_X7_row_1 28 (48, .iload_n 3, 1) rfl
theorem dX7_row_49 : decode cX7_row 49 = .ok (.invokevirtual 68, 3) := tb_d tk_X7_row_1 29 (49, .invokevirtual 68, 3) rfl
theorem dX7_row_52 : decode cX7_row 52 = .ok (.ireturn, 1) := tb_d tk_X7_row_1 30 (52, .ireturn, 1) rfl
theorem ggX7_set_X7_isRow : GoodIn wsX7_set wsX7_isRow := fun w h => ⟨List.mem_cons_of_mem _ (List.mem_append_right _ (List.mem_append_right _ (List.mem_append_right _ (List.mem_append_right _ (List.mem_append_right _ (List.mem_append_right _ (List.mem_append_right _ (List.mem_append_right _ (List.mem_append_left _ h))))))))), good_of_word (gdX7_isRow w h)⟩
set_option maxRecDepth 20000 in
theorem gX7_set_X7_isRow : GoodIn wsX7_set (wsV RX7 55 RX7 yX7_isRow wsX7_isRow) := goodIn_app (a := bkV RX7 55 RX7 yX7_isRow) (fun w h => ⟨List.mem_cons_of_mem _ (List.mem_append_right _ (List.mem_append_left _ h)), good_of_word (gd_bV _ _ _ _ w h)⟩) ggX7_set_X7_isRow
theorem ggX7_set_X5_findingOf : GoodIn wsX7_set wsX5_findingOf := fun w h => ⟨List.mem_cons_of_mem _ (List.mem_append_right _ (List.mem_append_right _ (List.mem_append_right _ (List.mem_append_right _ (List.mem_append_right _ (List.mem_append_right _ (List.mem_append_right _ (List.mem_append_right _ (List.mem_append_right _ (List.mem_append_left _ h)))))))))), good_of_word (gdX5_findingOf w h)⟩
set_option maxRecDepth 20000 in
theorem gX7_set_X5_findingOf : GoodIn wsX7_set (wsV RX7 71 RX5 yX5_findingOf wsX5_findingOf) := goodIn_app (a := bkV RX7 71 RX5 yX5_findingOf) (fun w h => ⟨List.mem_cons_of_mem _ (List.mem_append_right _ (List.mem_append_right _ (List.mem_append_left _ h))), good_of_word (gd_bV _ _ _ _ w h)⟩) ggX7_set_X5_findingOf
theorem ggX7_set_X7_found : GoodIn wsX7_set wsX7_found := fun w h => ⟨List.mem_cons_of_mem _ (List.mem_append_right _ (List.mem_append_right _ (List.mem_append_right _ (List.mem_append_right _ (List.mem_append_right _ (List.mem_append_right _ (List.mem_append_right _ (List.mem_append_right _ (List.mem_append_right _ (List.mem_append_right _ (List.mem_append_left _ h))))))))))), good_of_word (gdX7_found w h)⟩
set_option maxRecDepth 20000 in
theorem gX7_set_X7_found : GoodIn wsX7_set (wsV RX7 60 RX7 yX7_found wsX7_found) := goodIn_app (a := bkV RX7 60 RX7 yX7_found) (fun w h => ⟨List.mem_cons_of_mem _ (List.mem_append_right _ (List.mem_append_right _ (List.mem_append_right _ (List.mem_append_left _ h)))), good_of_word (gd_bV _ _ _ _ w h)⟩) ggX7_set_X7_found
theorem ggX7_set_X5_put : GoodIn wsX7_set wsX5_put := fun w h => ⟨List.mem_cons_of_mem _ (List.mem_append_right _ (List.mem_append_right _ (List.mem_append_right _ (List.mem_append_right _ (List.mem_append_right _ (List.mem_append_right _ (List.mem_append_right _ (List.mem_append_right _ (List.mem_append_right _ (List.mem_append_right _ (List.mem_append_right _ (List.mem_append_left _ h)))))))))))), good_of_word (gdX5_put w h)⟩
set_option maxRecDepth 20000 in
theorem gX7_set_X5_put : GoodIn wsX7_set (wsV RX7 75 RX5 yX5_put wsX5_put) := goodIn_app (a := bkV RX7 75 RX5 yX5_put) (fun w h => ⟨List.mem_cons_of_mem _ (List.mem_append_right _ (List.mem_append_right _ (List.mem_append_right _ (List.mem_append_right _ (List.mem_append_left _ h))))), good_of_word (gd_bV _ _ _ _ w h)⟩) ggX7_set_X5_put
theorem ggX7_set_X7_unfound : GoodIn wsX7_set wsX7_unfound := fun w h => ⟨List.mem_cons_of_mem _ (List.mem_append_right _ (List.mem_append_right _ (List.mem_append_right _ (List.mem_append_right _ (List.mem_append_right _ (List.mem_append_right _ (List.mem_append_right _ (List.mem_append_right _ (List.mem_append_right _ (List.mem_append_right _ (List.mem_append_right _ (List.mem_append_right _ (List.mem_append_left _ h))))))))))))), good_of_word (gdX7_unfound w h)⟩
set_option maxRecDepth 20000 in
theorem gX7_set_X7_unfound : GoodIn wsX7_set (wsV RX7 68 RX7 yX7_unfound wsX7_unfound) := goodIn_app (a := bkV RX7 68 RX7 yX7_unfound) (fun w h => ⟨List.mem_cons_of_mem _ (List.mem_append_right _ (List.mem_append_right _ (List.mem_append_right _ (List.mem_append_right _ (List.mem_append_right _ (List.mem_append_left _ h)))))), good_of_word (gd_bV _ _ _ _ w h)⟩) ggX7_set_X7_unfound
def tb_X7_set_1 : List (Nat × Instr × Nat) := [(0, .aload_n 0, 1), (1, .iload_n 1, 1), (2, .invokevirtual 55, 3), (5, .ifCond .ne 6, 3), (8, .ldc 59, 2), (10, .ireturn, 1), (11, .aload_n 0, 1), (12, .getfield 11, 3), (15, .iload_n 1, 1), (16, .aaload, 1), (17, .iload_n 2, 1), (18, .iconst 1, 1), (19, .invokevirtual 71, 3), (22, .istore 4, 2), (24, .iload 4, 2), (26, .ifCond .eq 12, 3), (29, .aload_n 0, 1), (30, .iload 4, 2), (32, .invokevirtual 60, 3), (35, .goto 18, 3), (38, .aload_n 0, 1), (39, .aload_n 0, 1), (40, .getfield 11, 3), (43, .iload_n 1, 1), (44, .aaload, 1), (45, .iload_n 2, 1), (46, .iload_n 3, 1), (47, .invokevirtual 75, 3), (50, .invokevirtual 68, 3), (53, .ireturn, 1)]
set_option maxRecDepth 100000 in
theorem tk_X7_set_1 : (tb_X7_set_1.all fun q => decide (decode cX7_set q.1 = .ok q.2)) = true := by decide +kernel
theorem dX7_set_0 : decode cX7_set 0 = .ok (.aload_n 0, 1) := tb_d tk_X7_set_1 0 (0, .aload_n 0, 1) rfl
theorem dX7_set_1 : decode cX7_set 1 = .ok (.iload_n 1, 1) := tb_d tk_X7_set_1 1 (1, .iload_n 1, 1) rfl
theorem dX7_set_2 : decode cX7_set 2 = .ok (.invokevirtual 55, 3) := tb_d tk_X7_set_1 2 (2, .invokevirtual 55, 3) rfl
theorem dX7_set_5 : decode cX7_set 5 = .ok (.ifCond .ne 6, 3) := tb_d tk_X7_set_1 3 (5, .ifCond .ne 6, 3) rfl
theorem dX7_set_8 : decode cX7_set 8 = .ok (.ldc 59, 2) := tb_d tk_X7_set_1 4 (8, .ldc 59, 2) rfl
theorem dX7_set_10 : decode cX7_set 10 = .ok (.ireturn, 1) := tb_d tk_X7_set_1 5 (10, .ireturn, 1) rfl
theorem dX7_set_11 : decode cX7_set 11 = .ok (.aload_n 0, 1) := tb_d tk_X7_set_1 6 (11, .aload_n 0, 1) rfl
theorem dX7_set_12 : decode cX7_set 12 = .ok (.getfield 11, 3) := tb_d tk_X7_set_1 7 (12, .getfield 11, 3) rfl
theorem dX7_set_15 : decode cX7_set 15 = .ok (.iload_n 1, 1) := tb_d tk_X7_set_1 8 (15, .iload_n 1, 1) rfl
theorem dX7_set_16 : decode cX7_set 16 = .ok (.aaload, 1) := tb_d tk_X7_set_1 9 (16, .aaload, 1) rfl
theorem dX7_set_17 : decode cX7_set 17 = .ok (.iload_n 2, 1) := tb_d tk_X7_set_1 10 (17, .iload_n 2, 1) rfl
theorem dX7_set_18 : decode cX7_set 18 = .ok (.iconst 1, 1) := tb_d tk_X7_set_1 11 (18, .iconst 1, 1) rfl
theorem dX7_set_19 : decode cX7_set 19 = .ok (.invokevirtual 71, 3) := tb_d tk_X7_set_1 12 (19, .invokevirtual 71, 3) rfl
theorem dX7_set_22 : decode cX7_set 22 = .ok (.istore 4, 2) := tb_d tk_X7_set_1 13 (22, .istore 4, 2) rfl
theorem dX7_set_24 : decode cX7_set 24 = .ok (.iload 4, 2) := tb_d tk_X7_set_1 14 (24, .iload 4, 2) rfl
theorem dX7_set_26 : decode cX7_set 26 = .ok (.ifCond .eq 12, 3) := tb_d tk_X7_set_1 15 (26, .ifCond .eq 12, 3) rfl
theorem dX7_set_29 : decode cX7_set 29 = .ok (.aload_n 0, 1) := tb_d tk_X7_set_1 16 (29, .aload_n 0, 1) rfl
theorem dX7_set_30 : decode cX7_set 30 = .ok (.iload 4, 2) := tb_d tk_X7_set_1 17 (30, .iload 4, 2) rfl
theorem dX7_set_32 : decode cX7_set 32 = .ok (.invokevirtual 60, 3) := tb_d tk_X7_set_1 18 (32, .invokevirtual 60, 3) rfl
theorem dX7_set_35 : decode cX7_set 35 = .ok (.goto 18, 3) := tb_d tk_X7_set_1 19 (35, .goto 18, 3) rfl
theorem dX7_set_38 : decode cX7_set 38 = .ok (.aload_n 0, 1) := tb_d tk_X7_set_1 20 (38, .aload_n 0, 1) rfl
theorem dX7_set_39 : decode cX7_set 39 = .ok (.aload_n 0, 1) := tb_d tk_X7_set_1 21 (39, .aload_n 0, 1) rfl
theorem dX7_set_40 : decode cX7_set 40 = .ok (.getfield 11, 3) := tb_d tk_X7_set_1 22 (40, .getfield 11, 3) rfl
theorem dX7_set_43 : decode cX7_set 43 = .ok (.iload_n 1, 1) := tb_d tk_X7_set_1 23 (43, .iload_n 1, 1) rfl
theorem dX7_set_44 : decode cX7_set 44 = .ok (.aaload, 1) := tb_d tk_X7_set_1 24 (44, .aaload, 1) rfl
theorem dX7_set_45 : decode cX7_set 45 = .ok (.iload_n 2, 1) := tb_d tk_X7_set_1 25 (45, .iload_n 2, 1) rfl
theorem dX7_set_46 : decode cX7_set 46 = .ok (.iload_n 3, 1) := tb_d tk_X7_set_1 26 (46, .iload_n 3, 1) rfl
theorem dX7_set_47 : decode cX7_set 47 = .ok (.invokevirtual 75, 3) := tb_d tk_X7_set_1 27 (47, .invokevirtual 75, 3) rfl
theorem dX7_set_50 : decode cX7_set 50 = .ok (.invokevirtual 68, 3) := tb_d tk_X7_set_1 28 (50, .invokevirtual 68, 3) rfl
theorem dX7_set_53 : decode cX7_set 53 = .ok (.ireturn, 1) := tb_d tk_X7_set_1 29 (53, .ireturn, 1) rfl
theorem ggX7_copy_X7_isRow : GoodIn wsX7_copy wsX7_isRow := fun w h => ⟨List.mem_cons_of_mem _ (List.mem_append_right _ (List.mem_append_right _ (List.mem_append_right _ (List.mem_append_right _ (List.mem_append_right _ (List.mem_append_right _ (List.mem_append_right _ (List.mem_append_left _ h)))))))), good_of_word (gdX7_isRow w h)⟩
set_option maxRecDepth 20000 in
theorem gX7_copy_X7_isRow : GoodIn wsX7_copy (wsV RX7 55 RX7 yX7_isRow wsX7_isRow) := goodIn_app (a := bkV RX7 55 RX7 yX7_isRow) (fun w h => ⟨List.mem_cons_of_mem _ (List.mem_append_right _ (List.mem_append_left _ h)), good_of_word (gd_bV _ _ _ _ w h)⟩) ggX7_copy_X7_isRow
theorem ggX7_copy_X7_found : GoodIn wsX7_copy wsX7_found := fun w h => ⟨List.mem_cons_of_mem _ (List.mem_append_right _ (List.mem_append_right _ (List.mem_append_right _ (List.mem_append_right _ (List.mem_append_right _ (List.mem_append_right _ (List.mem_append_right _ (List.mem_append_right _ (List.mem_append_left _ h))))))))), good_of_word (gdX7_found w h)⟩
set_option maxRecDepth 20000 in
theorem gX7_copy_X7_found : GoodIn wsX7_copy (wsV RX7 60 RX7 yX7_found wsX7_found) := goodIn_app (a := bkV RX7 60 RX7 yX7_found) (fun w h => ⟨List.mem_cons_of_mem _ (List.mem_append_right _ (List.mem_append_right _ (List.mem_append_left _ h))), good_of_word (gd_bV _ _ _ _ w h)⟩) ggX7_copy_X7_found
theorem ggX7_copy_X5_reaches : GoodIn wsX7_copy wsX5_reaches := fun w h => ⟨List.mem_cons_of_mem _ (List.mem_append_right _ (List.mem_append_right _ (List.mem_append_right _ (List.mem_append_right _ (List.mem_append_right _ (List.mem_append_right _ (List.mem_append_right _ (List.mem_append_right _ (List.mem_append_right _ (List.mem_append_left _ h)))))))))), good_of_word (gdX5_reaches w h)⟩
set_option maxRecDepth 20000 in
theorem gX7_copy_X5_reaches : GoodIn wsX7_copy (wsV RX7 82 RX5 yX5_reaches wsX5_reaches) := goodIn_app (a := bkV RX7 82 RX5 yX5_reaches) (fun w h => ⟨List.mem_cons_of_mem _ (List.mem_append_right _ (List.mem_append_right _ (List.mem_append_right _ (List.mem_append_left _ h)))), good_of_word (gd_bV _ _ _ _ w h)⟩) ggX7_copy_X5_reaches
theorem ggX7_copy_X7_unfound : GoodIn wsX7_copy wsX7_unfound := fun w h => ⟨List.mem_cons_of_mem _ (List.mem_append_right _ (List.mem_append_right _ (List.mem_append_right _ (List.mem_append_right _ (List.mem_append_right _ (List.mem_append_right _ (List.mem_append_right _ (List.mem_append_right _ (List.mem_append_right _ (List.mem_append_right _ (List.mem_append_left _ h))))))))))), good_of_word (gdX7_unfound w h)⟩
set_option maxRecDepth 20000 in
theorem gX7_copy_X7_unfound : GoodIn wsX7_copy (wsV RX7 68 RX7 yX7_unfound wsX7_unfound) := goodIn_app (a := bkV RX7 68 RX7 yX7_unfound) (fun w h => ⟨List.mem_cons_of_mem _ (List.mem_append_right _ (List.mem_append_right _ (List.mem_append_right _ (List.mem_append_right _ (List.mem_append_left _ h))))), good_of_word (gd_bV _ _ _ _ w h)⟩) ggX7_copy_X7_unfound
def tb_X7_copy_1 : List (Nat × Instr × Nat) := [(0, .aload_n 0, 1), (1, .iload_n 1, 1), (2, .invokevirtual 55, 3), (5, .ifCond .eq 11, 3), (8, .aload_n 0, 1), (9, .iload_n 3, 1), (10, .invokevirtual 55, 3), (13, .ifCond .ne 6, 3), (16, .ldc 59, 2), (18, .ireturn, 1), (19, .aload_n 0, 1), (20, .getfield 11, 3), (23, .iload_n 1, 1), (24, .aaload, 1), (25, .astore 6, 2), (27, .aload_n 0, 1), (28, .getfield 11, 3), (31, .iload_n 3, 1), (32, .aaload, 1), (33, .astore 7, 2), (35, .aload 6, 2), (37, .getfield 78, 3), (40, .iconst (-1), 1), (41, .if_icmp .eq 12, 3), (44, .aload 7, 2), (46, .getfield 78, 3), (49, .iconst (-1), 1), (50, .if_icmp .ne 9, 3), (53, .aload_n 0, 1), (54, .iconst 1, 1), (55, .invokevirtual 60, 3), (58, .ireturn, 1), (59, .aload 6, 2), (61, .getfield 78, 3), (64, .aload 7, 2), (66, .getfield 78, 3), (69, .if_icmp .eq 9, 3), (72, .aload_n 0, 1), (73, .iconst 5, 1), (74, .invokevirtual 60, 3)]
set_option maxRecDepth 100000 in
theorem tk_X7_copy_1 : (tb_X7_copy_1.all fun q => decide (decode cX7_copy q.1 = .ok q.2)) = true := by decide +kernel
theorem dX7_copy_0 : decode cX7_copy 0 = .ok (.aload_n 0, 1) := tb_d tk_X7_copy_1 0 (0, .aload_n 0, 1) rfl
theorem dX7_copy_1 : decode cX7_copy 1 = .ok (.iload_n 1, 1) := tb_d tk_X7_copy_1 1 (1, .iload_n 1, 1) rfl
theorem dX7_copy_2 : decode cX7_copy 2 = .ok (.invokevirtual 55, 3) := tb_d tk_X7_copy_1 2 (2, .invokevirtual 55, 3) rfl
theorem dX7_copy_5 : decode cX7_copy 5 = .ok (.ifCond .eq 11, 3) := tb_d tk_X7_copy_1 3 (5, .ifCond .eq 11, 3) rfl
theorem dX7_copy_8 : decode cX7_copy 8 = .ok (.aload_n 0, 1) := tb_d tk_X7_copy_1 4 (8, .aload_n 0, 1) rfl
theorem dX7_copy_9 : decode cX7_copy 9 = .ok (.iload_n 3, 1) := tb_d tk_X7_copy_1 5 (9, .iload_n 3, 1) rfl
theorem dX7_copy_10 : decode cX7_copy 10 = .ok (.invokevirtual 55, 3) := tb_d tk_X7_copy_1 6 (10, .invokevirtual 55, 3) rfl
theorem dX7_copy_13 : decode cX7_copy 13 = .ok (.ifCond .ne 6, 3) := tb_d tk_X7_copy_1 7 (13, .ifCond .ne 6, 3) rfl
theorem dX7_copy_16 : decode cX7_copy 16 = .ok (.ldc 59, 2) := tb_d tk_X7_copy_1 8 (16, .ldc 59, 2) rfl
theorem dX7_copy_18 : decode cX7_copy 18 = .ok (.ireturn, 1) := tb_d tk_X7_copy_1 9 (18, .ireturn, 1) rfl
theorem dX7_copy_19 : decode cX7_copy 19 = .ok (.aload_n 0, 1) := tb_d tk_X7_copy_1 10 (19, .aload_n 0, 1) rfl
theorem dX7_copy_20 : decode cX7_copy 20 = .ok (.getfield 11, 3) := tb_d tk_X7_copy_1 11 (20, .getfield 11, 3) rfl
theorem dX7_copy_23 : decode cX7_copy 23 = .ok (.iload_n 1, 1) := tb_d tk_X7_copy_1 12 (23, .iload_n 1, 1) rfl
theorem dX7_copy_24 : decode cX7_copy 24 = .ok (.aaload, 1) := tb_d tk_X7_copy_1 13 (24, .aaload, 1) rfl
theorem dX7_copy_25 : decode cX7_copy 25 = .ok (.astore 6, 2) := tb_d tk_X7_copy_1 14 (25, .astore 6, 2) rfl
theorem dX7_copy_27 : decode cX7_copy 27 = .ok (.aload_n 0, 1) := tb_d tk_X7_copy_1 15 (27, .aload_n 0, 1) rfl
theorem dX7_copy_28 : decode cX7_copy 28 = .ok (.getfield 11, 3) := tb_d tk_X7_copy_1 16 (28, .getfield 11, 3) rfl
theorem dX7_copy_31 : decode cX7_copy 31 = .ok (.iload_n 3, 1) := tb_d tk_X7_copy_1 17 (31, .iload_n 3, 1) rfl
theorem dX7_copy_32 : decode cX7_copy 32 = .ok (.aaload, 1) := tb_d tk_X7_copy_1 18 (32, .aaload, 1) rfl
theorem dX7_copy_33 : decode cX7_copy 33 = .ok (.astore 7, 2) := tb_d tk_X7_copy_1 19 (33, .astore 7, 2) rfl
theorem dX7_copy_35 : decode cX7_copy 35 = .ok (.aload 6, 2) := tb_d tk_X7_copy_1 20 (35, .aload 6, 2) rfl
theorem dX7_copy_37 : decode cX7_copy 37 = .ok (.getfield 78, 3) := tb_d tk_X7_copy_1 21 (37, .getfield 78, 3) rfl
theorem dX7_copy_40 : decode cX7_copy 40 = .ok (.iconst (-1), 1) := tb_d tk_X7_copy_1 22 (40, .iconst (-1), 1) rfl
theorem dX7_copy_41 : decode cX7_copy 41 = .ok (.if_icmp .eq 12, 3) := tb_d tk_X7_copy_1 23 (41, .if_icmp .eq 12, 3) rfl
theorem dX7_copy_44 : decode cX7_copy 44 = .ok (.aload 7, 2) := tb_d tk_X7_copy_1 24 (44, .aload 7, 2) rfl
theorem dX7_copy_46 : decode cX7_copy 46 = .ok (.getfield 78, 3) := tb_d tk_X7_copy_1 25 (46, .getfield 78, 3) rfl
theorem dX7_copy_49 : decode cX7_copy 49 = .ok (.iconst (-1), 1) := tb_d tk_X7_copy_1 26 (49, .iconst (-1), 1) rfl
theorem dX7_copy_50 : decode cX7_copy 50 = .ok (.if_icmp .ne 9, 3) := tb_d tk_X7_copy_1 27 (50, .if_icmp .ne 9, 3) rfl
theorem dX7_copy_53 : decode cX7_copy 53 = .ok (.aload_n 0, 1) := tb_d tk_X7_copy_1 28 (53, .aload_n 0, 1) rfl
theorem dX7_copy_54 : decode cX7_copy 54 = .ok (.iconst 1, 1) := tb_d tk_X7_copy_1 29 (54, .iconst 1, 1) rfl
theorem dX7_copy_55 : decode cX7_copy 55 = .ok (.invokevirtual 60, 3) := tb_d tk_X7_copy_1 30 (55, .invokevirtual 60, 3) rfl
theorem dX7_copy_58 : decode cX7_copy 58 = .ok (.ireturn, 1) := tb_d tk_X7_copy_1 31 (58, .ireturn, 1) rfl
theorem dX7_copy_59 : decode cX7_copy 59 = .ok (.aload 6, 2) := tb_d tk_X7_copy_1 32 (59, .aload 6, 2) rfl
theorem dX7_copy_61 : decode cX7_copy 61 = .ok (.getfield 78, 3) := tb_d tk_X7_copy_1 33 (61, .getfield 78, 3) rfl
theorem dX7_copy_64 : decode cX7_copy 64 = .ok (.aload 7, 2) := tb_d tk_X7_copy_1 34 (64, .aload 7, 2) rfl
theorem dX7_copy_66 : decode cX7_copy 66 = .ok (.getfield 78, 3) := tb_d tk_X7_copy_1 35 (66, .getfield 78, 3) rfl
theorem dX7_copy_69 : decode cX7_copy 69 = .ok (.if_icmp .eq 9, 3) := tb_d tk_X7_copy_1 36 (69, .if_icmp .eq 9, 3) rfl
theorem dX7_copy_72 : decode cX7_copy 72 = .ok (.aload_n 0, 1) := tb_d tk_X7_copy_1 37 (72, .aload_n 0, 1) rfl
theorem dX7_copy_73 : decode cX7_copy 73 = .ok (.iconst 5, 1) := tb_d tk_X7_copy_1 38 (73, .iconst 5, 1) rfl
theorem dX7_copy_74 : decode cX7_copy 74 = .ok (.invokevirtual 60, 3) := tb_d tk_X7_copy_1 39 (74, .invokevirtual 60, 3) rfl
def tb_X7_copy_2 : List (Nat × Instr × Nat) := [(77, .ireturn, 1), (78, .aload 6, 2), (80, .iload_n 2, 1), (81, .iload 5, 2), (83, .invokevirtual 82, 3), (86, .ifCond .eq 15, 3), (89, .aload 7, 2), (91, .iload 4, 2), (93, .iload 5, 2), (95, .invokevirtual 82, 3), (98, .ifCond .ne 9, 3), (101, .aload_n 0, 1), (102, .iconst 2, 1), (103, .invokevirtual 60, 3), (106, .ireturn, 1), (107, .aload 6, 2), (109, .getfield 86, 3), (112, .iload_n 2, 1), (113, .aload 7, 2), (115, .getfield 86, 3), (118, .iload 4, 2), (120, .iload 5, 2), (122, .invokestatic 90, 3), (125, .aload_n 0, 1), (126, .iload 5, 2), (128, .invokevirtual 68, 3), (131, .ireturn, 1)]
set_option maxRecDepth 100000 in
theorem tk_X7_copy_2 : (tb_X7_copy_2.all fun q => decide (decode cX7_copy q.1 = .ok q.2)) = true := by decide +kernel
theorem dX7_copy_77 : decode cX7_copy 77 = .ok (.ireturn, 1) := tb_d tk_X7_copy_2 0 (77, .ireturn, 1) rfl
theorem dX7_copy_78 : decode cX7_copy 78 = .ok (.aload 6, 2) := tb_d tk_X7_copy_2 1 (78, .aload 6, 2) rfl
theorem dX7_copy_80 : decode cX7_copy 80 = .ok (.iload_n 2, 1) := tb_d tk_X7_copy_2 2 (80, .iload_n 2, 1) rfl
theorem dX7_copy_81 : decode cX7_copy 81 = .ok (.iload 5, 2) := tb_d tk_X7_copy_2 3 (81, .iload 5, 2) rfl
theorem dX7_copy_83 : decode cX7_copy 83 = .ok (.invokevirtual 82, 3) := tb_d tk_X7_copy_2 4 (83, .invokevirtual 82, 3) rfl
theorem dX7_copy_86 : decode cX7_copy 86 = .ok (.ifCond .eq 15, 3) := tb_d tk_X7_copy_2 5 (86, .ifCond .eq 15, 3) rfl
theorem dX7_copy_89 : decode cX7_copy 89 = .ok (.aload 7, 2) := tb_d tk_X7_copy_2 6 (89, .aload 7, 2) rfl
theorem dX7_copy_91 : decode cX7_copy 91 = .ok (.iload 4, 2) := tb_d tk_X7_copy_2 7 (91, .iload 4, 2) rfl
theorem dX7_copy_93 : decode cX7_copy 93 = .ok (.iload 5, 2) := tb_d tk_X7_copy_2 8 (93, .iload 5, 2) rfl
theorem dX7_copy_95 : decode cX7_copy 95 = .ok (.invokevirtual 82, 3) := tb_d tk_X7_copy_2 9 (95, .invokevirtual 82, 3) rfl
theorem dX7_copy_98 : decode cX7_copy 98 = .ok (.ifCond .ne 9, 3) := tb_d tk_X7_copy_2 10 (98, .ifCond .ne 9, 3) rfl
theorem dX7_copy_101 : decode cX7_copy 101 = .ok (.aload_n 0, 1) := tb_d tk_X7_copy_2 11 (101, .aload_n 0, 1) rfl
theorem dX7_copy_102 : decode cX7_copy 102 = .ok (.iconst 2, 1) := tb_d tk_X7_copy_2 12 (102, .iconst 2, 1) rfl
theorem dX7_copy_103 : decode cX7_copy 103 = .ok (.invokevirtual 60, 3) := tb_d tk_X7_copy_2 13 (103, .invokevirtual 60, 3) rfl
theorem dX7_copy_106 : decode cX7_copy 106 = .ok (.ireturn, 1) := tb_d tk_X7_copy_2 14 (106, .ireturn, 1) rfl
theorem dX7_copy_107 : decode cX7_copy 107 = .ok (.aload 6, 2) := tb_d tk_X7_copy_2 15 (107, .aload 6, 2) rfl
theorem dX7_copy_109 : decode cX7_copy 109 = .ok (.getfield 86, 3) := tb_d tk_X7_copy_2 16 (109, .getfield 86, 3) rfl
theorem dX7_copy_112 : decode cX7_copy 112 = .ok (.iload_n 2, 1) := tb_d tk_X7_copy_2 17 (112, .iload_n 2, 1) rfl
theorem dX7_copy_113 : decode cX7_copy 113 = .ok (.aload 7, 2) := tb_d tk_X7_copy_2 18 (113, .aload 7, 2) rfl
theorem dX7_copy_115 : decode cX7_copy 115 = .ok (.getfield 86, 3) := tb_d tk_X7_copy_2 19 (115, .getfield 86, 3) rfl
theorem dX7_copy_118 : decode cX7_copy 118 = .ok (.iload 4, 2) := tb_d tk_X7_copy_2 20 (118, .iload 4, 2) rfl
theorem dX7_copy_120 : decode cX7_copy 120 = .ok (.iload 5, 2) := tb_d tk_X7_copy_2 21 (120, .iload 5, 2) rfl
theorem dX7_copy_122 : decode cX7_copy 122 = .ok (.invokestatic 90, 3) := tb_d tk_X7_copy_2 22 (122, .invokestatic 90, 3) rfl
theorem dX7_copy_125 : decode cX7_copy 125 = .ok (.aload_n 0, 1) := tb_d tk_X7_copy_2 23 (125, .aload_n 0, 1) rfl
theorem dX7_copy_126 : decode cX7_copy 126 = .ok (.iload 5, 2) := tb_d tk_X7_copy_2 24 (126, .iload 5, 2) rfl
theorem dX7_copy_128 : decode cX7_copy 128 = .ok (.invokevirtual 68, 3) := tb_d tk_X7_copy_2 25 (128, .invokevirtual 68, 3) rfl
theorem dX7_copy_131 : decode cX7_copy 131 = .ok (.ireturn, 1) := tb_d tk_X7_copy_2 26 (131, .ireturn, 1) rfl
theorem ggX7_drop_X7_isRow : GoodIn wsX7_drop wsX7_isRow := fun w h => ⟨List.mem_cons_of_mem _ (List.mem_append_right _ (List.mem_append_right _ (List.mem_append_right _ (List.mem_append_right _ (List.mem_append_right _ (List.mem_append_right _ (List.mem_append_left _ h))))))), good_of_word (gdX7_isRow w h)⟩
set_option maxRecDepth 20000 in
theorem gX7_drop_X7_isRow : GoodIn wsX7_drop (wsV RX7 55 RX7 yX7_isRow wsX7_isRow) := goodIn_app (a := bkV RX7 55 RX7 yX7_isRow) (fun w h => ⟨List.mem_cons_of_mem _ (List.mem_append_right _ (List.mem_append_left _ h)), good_of_word (gd_bV _ _ _ _ w h)⟩) ggX7_drop_X7_isRow
theorem ggX7_drop_X7_found : GoodIn wsX7_drop wsX7_found := fun w h => ⟨List.mem_cons_of_mem _ (List.mem_append_right _ (List.mem_append_right _ (List.mem_append_right _ (List.mem_append_right _ (List.mem_append_right _ (List.mem_append_right _ (List.mem_append_right _ (List.mem_append_left _ h)))))))), good_of_word (gdX7_found w h)⟩
set_option maxRecDepth 20000 in
theorem gX7_drop_X7_found : GoodIn wsX7_drop (wsV RX7 60 RX7 yX7_found wsX7_found) := goodIn_app (a := bkV RX7 60 RX7 yX7_found) (fun w h => ⟨List.mem_cons_of_mem _ (List.mem_append_right _ (List.mem_append_right _ (List.mem_append_left _ h))), good_of_word (gd_bV _ _ _ _ w h)⟩) ggX7_drop_X7_found
theorem ggX7_drop_X7_unfound : GoodIn wsX7_drop wsX7_unfound := fun w h => ⟨List.mem_cons_of_mem _ (List.mem_append_right _ (List.mem_append_right _ (List.mem_append_right _ (List.mem_append_right _ (List.mem_append_right _ (List.mem_append_right _ (List.mem_append_right _ (List.mem_append_right _ (List.mem_append_left _ h))))))))), good_of_word (gdX7_unfound w h)⟩
set_option maxRecDepth 20000 in
theorem gX7_drop_X7_unfound : GoodIn wsX7_drop (wsV RX7 68 RX7 yX7_unfound wsX7_unfound) := goodIn_app (a := bkV RX7 68 RX7 yX7_unfound) (fun w h => ⟨List.mem_cons_of_mem _ (List.mem_append_right _ (List.mem_append_right _ (List.mem_append_right _ (List.mem_append_left _ h)))), good_of_word (gd_bV _ _ _ _ w h)⟩) ggX7_drop_X7_unfound
def tb_X7_drop_1 : List (Nat × Instr × Nat) := [(0, .aload_n 0, 1), (1, .iload_n 1, 1), (2, .invokevirtual 55, 3), (5, .ifCond .ne 6, 3), (8, .ldc 59, 2), (10, .ireturn, 1), (11, .aload_n 0, 1), (12, .getfield 11, 3), (15, .iload_n 1, 1), (16, .aaload, 1), (17, .getfield 78, 3), (20, .iconst (-1), 1), (21, .if_icmp .ne 9, 3), (24, .aload_n 0, 1), (25, .iconst 1, 1), (26, .invokevirtual 60, 3), (29, .ireturn, 1), (30, .aload_n 0, 1), (31, .getfield 11, 3), (34, .iload_n 1, 1), (35, .aaload, 1), (36, .iconst (-1), 1), (37, .putfield 78, 3), (40, .aload_n 0, 1), (41, .aload_n 0, 1), (42, .getfield 11, 3), (45, .iload_n 1, 1), (46, .aaload, 1), (47, .getfield 96, 3), (50, .invokevirtual 68, 3), (53, .ireturn, 1)]
set_option maxRecDepth 100000 in
theorem tk_X7_drop_1 : (tb_X7_drop_1.all fun q => decide (decode cX7_drop q.1 = .ok q.2)) = true := by decide +kernel
theorem dX7_drop_0 : decode cX7_drop 0 = .ok (.aload_n 0, 1) := tb_d tk_X7_drop_1 0 (0, .aload_n 0, 1) rfl
theorem dX7_drop_1 : decode cX7_drop 1 = .ok (.iload_n 1, 1) := tb_d tk_X7_drop_1 1 (1, .iload_n 1, 1) rfl
theorem dX7_drop_2 : decode cX7_drop 2 = .ok (.invokevirtual 55, 3) := tb_d tk_X7_drop_1 2 (2, .invokevirtual 55, 3) rfl
theorem dX7_drop_5 : decode cX7_drop 5 = .ok (.ifCond .ne 6, 3) := tb_d tk_X7_drop_1 3 (5, .ifCond .ne 6, 3) rfl
theorem dX7_drop_8 : decode cX7_drop 8 = .ok (.ldc 59, 2) := tb_d tk_X7_drop_1 4 (8, .ldc 59, 2) rfl
theorem dX7_drop_10 : decode cX7_drop 10 = .ok (.ireturn, 1) := tb_d tk_X7_drop_1 5 (10, .ireturn, 1) rfl
theorem dX7_drop_11 : decode cX7_drop 11 = .ok (.aload_n 0, 1) := tb_d tk_X7_drop_1 6 (11, .aload_n 0, 1) rfl
theorem dX7_drop_12 : decode cX7_drop 12 = .ok (.getfield 11, 3) := tb_d tk_X7_drop_1 7 (12, .getfield 11, 3) rfl
theorem dX7_drop_15 : decode cX7_drop 15 = .ok (.iload_n 1, 1) := tb_d tk_X7_drop_1 8 (15, .iload_n 1, 1) rfl
theorem dX7_drop_16 : decode cX7_drop 16 = .ok (.aaload, 1) := tb_d tk_X7_drop_1 9 (16, .aaload, 1) rfl
theorem dX7_drop_17 : decode cX7_drop 17 = .ok (.getfield 78, 3) := tb_d tk_X7_drop_1 10 (17, .getfield 78, 3) rfl
theorem dX7_drop_20 : decode cX7_drop 20 = .ok (.iconst (-1), 1) := tb_d tk_X7_drop_1 11 (20, .iconst (-1), 1) rfl
theorem dX7_drop_21 : decode cX7_drop 21 = .ok (.if_icmp .ne 9, 3) := tb_d tk_X7_drop_1 12 (21, .if_icmp .ne 9, 3) rfl
theorem dX7_drop_24 : decode cX7_drop 24 = .ok (.aload_n 0, 1) := tb_d tk_X7_drop_1 13 (24, .aload_n 0, 1) rfl
theorem dX7_drop_25 : decode cX7_drop 25 = .ok (.iconst 1, 1) := tb_d tk_X7_drop_1 14 (25, .iconst 1, 1) rfl
theorem dX7_drop_26 : decode cX7_drop 26 = .ok (.invokevirtual 60, 3) := tb_d tk_X7_drop_1 15 (26, .invokevirtual 60, 3) rfl
theorem dX7_drop_29 : decode cX7_drop 29 = .ok (.ireturn, 1) := tb_d tk_X7_drop_1 16 (29, .ireturn, 1) rfl
theorem dX7_drop_30 : decode cX7_drop 30 = .ok (.aload_n 0, 1) := tb_d tk_X7_drop_1 17 (30, .aload_n 0, 1) rfl
theorem dX7_drop_31 : decode cX7_drop 31 = .ok (.getfield 11, 3) := tb_d tk_X7_drop_1 18 (31, .getfield 11, 3) rfl
theorem dX7_drop_34 : decode cX7_drop 34 = .ok (.iload_n 1, 1) := tb_d tk_X7_drop_1 19 (34, .iload_n 1, 1) rfl
theorem dX7_drop_35 : decode cX7_drop 35 = .ok (.aaload, 1) := tb_d tk_X7_drop_1 20 (35, .aaload, 1) rfl
theorem dX7_drop_36 : decode cX7_drop 36 = .ok (.iconst (-1), 1) := tb_d tk_X7_drop_1 21 (36, .iconst (-1), 1) rfl
theorem dX7_drop_37 : decode cX7_drop 37 = .ok (.putfield 78, 3) := tb_d tk_X7_drop_1 22 (37, .putfield 78, 3) rfl
theorem dX7_drop_40 : decode cX7_drop 40 = .ok (.aload_n 0, 1) := tb_d tk_X7_drop_1 23 (40, .aload_n 0, 1) rfl
theorem dX7_drop_41 : decode cX7_drop 41 = .ok (.aload_n 0, 1) := tb_d tk_X7_drop_1 24 (41, .aload_n 0, 1) rfl
theorem dX7_drop_42 : decode cX7_drop 42 = .ok (.getfield 11, 3) := tb_d tk_X7_drop_1 25 (42, .getfield 11, 3) rfl
theorem dX7_drop_45 : decode cX7_drop 45 = .ok (.iload_n 1, 1) := tb_d tk_X7_drop_1 26 (45, .iload_n 1, 1) rfl
theorem dX7_drop_46 : decode cX7_drop 46 = .ok (.aaload, 1) := tb_d tk_X7_drop_1 27 (46, .aaload, 1) rfl
theorem dX7_drop_47 : decode cX7_drop 47 = .ok (.getfield 96, 3) := tb_d tk_X7_drop_1 28 (47, .getfield 96, 3) rfl
theorem dX7_drop_50 : decode cX7_drop 50 = .ok (.invokevirtual 68, 3) := tb_d tk_X7_drop_1 29 (50, .invokevirtual 68, 3) rfl
theorem dX7_drop_53 : decode cX7_drop 53 = .ok (.ireturn, 1) := tb_d tk_X7_drop_1 30 (53, .ireturn, 1) rfl
theorem ggX7_feed_X6_append : GoodIn wsX7_feed wsX6_append := fun w h => ⟨List.mem_cons_of_mem _ (List.mem_append_right _ (List.mem_append_right _ (List.mem_append_right _ (List.mem_append_right _ (List.mem_append_left _ h))))), good_of_word (gdX6_append w h)⟩
set_option maxRecDepth 20000 in
theorem gX7_feed_X6_append : GoodIn wsX7_feed (wsV RX7 99 RX6 yX6_append wsX6_append) := goodIn_app (a := bkV RX7 99 RX6 yX6_append) (fun w h => ⟨List.mem_cons_of_mem _ (List.mem_append_right _ (List.mem_append_left _ h)), good_of_word (gd_bV _ _ _ _ w h)⟩) ggX7_feed_X6_append
def tb_X7_feed_1 : List (Nat × Instr × Nat) := [(0, .iload_n 1, 1), (1, .ifCond .lt 10, 3), (4, .iload_n 1, 1), (5, .sipush 255, 3), (8, .if_icmp .le 6, 3), (11, .ldc 59, 2), (13, .ireturn, 1), (14, .aload_n 0, 1), (15, .getfield 18, 3), (18, .iload_n 1, 1), (19, .invokevirtual 99, 3), (22, .ifCond .eq 13, 3), (25, .aload_n 0, 1), (26, .getfield 18, 3), (29, .getfield 102, 3), (32, .goto 5, 3), (35, .ldc 105, 2), (37, .ireturn, 1)]
set_option maxRecDepth 100000 in
theorem tk_X7_feed_1 : (tb_X7_feed_1.all fun q => decide (decode cX7_feed q.1 = .ok q.2)) = true := by decide +kernel
theorem dX7_feed_0 : decode cX7_feed 0 = .ok (.iload_n 1, 1) := tb_d tk_X7_feed_1 0 (0, .iload_n 1, 1) rfl
theorem dX7_feed_1 : decode cX7_feed 1 = .ok (.ifCond .lt 10, 3) := tb_d tk_X7_feed_1 1 (1, .ifCond .lt 10, 3) rfl
theorem dX7_feed_4 : decode cX7_feed 4 = .ok (.iload_n 1, 1) := tb_d tk_X7_feed_1 2 (4, .iload_n 1, 1) rfl
theorem dX7_feed_5 : decode cX7_feed 5 = .ok (.sipush 255, 3) := tb_d tk_X7_feed_1 3 (5, .sipush 255, 3) rfl
theorem dX7_feed_8 : decode cX7_feed 8 = .ok (.if_icmp .le 6, 3) := tb_d tk_X7_feed_1 4 (8, .if_icmp .le 6, 3) rfl
theorem dX7_feed_11 : decode cX7_feed 11 = .ok (.ldc 59, 2) := tb_d tk_X7_feed_1 5 (11, .ldc 59, 2) rfl
theorem dX7_feed_13 : decode cX7_feed 13 = .ok (.ireturn, 1) := tb_d tk_X7_feed_1 6 (13, .ireturn, 1) rfl
theorem dX7_feed_14 : decode cX7_feed 14 = .ok (.aload_n 0, 1) := tb_d tk_X7_feed_1 7 (14, .aload_n 0, 1) rfl
theorem dX7_feed_15 : decode cX7_feed 15 = .ok (.getfield 18, 3) := tb_d tk_X7_feed_1 8 (15, .getfield 18, 3) rfl
theorem dX7_feed_18 : decode cX7_feed 18 = .ok (.iload_n 1, 1) := tb_d tk_X7_feed_1 9 (18, .iload_n 1, 1) rfl
theorem dX7_feed_19 : decode cX7_feed 19 = .ok (.invokevirtual 99, 3) := tb_d tk_X7_feed_1 10 (19, .invokevirtual 99, 3) rfl
theorem dX7_feed_22 : decode cX7_feed 22 = .ok (.ifCond .eq 13, 3) := tb_d tk_X7_feed_1 11 (22, .ifCond .eq 13, 3) rfl
theorem dX7_feed_25 : decode cX7_feed 25 = .ok (.aload_n 0, 1) := tb_d tk_X7_feed_1 12 (25, .aload_n 0, 1) rfl
theorem dX7_feed_26 : decode cX7_feed 26 = .ok (.getfield 18, 3) := tb_d tk_X7_feed_1 13 (26, .getfield 18, 3) rfl
theorem dX7_feed_29 : decode cX7_feed 29 = .ok (.getfield 102, 3) := tb_d tk_X7_feed_1 14 (29, .getfield 102, 3) rfl
theorem dX7_feed_32 : decode cX7_feed 32 = .ok (.goto 5, 3) := tb_d tk_X7_feed_1 15 (32, .goto 5, 3) rfl
theorem dX7_feed_35 : decode cX7_feed 35 = .ok (.ldc 105, 2) := tb_d tk_X7_feed_1 16 (35, .ldc 105, 2) rfl
theorem dX7_feed_37 : decode cX7_feed 37 = .ok (.ireturn, 1) := tb_d tk_X7_feed_1 17 (37, .ireturn, 1) rfl
theorem ggX7_gate_X6_read : GoodIn wsX7_gate wsX6_read := fun w h => ⟨List.mem_cons_of_mem _ (List.mem_append_right _ (List.mem_append_right _ (List.mem_append_right _ (List.mem_append_right _ (List.mem_append_right _ (List.mem_append_right _ (List.mem_append_right _ (List.mem_append_right _ (List.mem_append_right _ (List.mem_append_left _ h)))))))))), good_of_word (gdX6_read w h)⟩
set_option maxRecDepth 20000 in
theorem gX7_gate_X6_read : GoodIn wsX7_gate (wsV RX7 106 RX6 yX6_read wsX6_read) := goodIn_app (a := bkV RX7 106 RX6 yX6_read) (fun w h => ⟨List.mem_cons_of_mem _ (List.mem_append_right _ (List.mem_append_left _ h)), good_of_word (gd_bV _ _ _ _ w h)⟩) ggX7_gate_X6_read
theorem ggX7_gate_X2_become : GoodIn wsX7_gate wsX2_become := fun w h => ⟨List.mem_cons_of_mem _ (List.mem_append_right _ (List.mem_append_right _ (List.mem_append_right _ (List.mem_append_right _ (List.mem_append_right _ (List.mem_append_right _ (List.mem_append_right _ (List.mem_append_right _ (List.mem_append_right _ (List.mem_append_right _ (List.mem_append_left _ h))))))))))), good_of_word (gdX2_become w h)⟩
set_option maxRecDepth 20000 in
theorem gX7_gate_X2_become : GoodIn wsX7_gate (wsV RX7 123 RX2 yX2_become wsX2_become) := goodIn_app (a := bkV RX7 123 RX2 yX2_become) (fun w h => ⟨List.mem_cons_of_mem _ (List.mem_append_right _ (List.mem_append_right _ (List.mem_append_left _ h))), good_of_word (gd_bV _ _ _ _ w h)⟩) ggX7_gate_X2_become
theorem ggX7_gate_X0_forget : GoodIn wsX7_gate wsX0_forget := fun w h => ⟨List.mem_cons_of_mem _ (List.mem_append_right _ (List.mem_append_right _ (List.mem_append_right _ (List.mem_append_right _ (List.mem_append_right _ (List.mem_append_right _ (List.mem_append_right _ (List.mem_append_right _ (List.mem_append_right _ (List.mem_append_right _ (List.mem_append_right _ (List.mem_append_left _ h)))))))))))), good_of_word (gdX0_forget w h)⟩
set_option maxRecDepth 20000 in
theorem gX7_gate_X0_forget : GoodIn wsX7_gate (wsV RX7 127 RX0 yX0_forget wsX0_forget) := goodIn_app (a := bkV RX7 127 RX0 yX0_forget) (fun w h => ⟨List.mem_cons_of_mem _ (List.mem_append_right _ (List.mem_append_right _ (List.mem_append_right _ (List.mem_append_left _ h)))), good_of_word (gd_bV _ _ _ _ w h)⟩) ggX7_gate_X0_forget
def tb_X7_gate_1 : List (Nat × Instr × Nat) := [(0, .aload_n 0, 1), (1, .getfield 18, 3), (4, .invokevirtual 106, 3), (7, .istore_n 1, 1), (8, .aload_n 0, 1), (9, .getfield 18, 3), (12, .iconst 0, 1), (13, .putfield 102, 3), (16, .iload_n 1, 1), (17, .ifCond .ne 25, 3), (20, .aload_n 0, 1), (21, .aload_n 0, 1), (22, .getfield 18, 3), (25, .getfield 110, 3), (28, .putfield 113, 3), (31, .ldc 116, 2), (33, .aload_n 0, 1), (34, .getfield 18, 3), (37, .getfield 117, 3), (40, .isub, 1), (41, .ireturn, 1), (42, .aload_n 0, 1), (43, .getfield 25, 3), (46, .aload_n 0, 1), (47, .getfield 18, 3), (50, .getfield 120, 3), (53, .invokevirtual 123, 3), (56, .aload_n 0, 1), (57, .getfield 32, 3), (60, .invokevirtual 127, 3), (63, .aload_n 0, 1), (64, .getfield 25, 3), (67, .getfield 130, 3), (70, .ireturn, 1)]
set_option maxRecDepth 100000 in
theorem tk_X7_gate_1 : (tb_X7_gate_1.all fun q => decide (decode cX7_gate q.1 = .ok q.2)) = true := by decide +kernel
theorem dX7_gate_0 : decode cX7_gate 0 = .ok (.aload_n 0, 1) := tb_d tk_X7_gate_1 0 (0, .aload_n 0, 1) rfl
theorem dX7_gate_1 : decode cX7_gate 1 = .ok (.getfield 18, 3) := tb_d tk_X7_gate_1 1 (1, .getfield 18, 3) rfl
theorem dX7_gate_4 : decode cX7_gate 4 = .ok (.invokevirtual 106, 3) := tb_d tk_X7_gate_1 2 (4, .invokevirtual 106, 3) rfl
theorem dX7_gate_7 : decode cX7_gate 7 = .ok (.istore_n 1, 1) := tb_d tk_X7_gate_1 3 (7, .istore_n 1, 1) rfl
theorem dX7_gate_8 : decode cX7_gate 8 = .ok (.aload_n 0, 1) := tb_d tk_X7_gate_1 4 (8, .aload_n 0, 1) rfl
theorem dX7_gate_9 : decode cX7_gate 9 = .ok (.getfield 18, 3) := tb_d tk_X7_gate_1 5 (9, .getfield 18, 3) rfl
theorem dX7_gate_12 : decode cX7_gate 12 = .ok (.iconst 0, 1) := tb_d tk_X7_gate_1 6 (12, .iconst 0, 1) rfl
theorem dX7_gate_13 : decode cX7_gate 13 = .ok (.putfield 102, 3) := tb_d tk_X7_gate_1 7 (13, .putfield 102, 3) rfl
theorem dX7_gate_16 : decode cX7_gate 16 = .ok (.iload_n 1, 1) := tb_d tk_X7_gate_1 8 (16, .iload_n 1, 1) rfl
theorem dX7_gate_17 : decode cX7_gate 17 = .ok (.ifCond .ne 25, 3) := tb_d tk_X7_gate_1 9 (17, .ifCond .ne 25, 3) rfl
theorem dX7_gate_20 : decode cX7_gate 20 = .ok (.aload_n 0, 1) := tb_d tk_X7_gate_1 10 (20, .aload_n 0, 1) rfl
theorem dX7_gate_21 : decode cX7_gate 21 = .ok (.aload_n 0, 1) := tb_d tk_X7_gate_1 11 (21, .aload_n 0, 1) rfl
theorem dX7_gate_22 : decode cX7_gate 22 = .ok (.getfield 18, 3) := tb_d tk_X7_gate_1 12 (22, .getfield 18, 3) rfl
theorem dX7_gate_25 : decode cX7_gate 25 = .ok (.getfield 110, 3) := tb_d tk_X7_gate_1 13 (25, .getfield 110, 3) rfl
theorem dX7_gate_28 : decode cX7_gate 28 = .ok (.putfield 113, 3) := tb_d tk_X7_gate_1 14 (28, .putfield 113, 3) rfl
theorem dX7_gate_31 : decode cX7_gate 31 = .ok (.ldc 116, 2) := tb_d tk_X7_gate_1 15 (31, .ldc 116, 2) rfl
theorem dX7_gate_33 : decode cX7_gate 33 = .ok (.aload_n 0, 1) := tb_d tk_X7_gate_1 16 (33, .aload_n 0, 1) rfl
theorem dX7_gate_34 : decode cX7_gate 34 = .ok (.getfield 18, 3) := tb_d tk_X7_gate_1 17 (34, .getfield 18, 3) rfl
theorem dX7_gate_37 : decode cX7_gate 37 = .ok (.getfield 117, 3) := tb_d tk_X7_gate_1 18 (37, .getfield 117, 3) rfl
theorem dX7_gate_40 : decode cX7_gate 40 = .ok (.isub, 1) := tb_d tk_X7_gate_1 19 (40, .isub, 1) rfl
theorem dX7_gate_41 : decode cX7_gate 41 = .ok (.ireturn, 1) := tb_d tk_X7_gate_1 20 (41, .ireturn, 1) rfl
theorem dX7_gate_42 : decode cX7_gate 42 = .ok (.aload_n 0, 1) := tb_d tk_X7_gate_1 21 (42, .aload_n 0, 1) rfl
theorem dX7_gate_43 : decode cX7_gate 43 = .ok (.getfield 25, 3) := tb_d tk_X7_gate_1 22 (43, .getfield 25, 3) rfl
theorem dX7_gate_46 : decode cX7_gate 46 = .ok (.aload_n 0, 1) := tb_d tk_X7_gate_1 23 (46, .aload_n 0, 1) rfl
theorem dX7_gate_47 : decode cX7_gate 47 = .ok (.getfield 18, 3) := tb_d tk_X7_gate_1 24 (47, .getfield 18, 3) rfl
theorem dX7_gate_50 : decode cX7_gate 50 = .ok (.getfield 120, 3) := tb_d tk_X7_gate_1 25 (50, .getfield 120, 3) rfl
theorem dX7_gate_53 : decode cX7_gate 53 = .ok (.invokevirtual 123, 3) := tb_d tk_X7_gate_1 26 (53, .invokevirtual 123, 3) rfl
theorem dX7_gate_56 : decode cX7_gate 56 = .ok (.aload_n 0, 1) := tb_d tk_X7_gate_1 27 (56, .aload_n 0, 1) rfl
theorem dX7_gate_57 : decode cX7_gate 57 = .ok (.getfield 32, 3) := tb_d tk_X7_gate_1 28 (57, .getfield 32, 3) rfl
theorem dX7_gate_60 : decode cX7_gate 60 = .ok (.invokevirtual 127, 3) := tb_d tk_X7_gate_1 29 (60, .invokevirtual 127, 3) rfl
theorem dX7_gate_63 : decode cX7_gate 63 = .ok (.aload_n 0, 1) := tb_d tk_X7_gate_1 30 (63, .aload_n 0, 1) rfl
theorem dX7_gate_64 : decode cX7_gate 64 = .ok (.getfield 25, 3) := tb_d tk_X7_gate_1 31 (64, .getfield 25, 3) rfl
theorem dX7_gate_67 : decode cX7_gate 67 = .ok (.getfield 130, 3) := tb_d tk_X7_gate_1 32 (67, .getfield 130, 3) rfl
theorem dX7_gate_70 : decode cX7_gate 70 = .ok (.ireturn, 1) := tb_d tk_X7_gate_1 33 (70, .ireturn, 1) rfl
def tb_X7_fault_1 : List (Nat × Instr × Nat) := [(0, .aload_n 0, 1), (1, .getfield 113, 3), (4, .ireturn, 1)]
set_option maxRecDepth 100000 in
theorem tk_X7_fault_1 : (tb_X7_fault_1.all fun q => decide (decode cX7_fault q.1 = .ok q.2)) = true := by decide +kernel
theorem dX7_fault_0 : decode cX7_fault 0 = .ok (.aload_n 0, 1) := tb_d tk_X7_fault_1 0 (0, .aload_n 0, 1) rfl
theorem dX7_fault_1 : decode cX7_fault 1 = .ok (.getfield 113, 3) := tb_d tk_X7_fault_1 1 (1, .getfield 113, 3) rfl
theorem dX7_fault_4 : decode cX7_fault 4 = .ok (.ireturn, 1) := tb_d tk_X7_fault_1 2 (4, .ireturn, 1) rfl
theorem ggX7_nights_X7_noGate : GoodIn wsX7_nights wsX7_noGate := fun w h => ⟨List.mem_cons_of_mem _ (List.mem_append_right _ (List.mem_append_right _ (List.mem_append_right _ (List.mem_append_right _ (List.mem_append_right _ (List.mem_append_right _ (List.mem_append_right _ (List.mem_append_right _ (List.mem_append_right _ (List.mem_append_left _ h)))))))))), good_of_word (gdX7_noGate w h)⟩
set_option maxRecDepth 20000 in
theorem gX7_nights_X7_noGate : GoodIn wsX7_nights (wsV RX7 133 RX7 yX7_noGate wsX7_noGate) := goodIn_app (a := bkV RX7 133 RX7 yX7_noGate) (fun w h => ⟨List.mem_cons_of_mem _ (List.mem_append_right _ (List.mem_append_left _ h)), good_of_word (gd_bV _ _ _ _ w h)⟩) ggX7_nights_X7_noGate
theorem ggX7_nights_X0_keep : GoodIn wsX7_nights wsX0_keep := fun w h => ⟨List.mem_cons_of_mem _ (List.mem_append_right _ (List.mem_append_right _ (List.mem_append_right _ (List.mem_append_right _ (List.mem_append_right _ (List.mem_append_right _ (List.mem_append_right _ (List.mem_append_right _ (List.mem_append_right _ (List.mem_append_right _ (List.mem_append_left _ h))))))))))), good_of_word (gdX0_keep w h)⟩
set_option maxRecDepth 20000 in
theorem gX7_nights_X0_keep : GoodIn wsX7_nights (wsV RX7 146 RX0 yX0_keep wsX0_keep) := goodIn_app (a := bkV RX7 146 RX0 yX0_keep) (fun w h => ⟨List.mem_cons_of_mem _ (List.mem_append_right _ (List.mem_append_right _ (List.mem_append_left _ h))), good_of_word (gd_bV _ _ _ _ w h)⟩) ggX7_nights_X0_keep
theorem ggX7_nights_X4_goBy : GoodIn wsX7_nights wsX4_goBy := fun w h => ⟨List.mem_cons_of_mem _ (List.mem_append_right _ (List.mem_append_right _ (List.mem_append_right _ (List.mem_append_right _ (List.mem_append_right _ (List.mem_append_right _ (List.mem_append_right _ (List.mem_append_right _ (List.mem_append_right _ (List.mem_append_right _ (List.mem_append_right _ (List.mem_append_left _ h)))))))))))), good_of_word (gdX4_goBy w h)⟩
set_option maxRecDepth 20000 in
theorem gX7_nights_X4_goBy : GoodIn wsX7_nights (wsV RX7 150 RX4 yX4_goBy wsX4_goBy) := goodIn_app (a := bkV RX7 150 RX4 yX4_goBy) (fun w h => ⟨List.mem_cons_of_mem _ (List.mem_append_right _ (List.mem_append_right _ (List.mem_append_right _ (List.mem_append_left _ h)))), good_of_word (gd_bV _ _ _ _ w h)⟩) ggX7_nights_X4_goBy
theorem ggX7_nights_X2_secretIn : GoodIn wsX7_nights wsX2_secretIn := fun w h => ⟨List.mem_cons_of_mem _ (List.mem_append_right _ (List.mem_append_right _ (List.mem_append_right _ (List.mem_append_right _ (List.mem_append_right _ (List.mem_append_right _ (List.mem_append_right _ (List.mem_append_right _ (List.mem_append_right _ (List.mem_append_right _ (List.mem_append_right _ (List.mem_append_right _ (List.mem_append_left _ h))))))))))))), good_of_word (gdX2_secretIn w h)⟩
set_option maxRecDepth 20000 in
theorem gX7_nights_X2_secretIn : GoodIn wsX7_nights (wsV RX7 153 RX2 yX2_secretIn wsX2_secretIn) := goodIn_app (a := bkV RX7 153 RX2 yX2_secretIn) (fun w h => ⟨List.mem_cons_of_mem _ (List.mem_append_right _ (List.mem_append_right _ (List.mem_append_right _ (List.mem_append_right _ (List.mem_append_left _ h))))), good_of_word (gd_bV _ _ _ _ w h)⟩) ggX7_nights_X2_secretIn
def tb_X7_nights_1 : List (Nat × Instr × Nat) := [(0, .aload_n 0, 1), (1, .invokevirtual 133, 3), (4, .ifCond .eq 6, 3), (7, .ldc 136, 2), (9, .ireturn, 1), (10, .iload_n 1, 1), (11, .iconst 1, 1), (12, .if_icmp .lt 9, 3), (15, .iload_n 1, 1), (16, .bipush 24, 2), (18, .if_icmp .le 6, 3), (21, .ldc 59, 2), (23, .ireturn, 1), (24, .aload_n 0, 1), (25, .getfield 25, 3), (28, .getfield 137, 3), (31, .getfield 141, 3), (34, .iload_n 1, 1), (35, .iadd, 1), (36, .sipush 999, 3), (39, .if_icmp .le 6, 3), (42, .ldc 105, 2), (44, .ireturn, 1), (45, .iconst 0, 1), (46, .istore_n 2, 1), (47, .iload_n 2, 1), (48, .iload_n 1, 1), (49, .if_icmp .ge 33, 3), (52, .aload_n 0, 1), (53, .getfield 32, 3), (56, .aload_n 0, 1), (57, .getfield 25, 3), (60, .getfield 137, 3), (63, .invokevirtual 146, 3), (66, .aload_n 0, 1), (67, .getfield 25, 3), (70, .getfield 137, 3), (73, .invokevirtual 150, 3), (76, .iinc 2 1, 3), (79, .goto (-32), 3)]
set_option maxRecDepth 100000 in
theorem tk_X7_nights_1 : (tb_X7_nights_1.all fun q => decide (decode cX7_nights q.1 = .ok q.2)) = true := by decide +kernel
theorem dX7_nights_0 : decode cX7_nights 0 = .ok (.aload_n 0, 1) := tb_d tk_X7_nights_1 0 (0, .aload_n 0, 1) rfl
theorem dX7_nights_1 : decode cX7_nights 1 = .ok (.invokevirtual 133, 3) := tb_d tk_X7_nights_1 1 (1, .invokevirtual 133, 3) rfl
theorem dX7_nights_4 : decode cX7_nights 4 = .ok (.ifCond .eq 6, 3) := tb_d tk_X7_nights_1 2 (4, .ifCond .eq 6, 3) rfl
theorem dX7_nights_7 : decode cX7_nights 7 = .ok (.ldc 136, 2) := tb_d tk_X7_nights_1 3 (7, .ldc 136, 2) rfl
theorem dX7_nights_9 : decode cX7_nights 9 = .ok (.ireturn, 1) := tb_d tk_X7_nights_1 4 (9, .ireturn, 1) rfl
theorem dX7_nights_10 : decode cX7_nights 10 = .ok (.iload_n 1, 1) := tb_d tk_X7_nights_1 5 (10, .iload_n 1, 1) rfl
theorem dX7_nights_11 : decode cX7_nights 11 = .ok (.iconst 1, 1) := tb_d tk_X7_nights_1 6 (11, .iconst 1, 1) rfl
theorem dX7_nights_12 : decode cX7_nights 12 = .ok (.if_icmp .lt 9, 3) := tb_d tk_X7_nights_1 7 (12, .if_icmp .lt 9, 3) rfl
theorem dX7_nights_15 : decode cX7_nights 15 = .ok (.iload_n 1, 1) := tb_d tk_X7_nights_1 8 (15, .iload_n 1, 1) rfl
theorem dX7_nights_16 : decode cX7_nights 16 = .ok (.bipush 24, 2) := tb_d tk_X7_nights_1 9 (16, .bipush 24, 2) rfl
theorem dX7_nights_18 : decode cX7_nights 18 = .ok (.if_icmp .le 6, 3) := tb_d tk_X7_nights_1 10 (18, .if_icmp .le 6, 3) rfl
theorem dX7_nights_21 : decode cX7_nights 21 = .ok (.ldc 59, 2) := tb_d tk_X7_nights_1 11 (21, .ldc 59, 2) rfl
theorem dX7_nights_23 : decode cX7_nights 23 = .ok (.ireturn, 1) := tb_d tk_X7_nights_1 12 (23, .ireturn, 1) rfl
theorem dX7_nights_24 : decode cX7_nights 24 = .ok (.aload_n 0, 1) := tb_d tk_X7_nights_1 13 (24, .aload_n 0, 1) rfl
theorem dX7_nights_25 : decode cX7_nights 25 = .ok (.getfield 25, 3) := tb_d tk_X7_nights_1 14 (25, .getfield 25, 3) rfl
theorem dX7_nights_28 : decode cX7_nights 28 = .ok (.getfield 137, 3) := tb_d tk_X7_nights_1 15 (28, .getfield 137, 3) rfl
theorem dX7_nights_31 : decode cX7_nights 31 = .ok (.getfield 141, 3) := tb_d tk_X7_nights_1 16 (31, .getfield 141, 3) rfl
theorem dX7_nights_34 : decode cX7_nights 34 = .ok (.iload_n 1, 1) := tb_d tk_X7_nights_1 17 (34, .iload_n 1, 1) rfl
theorem dX7_nights_35 : decode cX7_nights 35 = .ok (.iadd, 1) := tb_d tk_X7_nights_1 18 (35, .iadd, 1) rfl
theorem dX7_nights_36 : decode cX7_nights 36 = .ok (.sipush 999, 3) := tb_d tk_X7_nights_1 19 (36, .sipush 999, 3) rfl
theorem dX7_nights_39 : decode cX7_nights 39 = .ok (.if_icmp .le 6, 3) := tb_d tk_X7_nights_1 20 (39, .if_icmp .le 6, 3) rfl
theorem dX7_nights_42 : decode cX7_nights 42 = .ok (.ldc 105, 2) := tb_d tk_X7_nights_1 21 (42, .ldc 105, 2) rfl
theorem dX7_nights_44 : decode cX7_nights 44 = .ok (.ireturn, 1) := tb_d tk_X7_nights_1 22 (44, .ireturn, 1) rfl
theorem dX7_nights_45 : decode cX7_nights 45 = .ok (.iconst 0, 1) := tb_d tk_X7_nights_1 23 (45, .iconst 0, 1) rfl
theorem dX7_nights_46 : decode cX7_nights 46 = .ok (.istore_n 2, 1) := tb_d tk_X7_nights_1 24 (46, .istore_n 2, 1) rfl
theorem dX7_nights_47 : decode cX7_nights 47 = .ok (.iload_n 2, 1) := tb_d tk_X7_nights_1 25 (47, .iload_n 2, 1) rfl
theorem dX7_nights_48 : decode cX7_nights 48 = .ok (.iload_n 1, 1) := tb_d tk_X7_nights_1 26 (48, .iload_n 1, 1) rfl
theorem dX7_nights_49 : decode cX7_nights 49 = .ok (.if_icmp .ge 33, 3) := tb_d tk_X7_nights_1 27 (49, .if_icmp .ge 33, 3) rfl
theorem dX7_nights_52 : decode cX7_nights 52 = .ok (.aload_n 0, 1) := tb_d tk_X7_nights_1 28 (52, .aload_n 0, 1) rfl
theorem dX7_nights_53 : decode cX7_nights 53 = .ok (.getfield 32, 3) := tb_d tk_X7_nights_1 29 (53, .getfield 32, 3) rfl
theorem dX7_nights_56 : decode cX7_nights 56 = .ok (.aload_n 0, 1) := tb_d tk_X7_nights_1 30 (56, .aload_n 0, 1) rfl
theorem dX7_nights_57 : decode cX7_nights 57 = .ok (.getfield 25, 3) := tb_d tk_X7_nights_1 31 (57, .getfield 25, 3) rfl
theorem dX7_nights_60 : decode cX7_nights 60 = .ok (.getfield 137, 3) := tb_d tk_X7_nights_1 32 (60, .getfield 137, 3) rfl
theorem dX7_nights_63 : decode cX7_nights 63 = .ok (.invokevirtual 146, 3) := tb_d tk_X7_nights_1 33 (63, .invokevirtual 146, 3) rfl
theorem dX7_nights_66 : decode cX7_nights 66 = .ok (.aload_n 0, 1) := tb_d tk_X7_nights_1 34 (66, .aload_n 0, 1) rfl
theorem dX7_nights_67 : decode cX7_nights 67 = .ok (.getfield 25, 3) := tb_d tk_X7_nights_1 35 (67, .getfield 25, 3) rfl
theorem dX7_nights_70 : decode cX7_nights 70 = .ok (.getfield 137, 3) := tb_d tk_X7_nights_1 36 (70, .getfield 137, 3) rfl
theorem dX7_nights_73 : decode cX7_nights 73 = .ok (.invokevirtual 150, 3) := tb_d tk_X7_nights_1 37 (73, .invokevirtual 150, 3) rfl
theorem dX7_nights_76 : decode cX7_nights 76 = .ok (.iinc 2 1, 3) := tb_d tk_X7_nights_1 38 (76, .iinc 2 1, 3) rfl
theorem dX7_nights_79 : decode cX7_nights 79 = .ok (.goto (-32), 3) := tb_d tk_X7_nights_1 39 (79, .goto (-32), 3) rfl
def tb_X7_nights_2 : List (Nat × Instr × Nat) := [(82, .aload_n 0, 1), (83, .getfield 25, 3), (86, .iconst 0, 1), (87, .invokevirtual 153, 3), (90, .ireturn, 1)]
set_option maxRecDepth 100000 in
theorem tk_X7_nights_2 : (tb_X7_nights_2.all fun q => decide (decode cX7_nights q.1 = .ok q.2)) = true := by decide +kernel
theorem dX7_nights_82 : decode cX7_nights 82 = .ok (.aload_n 0, 1) := tb_d tk_X7_nights_2 0 (82, .aload_n 0, 1) rfl
theorem dX7_nights_83 : decode cX7_nights 83 = .ok (.getfield 25, 3) := tb_d tk_X7_nights_2 1 (83, .getfield 25, 3) rfl
theorem dX7_nights_86 : decode cX7_nights 86 = .ok (.iconst 0, 1) := tb_d tk_X7_nights_2 2 (86, .iconst 0, 1) rfl
theorem dX7_nights_87 : decode cX7_nights 87 = .ok (.invokevirtual 153, 3) := tb_d tk_X7_nights_2 3 (87, .invokevirtual 153, 3) rfl
theorem dX7_nights_90 : decode cX7_nights 90 = .ok (.ireturn, 1) := tb_d tk_X7_nights_2 4 (90, .ireturn, 1) rfl
theorem ggX7_say_X7_isWord : GoodIn wsX7_say wsX7_isWord := fun w h => ⟨List.mem_cons_of_mem _ (List.mem_append_right _ (List.mem_append_right _ (List.mem_append_right _ (List.mem_append_right _ (List.mem_append_right _ (List.mem_append_right _ (List.mem_append_right _ (List.mem_append_right _ (List.mem_append_right _ (List.mem_append_right _ (List.mem_append_right _ (List.mem_append_right _ (List.mem_append_right _ (List.mem_append_left _ h)))))))))))))), good_of_word (gdX7_isWord w h)⟩
set_option maxRecDepth 20000 in
theorem gX7_say_X7_isWord : GoodIn wsX7_say (wsV RX7 156 RX7 yX7_isWord wsX7_isWord) := goodIn_app (a := bkV RX7 156 RX7 yX7_isWord) (fun w h => ⟨List.mem_cons_of_mem _ (List.mem_append_right _ (List.mem_append_left _ h)), good_of_word (gd_bV _ _ _ _ w h)⟩) ggX7_say_X7_isWord
theorem ggX7_say_X7_isHour : GoodIn wsX7_say wsX7_isHour := fun w h => ⟨List.mem_cons_of_mem _ (List.mem_append_right _ (List.mem_append_right _ (List.mem_append_right _ (List.mem_append_right _ (List.mem_append_right _ (List.mem_append_right _ (List.mem_append_right _ (List.mem_append_right _ (List.mem_append_right _ (List.mem_append_right _ (List.mem_append_right _ (List.mem_append_right _ (List.mem_append_right _ (List.mem_append_right _ (List.mem_append_left _ h))))))))))))))), good_of_word (gdX7_isHour w h)⟩
set_option maxRecDepth 20000 in
theorem gX7_say_X7_isHour : GoodIn wsX7_say (wsV RX7 159 RX7 yX7_isHour wsX7_isHour) := goodIn_app (a := bkV RX7 159 RX7 yX7_isHour) (fun w h => ⟨List.mem_cons_of_mem _ (List.mem_append_right _ (List.mem_append_right _ (List.mem_append_left _ h))), good_of_word (gd_bV _ _ _ _ w h)⟩) ggX7_say_X7_isHour
theorem ggX7_say_X2_guardOn : GoodIn wsX7_say wsX2_guardOn := fun w h => ⟨List.mem_cons_of_mem _ (List.mem_append_right _ (List.mem_append_right _ (List.mem_append_right _ (List.mem_append_right _ (List.mem_append_right _ (List.mem_append_right _ (List.mem_append_right _ (List.mem_append_right _ (List.mem_append_right _ (List.mem_append_right _ (List.mem_append_right _ (List.mem_append_right _ (List.mem_append_right _ (List.mem_append_right _ (List.mem_append_right _ (List.mem_append_left _ h)))))))))))))))), good_of_word (gdX2_guardOn w h)⟩
set_option maxRecDepth 20000 in
theorem gX7_say_X2_guardOn : GoodIn wsX7_say (wsV RX7 165 RX2 yX2_guardOn wsX2_guardOn) := goodIn_app (a := bkV RX7 165 RX2 yX2_guardOn) (fun w h => ⟨List.mem_cons_of_mem _ (List.mem_append_right _ (List.mem_append_right _ (List.mem_append_right _ (List.mem_append_left _ h)))), good_of_word (gd_bV _ _ _ _ w h)⟩) ggX7_say_X2_guardOn
theorem ggX7_say_X2_catches : GoodIn wsX7_say wsX2_catches := fun w h => ⟨List.mem_cons_of_mem _ (List.mem_append_right _ (List.mem_append_right _ (List.mem_append_right _ (List.mem_append_right _ (List.mem_append_right _ (List.mem_append_right _ (List.mem_append_right _ (List.mem_append_right _ (List.mem_append_right _ (List.mem_append_right _ (List.mem_append_right _ (List.mem_append_right _ (List.mem_append_right _ (List.mem_append_right _ (List.mem_append_right _ (List.mem_append_right _ (List.mem_append_left _ h))))))))))))))))), good_of_word (gdX2_catches w h)⟩
set_option maxRecDepth 20000 in
theorem gX7_say_X2_catches : GoodIn wsX7_say (wsV RX7 168 RX2 yX2_catches wsX2_catches) := goodIn_app (a := bkV RX7 168 RX2 yX2_catches) (fun w h => ⟨List.mem_cons_of_mem _ (List.mem_append_right _ (List.mem_append_right _ (List.mem_append_right _ (List.mem_append_right _ (List.mem_append_left _ h))))), good_of_word (gd_bV _ _ _ _ w h)⟩) ggX7_say_X2_catches
theorem ggX7_say_X0_keep : GoodIn wsX7_say wsX0_keep := fun w h => ⟨List.mem_cons_of_mem _ (List.mem_append_right _ (List.mem_append_right _ (List.mem_append_right _ (List.mem_append_right _ (List.mem_append_right _ (List.mem_append_right _ (List.mem_append_right _ (List.mem_append_right _ (List.mem_append_right _ (List.mem_append_right _ (List.mem_append_right _ (List.mem_append_right _ (List.mem_append_right _ (List.mem_append_right _ (List.mem_append_right _ (List.mem_append_right _ (List.mem_append_right _ (List.mem_append_left _ h)))))))))))))))))), good_of_word (gdX0_keep w h)⟩
set_option maxRecDepth 20000 in
theorem gX7_say_X0_keep : GoodIn wsX7_say (wsV RX7 146 RX0 yX0_keep wsX0_keep) := goodIn_app (a := bkV RX7 146 RX0 yX0_keep) (fun w h => ⟨List.mem_cons_of_mem _ (List.mem_append_right _ (List.mem_append_right _ (List.mem_append_right _ (List.mem_append_right _ (List.mem_append_right _ (List.mem_append_left _ h)))))), good_of_word (gd_bV _ _ _ _ w h)⟩) ggX7_say_X0_keep
theorem ggX7_say_X2_isThere : GoodIn wsX7_say wsX2_isThere := fun w h => ⟨List.mem_cons_of_mem _ (List.mem_append_right _ (List.mem_append_right _ (List.mem_append_right _ (List.mem_append_right _ (List.mem_append_right _ (List.mem_append_right _ (List.mem_append_right _ (List.mem_append_right _ (List.mem_append_right _ (List.mem_append_right _ (List.mem_append_right _ (List.mem_append_right _ (List.mem_append_right _ (List.mem_append_right _ (List.mem_append_right _ (List.mem_append_right _ (List.mem_append_right _ (List.mem_append_right _ (List.mem_append_left _ h))))))))))))))))))), good_of_word (gdX2_isThere w h)⟩
set_option maxRecDepth 20000 in
theorem gX7_say_X2_isThere : GoodIn wsX7_say (wsV RX7 172 RX2 yX2_isThere wsX2_isThere) := goodIn_app (a := bkV RX7 172 RX2 yX2_isThere) (fun w h => ⟨List.mem_cons_of_mem _ (List.mem_append_right _ (List.mem_append_right _ (List.mem_append_right _ (List.mem_append_right _ (List.mem_append_right _ (List.mem_append_right _ (List.mem_append_left _ h))))))), good_of_word (gd_bV _ _ _ _ w h)⟩) ggX7_say_X2_isThere
theorem ggX7_say_X4_addTry : GoodIn wsX7_say wsX4_addTry := fun w h => ⟨List.mem_cons_of_mem _ (List.mem_append_right _ (List.mem_append_right _ (List.mem_append_right _ (List.mem_append_right _ (List.mem_append_right _ (List.mem_append_right _ (List.mem_append_right _ (List.mem_append_right _ (List.mem_append_right _ (List.mem_append_right _ (List.mem_append_right _ (List.mem_append_right _ (List.mem_append_right _ (List.mem_append_right _ (List.mem_append_right _ (List.mem_append_right _ (List.mem_append_right _ (List.mem_append_right _ (List.mem_append_right _ (List.mem_append_left _ h)))))))))))))))))))), good_of_word (gdX4_addTry w h)⟩
set_option maxRecDepth 20000 in
theorem gX7_say_X4_addTry : GoodIn wsX7_say (wsV RX7 176 RX4 yX4_addTry wsX4_addTry) := goodIn_app (a := bkV RX7 176 RX4 yX4_addTry) (fun w h => ⟨List.mem_cons_of_mem _ (List.mem_append_right _ (List.mem_append_right _ (List.mem_append_right _ (List.mem_append_right _ (List.mem_append_right _ (List.mem_append_right _ (List.mem_append_right _ (List.mem_append_left _ h)))))))), good_of_word (gd_bV _ _ _ _ w h)⟩) ggX7_say_X4_addTry
theorem ggX7_say_X7_bit : GoodIn wsX7_say wsX7_bit := fun w h => ⟨List.mem_cons_of_mem _ (List.mem_append_right _ (List.mem_append_right _ (List.mem_append_right _ (List.mem_append_right _ (List.mem_append_right _ (List.mem_append_right _ (List.mem_append_right _ (List.mem_append_right _ (List.mem_append_right _ (List.mem_append_right _ (List.mem_append_right _ (List.mem_append_right _ (List.mem_append_right _ (List.mem_append_right _ (List.mem_append_right _ (List.mem_append_right _ (List.mem_append_right _ (List.mem_append_right _ (List.mem_append_right _ (List.mem_append_right _ (List.mem_append_left _ h))))))))))))))))))))), good_of_word (gdX7_bit w h)⟩
set_option maxRecDepth 20000 in
theorem gX7_say_X7_bit : GoodIn wsX7_say (va_wsS RX7 180 yX7_bit wsX7_bit) := goodIn_app (a := bkS RX7 180 yX7_bit) (fun w h => ⟨List.mem_cons_of_mem _ (List.mem_append_right _ (List.mem_append_right _ (List.mem_append_right _ (List.mem_append_right _ (List.mem_append_right _ (List.mem_append_right _ (List.mem_append_right _ (List.mem_append_right _ (List.mem_append_left _ h))))))))), good_of_word (gd_bS _ _ _ w h)⟩) ggX7_say_X7_bit
def tb_X7_say_1 : List (Nat × Instr × Nat) := [(0, .aload_n 0, 1), (1, .iload_n 1, 1), (2, .invokevirtual 156, 3), (5, .ifCond .eq 11, 3), (8, .aload_n 0, 1), (9, .iload_n 2, 1), (10, .invokevirtual 159, 3), (13, .ifCond .ne 6, 3), (16, .ldc 59, 2), (18, .ireturn, 1), (19, .aload_n 0, 1), (20, .getfield 25, 3), (23, .getfield 137, 3), (26, .getfield 162, 3), (29, .bipush 9, 2), (31, .if_icmp .lt 6, 3), (34, .ldc 105, 2), (36, .ireturn, 1), (37, .aload_n 0, 1), (38, .getfield 25, 3), (41, .aload_n 0, 1), (42, .getfield 25, 3), (45, .getfield 137, 3), (48, .getfield 141, 3), (51, .iload_n 2, 1), (52, .invokevirtual 165, 3), (55, .istore_n 3, 1), (56, .aload_n 0, 1), (57, .getfield 25, 3), (60, .iload_n 1, 1), (61, .iload_n 2, 1), (62, .iconst 0, 1), (63, .invokevirtual 168, 3), (66, .istore 4, 2), (68, .aload_n 0, 1), (69, .getfield 32, 3), (72, .aload_n 0, 1), (73, .getfield 25, 3), (76, .getfield 137, 3), (79, .invokevirtual 146, 3)]
set_option maxRecDepth 100000 in
theorem tk_X7_say_1 : (tb_X7_say_1.all fun q => decide (decode cX7_say q.1 = .ok q.2)) = true := by decide +kernel
theorem dX7_say_0 : decode cX7_say 0 = .ok (.aload_n 0, 1) := tb_d tk_X7_say_1 0 (0, .aload_n 0, 1) rfl
theorem dX7_say_1 : decode cX7_say 1 = .ok (.iload_n 1, 1) := tb_d tk_X7_say_1 1 (1, .iload_n 1, 1) rfl
theorem dX7_say_2 : decode cX7_say 2 = .ok (.invokevirtual 156, 3) := tb_d tk_X7_say_1 2 (2, .invokevirtual 156, 3) rfl
theorem dX7_say_5 : decode cX7_say 5 = .ok (.ifCond .eq 11, 3) := tb_d tk_X7_say_1 3 (5, .ifCond .eq 11, 3) rfl
theorem dX7_say_8 : decode cX7_say 8 = .ok (.aload_n 0, 1) := tb_d tk_X7_say_1 4 (8, .aload_n 0, 1) rfl
theorem dX7_say_9 : decode cX7_say 9 = .ok (.iload_n 2, 1) := tb_d tk_X7_say_1 5 (9, .iload_n 2, 1) rfl
theorem dX7_say_10 : decode cX7_say 10 = .ok (.invokevirtual 159, 3) := tb_d tk_X7_say_1 6 (10, .invokevirtual 159, 3) rfl
theorem dX7_say_13 : decode cX7_say 13 = .ok (.ifCond .ne 6, 3) := tb_d tk_X7_say_1 7 (13, .ifCond .ne 6, 3) rfl
theorem dX7_say_16 : decode cX7_say 16 = .ok (.ldc 59, 2) := tb_d tk_X7_say_1 8 (16, .ldc 59, 2) rfl
theorem dX7_say_18 : decode cX7_say 18 = .ok (.ireturn, 1) := tb_d tk_X7_say_1 9 (18, .ireturn, 1) rfl
