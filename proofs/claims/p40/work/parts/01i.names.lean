theorem dX8_takesSo_48 : decode cX8_takesSo 48 = .ok (.iload_n 3, 1) := tb_d tk_X8_takesSo_1 27 (48, .iload_n 3, 1) rfl
theorem dX8_takesSo_49 : decode cX8_takesSo 49 = .ok (.iload 5, 2) := tb_d tk_X8_takesSo_1 28 (49, .iload 5, 2) rfl
theorem dX8_takesSo_51 : decode cX8_takesSo 51 = .ok (.iadd, 1) := tb_d tk_X8_takesSo_1 29 (51, .iadd, 1) rfl
theorem dX8_takesSo_52 : decode cX8_takesSo 52 = .ok (.iaload, 1) := tb_d tk_X8_takesSo_1 30 (52, .iaload, 1) rfl
theorem dX8_takesSo_53 : decode cX8_takesSo 53 = .ok (.if_icmp .ne 7, 3) := tb_d tk_X8_takesSo_1 31 (53, .if_icmp .ne 7, 3) rfl
theorem dX8_takesSo_56 : decode cX8_takesSo 56 = .ok (.iconst 1, 1) := tb_d tk_X8_takesSo_1 32 (56, .iconst 1, 1) rfl
theorem dX8_takesSo_57 : decode cX8_takesSo 57 = .ok (.goto 4, 3) := tb_d tk_X8_takesSo_1 33 (57, .goto 4, 3) rfl
theorem dX8_takesSo_60 : decode cX8_takesSo 60 = .ok (.iconst 0, 1) := tb_d tk_X8_takesSo_1 34 (60, .iconst 0, 1) rfl
theorem dX8_takesSo_61 : decode cX8_takesSo 61 = .ok (.istore 4, 2) := tb_d tk_X8_takesSo_1 35 (61, .istore 4, 2) rfl
theorem dX8_takesSo_63 : decode cX8_takesSo 63 = .ok (.iinc 5 1, 3) := tb_d tk_X8_takesSo_1 36 (63, .iinc 5 1, 3) rfl
theorem dX8_takesSo_66 : decode cX8_takesSo 66 = .ok (.goto (-60), 3) := tb_d tk_X8_takesSo_1 37 (66, .goto (-60), 3) rfl
theorem dX8_takesSo_69 : decode cX8_takesSo 69 = .ok (.iload 4, 2) := tb_d tk_X8_takesSo_1 38 (69, .iload 4, 2) rfl
theorem dX8_takesSo_71 : decode cX8_takesSo 71 = .ok (.ireturn, 1) := tb_d tk_X8_takesSo_1 39 (71, .ireturn, 1) rfl
theorem ggX8_fits_X8_isGuard : GoodIn wsX8_fits wsX8_isGuard := fun w h => ⟨List.mem_cons_of_mem _ (List.mem_append_right _ (List.mem_append_right _ (List.mem_append_right _ (List.mem_append_right _ (List.mem_append_right _ (List.mem_append_right _ (List.mem_append_right _ (List.mem_append_right _ (List.mem_append_right _ (List.mem_append_right _ (List.mem_append_right _ (List.mem_append_right _ (List.mem_append_left _ h))))))))))))), good_of_word (gdX8_isGuard w h)⟩
set_option maxRecDepth 20000 in
theorem gX8_fits_X8_isGuard : GoodIn wsX8_fits (wsV RX8 199 RX8 yX8_isGuard wsX8_isGuard) := goodIn_app (a := bkV RX8 199 RX8 yX8_isGuard) (fun w h => ⟨List.mem_cons_of_mem _ (List.mem_append_right _ (List.mem_append_left _ h)), good_of_word (gd_bV _ _ _ _ w h)⟩) ggX8_fits_X8_isGuard
theorem ggX8_fits_X8_isRow : GoodIn wsX8_fits wsX8_isRow := fun w h => ⟨List.mem_cons_of_mem _ (List.mem_append_right _ (List.mem_append_right _ (List.mem_append_right _ (List.mem_append_right _ (List.mem_append_right _ (List.mem_append_right _ (List.mem_append_right _ (List.mem_append_right _ (List.mem_append_right _ (List.mem_append_right _ (List.mem_append_right _ (List.mem_append_right _ (List.mem_append_right _ (List.mem_append_left _ h)))))))))))))), good_of_word (gdX8_isRow w h)⟩
set_option maxRecDepth 20000 in
theorem gX8_fits_X8_isRow : GoodIn wsX8_fits (va_wsS RX8 60 yX8_isRow wsX8_isRow) := goodIn_app (a := bkS RX8 60 yX8_isRow) (fun w h => ⟨List.mem_cons_of_mem _ (List.mem_append_right _ (List.mem_append_right _ (List.mem_append_left _ h))), good_of_word (gd_bS _ _ _ w h)⟩) ggX8_fits_X8_isRow
theorem ggX8_fits_X8_in : GoodIn wsX8_fits wsX8_in := fun w h => ⟨List.mem_cons_of_mem _ (List.mem_append_right _ (List.mem_append_right _ (List.mem_append_right _ (List.mem_append_right _ (List.mem_append_right _ (List.mem_append_right _ (List.mem_append_right _ (List.mem_append_right _ (List.mem_append_right _ (List.mem_append_right _ (List.mem_append_right _ (List.mem_append_right _ (List.mem_append_right _ (List.mem_append_right _ (List.mem_append_left _ h))))))))))))))), good_of_word (gdX8_in w h)⟩
set_option maxRecDepth 20000 in
theorem gX8_fits_X8_in : GoodIn wsX8_fits (va_wsS RX8 56 yX8_in wsX8_in) := goodIn_app (a := bkS RX8 56 yX8_in) (fun w h => ⟨List.mem_cons_of_mem _ (List.mem_append_right _ (List.mem_append_right _ (List.mem_append_right _ (List.mem_append_left _ h)))), good_of_word (gd_bS _ _ _ w h)⟩) ggX8_fits_X8_in
theorem ggX8_fits_X8_isMissing : GoodIn wsX8_fits wsX8_isMissing := fun w h => ⟨List.mem_cons_of_mem _ (List.mem_append_right _ (List.mem_append_right _ (List.mem_append_right _ (List.mem_append_right _ (List.mem_append_right _ (List.mem_append_right _ (List.mem_append_right _ (List.mem_append_right _ (List.mem_append_right _ (List.mem_append_right _ (List.mem_append_right _ (List.mem_append_right _ (List.mem_append_right _ (List.mem_append_right _ (List.mem_append_right _ (List.mem_append_left _ h)))))))))))))))), good_of_word (gdX8_isMissing w h)⟩
set_option maxRecDepth 20000 in
theorem gX8_fits_X8_isMissing : GoodIn wsX8_fits (wsV RX8 72 RX8 yX8_isMissing wsX8_isMissing) := goodIn_app (a := bkV RX8 72 RX8 yX8_isMissing) (fun w h => ⟨List.mem_cons_of_mem _ (List.mem_append_right _ (List.mem_append_right _ (List.mem_append_right _ (List.mem_append_right _ (List.mem_append_left _ h))))), good_of_word (gd_bV _ _ _ _ w h)⟩) ggX8_fits_X8_isMissing
theorem ggX8_fits_X8_found : GoodIn wsX8_fits wsX8_found := fun w h => ⟨List.mem_cons_of_mem _ (List.mem_append_right _ (List.mem_append_right _ (List.mem_append_right _ (List.mem_append_right _ (List.mem_append_right _ (List.mem_append_right _ (List.mem_append_right _ (List.mem_append_right _ (List.mem_append_right _ (List.mem_append_right _ (List.mem_append_right _ (List.mem_append_right _ (List.mem_append_right _ (List.mem_append_right _ (List.mem_append_right _ (List.mem_append_right _ (List.mem_append_left _ h))))))))))))))))), good_of_word (gdX8_found w h)⟩
set_option maxRecDepth 20000 in
theorem gX8_fits_X8_found : GoodIn wsX8_fits (wsV RX8 65 RX8 yX8_found wsX8_found) := goodIn_app (a := bkV RX8 65 RX8 yX8_found) (fun w h => ⟨List.mem_cons_of_mem _ (List.mem_append_right _ (List.mem_append_right _ (List.mem_append_right _ (List.mem_append_right _ (List.mem_append_right _ (List.mem_append_left _ h)))))), good_of_word (gd_bV _ _ _ _ w h)⟩) ggX8_fits_X8_found
theorem ggX8_fits_X8_isPart : GoodIn wsX8_fits wsX8_isPart := fun w h => ⟨List.mem_cons_of_mem _ (List.mem_append_right _ (List.mem_append_right _ (List.mem_append_right _ (List.mem_append_right _ (List.mem_append_right _ (List.mem_append_right _ (List.mem_append_right _ (List.mem_append_right _ (List.mem_append_right _ (List.mem_append_right _ (List.mem_append_right _ (List.mem_append_right _ (List.mem_append_right _ (List.mem_append_right _ (List.mem_append_right _ (List.mem_append_right _ (List.mem_append_right _ (List.mem_append_left _ h)))))))))))))))))), good_of_word (gdX8_isPart w h)⟩
set_option maxRecDepth 20000 in
theorem gX8_fits_X8_isPart : GoodIn wsX8_fits (wsV RX8 79 RX8 yX8_isPart wsX8_isPart) := goodIn_app (a := bkV RX8 79 RX8 yX8_isPart) (fun w h => ⟨List.mem_cons_of_mem _ (List.mem_append_right _ (List.mem_append_right _ (List.mem_append_right _ (List.mem_append_right _ (List.mem_append_right _ (List.mem_append_right _ (List.mem_append_left _ h))))))), good_of_word (gd_bV _ _ _ _ w h)⟩) ggX8_fits_X8_isPart
theorem ggX8_fits_X8_secretOf : GoodIn wsX8_fits wsX8_secretOf := fun w h => ⟨List.mem_cons_of_mem _ (List.mem_append_right _ (List.mem_append_right _ (List.mem_append_right _ (List.mem_append_right _ (List.mem_append_right _ (List.mem_append_right _ (List.mem_append_right _ (List.mem_append_right _ (List.mem_append_right _ (List.mem_append_right _ (List.mem_append_right _ (List.mem_append_right _ (List.mem_append_right _ (List.mem_append_right _ (List.mem_append_right _ (List.mem_append_right _ (List.mem_append_right _ (List.mem_append_right _ (List.mem_append_left _ h))))))))))))))))))), good_of_word (gdX8_secretOf w h)⟩
set_option maxRecDepth 20000 in
theorem gX8_fits_X8_secretOf : GoodIn wsX8_fits (va_wsS RX8 172 yX8_secretOf wsX8_secretOf) := goodIn_app (a := bkS RX8 172 yX8_secretOf) (fun w h => ⟨List.mem_cons_of_mem _ (List.mem_append_right _ (List.mem_append_right _ (List.mem_append_right _ (List.mem_append_right _ (List.mem_append_right _ (List.mem_append_right _ (List.mem_append_right _ (List.mem_append_left _ h)))))))), good_of_word (gd_bS _ _ _ w h)⟩) ggX8_fits_X8_secretOf
theorem ggX8_fits_X8_takesSo : GoodIn wsX8_fits wsX8_takesSo := fun w h => ⟨List.mem_cons_of_mem _ (List.mem_append_right _ (List.mem_append_right _ (List.mem_append_right _ (List.mem_append_right _ (List.mem_append_right _ (List.mem_append_right _ (List.mem_append_right _ (List.mem_append_right _ (List.mem_append_right _ (List.mem_append_right _ (List.mem_append_right _ (List.mem_append_right _ (List.mem_append_right _ (List.mem_append_right _ (List.mem_append_right _ (List.mem_append_right _ (List.mem_append_right _ (List.mem_append_right _ (List.mem_append_right _ (List.mem_append_left _ h)))))))))))))))))))), good_of_word (gdX8_takesSo w h)⟩
set_option maxRecDepth 20000 in
theorem gX8_fits_X8_takesSo : GoodIn wsX8_fits (wsV RX8 227 RX8 yX8_takesSo wsX8_takesSo) := goodIn_app (a := bkV RX8 227 RX8 yX8_takesSo) (fun w h => ⟨List.mem_cons_of_mem _ (List.mem_append_right _ (List.mem_append_right _ (List.mem_append_right _ (List.mem_append_right _ (List.mem_append_right _ (List.mem_append_right _ (List.mem_append_right _ (List.mem_append_right _ (List.mem_append_left _ h))))))))), good_of_word (gd_bV _ _ _ _ w h)⟩) ggX8_fits_X8_takesSo
theorem ggX8_fits_X8_kindIn : GoodIn wsX8_fits wsX8_kindIn := fun w h => ⟨List.mem_cons_of_mem _ (List.mem_append_right _ (List.mem_append_right _ (List.mem_append_right _ (List.mem_append_right _ (List.mem_append_right _ (List.mem_append_right _ (List.mem_append_right _ (List.mem_append_right _ (List.mem_append_right _ (List.mem_append_right _ (List.mem_append_right _ (List.mem_append_right _ (List.mem_append_right _ (List.mem_append_right _ (List.mem_append_right _ (List.mem_append_right _ (List.mem_append_right _ (List.mem_append_right _ (List.mem_append_right _ (List.mem_append_right _ (List.mem_append_left _ h))))))))))))))))))))), good_of_word (gdX8_kindIn w h)⟩
set_option maxRecDepth 20000 in
theorem gX8_fits_X8_kindIn : GoodIn wsX8_fits (wsV RX8 165 RX8 yX8_kindIn wsX8_kindIn) := goodIn_app (a := bkV RX8 165 RX8 yX8_kindIn) (fun w h => ⟨List.mem_cons_of_mem _ (List.mem_append_right _ (List.mem_append_right _ (List.mem_append_right _ (List.mem_append_right _ (List.mem_append_right _ (List.mem_append_right _ (List.mem_append_right _ (List.mem_append_right _ (List.mem_append_right _ (List.mem_append_left _ h)))))))))), good_of_word (gd_bV _ _ _ _ w h)⟩) ggX8_fits_X8_kindIn
theorem ggX8_fits_X8_well : GoodIn wsX8_fits wsX8_well := fun w h => ⟨List.mem_cons_of_mem _ (List.mem_append_right _ (List.mem_append_right _ (List.mem_append_right _ (List.mem_append_right _ (List.mem_append_right _ (List.mem_append_right _ (List.mem_append_right _ (List.mem_append_right _ (List.mem_append_right _ (List.mem_append_right _ (List.mem_append_right _ (List.mem_append_right _ (List.mem_append_right _ (List.mem_append_right _ (List.mem_append_right _ (List.mem_append_right _ (List.mem_append_right _ (List.mem_append_right _ (List.mem_append_right _ (List.mem_append_right _ (List.mem_append_right _ (List.mem_append_left _ h)))))))))))))))))))))), good_of_word (gdX8_well w h)⟩
set_option maxRecDepth 20000 in
theorem gX8_fits_X8_well : GoodIn wsX8_fits (wsV RX8 69 RX8 yX8_well wsX8_well) := goodIn_app (a := bkV RX8 69 RX8 yX8_well) (fun w h => ⟨List.mem_cons_of_mem _ (List.mem_append_right _ (List.mem_append_right _ (List.mem_append_right _ (List.mem_append_right _ (List.mem_append_right _ (List.mem_append_right _ (List.mem_append_right _ (List.mem_append_right _ (List.mem_append_right _ (List.mem_append_right _ (List.mem_append_left _ h))))))))))), good_of_word (gd_bV _ _ _ _ w h)⟩) ggX8_fits_X8_well
def tb_X8_fits_1 : List (Nat × Instr × Nat) := [(0, .aload_n 0, 1), (1, .iload_n 1, 1), (2, .invokevirtual 199, 3), (5, .ifCond .eq 20, 3), (8, .iload_n 2, 1), (9, .invokestatic 60, 3), (12, .ifCond .eq 13, 3), (15, .iload 4, 2), (17, .iconst 0, 1), (18, .iconst 1, 1), (19, .invokestatic 56, 3), (22, .ifCond .ne 6, 3), (25, .ldc 64, 2), (27, .ireturn, 1), (28, .aload_n 0, 1), (29, .iload_n 2, 1), (30, .invokevirtual 72, 3), (33, .ifCond .eq 9, 3), (36, .aload_n 0, 1), (37, .iconst 1, 1), (38, .invokevirtual 65, 3), (41, .ireturn, 1), (42, .aload_n 0, 1), (43, .iload_n 2, 1), (44, .iload_n 3, 1), (45, .aload_n 0, 1), (46, .getfield 25, 3), (49, .iconst 3, 1), (50, .iaload, 1), (51, .invokevirtual 79, 3), (54, .ifCond .ne 9, 3), (57, .aload_n 0, 1), (58, .iconst 2, 1), (59, .invokevirtual 65, 3), (62, .ireturn, 1), (63, .bipush 40, 2), (65, .iload_n 2, 1), (66, .imul, 1), (67, .iload_n 3, 1), (68, .iadd, 1)]
set_option maxRecDepth 100000 in
theorem tk_X8_fits_1 : (tb_X8_fits_1.all fun q => decide (decode cX8_fits q.1 = .ok q.2)) = true := by decide +kernel
theorem dX8_fits_0 : decode cX8_fits 0 = .ok (.aload_n 0, 1) := tb_d tk_X8_fits_1 0 (0, .aload_n 0, 1) rfl
theorem dX8_fits_1 : decode cX8_fits 1 = .ok (.iload_n 1, 1) := tb_d tk_X8_fits_1 1 (1, .iload_n 1, 1) rfl
theorem dX8_fits_2 : decode cX8_fits 2 = .ok (.invokevirtual 199, 3) := tb_d tk_X8_fits_1 2 (2, .invokevirtual 199, 3) rfl
theorem dX8_fits_5 : decode cX8_fits 5 = .ok (.ifCond .eq 20, 3) := tb_d tk_X8_fits_1 3 (5, .ifCond .eq 20, 3) rfl
theorem dX8_fits_8 : decode cX8_fits 8 = .ok (.iload_n 2, 1) := tb_d tk_X8_fits_1 4 (8, .iload_n 2, 1) rfl
theorem dX8_fits_9 : decode cX8_fits 9 = .ok (.invokestatic 60, 3) := tb_d tk_X8_fits_1 5 (9, .invokestatic 60, 3) rfl
theorem dX8_fits_12 : decode cX8_fits 12 = .ok (.ifCond .eq 13, 3) := tb_d tk_X8_fits_1 6 (12, .ifCond .eq 13, 3) rfl
theorem dX8_fits_15 : decode cX8_fits 15 = .ok (.iload 4, 2) := tb_d tk_X8_fits_1 7 (15, .iload 4, 2) rfl
theorem dX8_fits_17 : decode cX8_fits 17 = .ok (.iconst 0, 1) := tb_d tk_X8_fits_1 8 (17, .iconst 0, 1) rfl
theorem dX8_fits_18 : decode cX8_fits 18 = .ok (.iconst 1, 1) := tb_d tk_X8_fits_1 9 (18, .iconst 1, 1) rfl
theorem dX8_fits_19 : decode cX8_fits 19 = .ok (.invokestatic 56, 3) := tb_d tk_X8_fits_1 10 (19, .invokestatic 56, 3) rfl
theorem dX8_fits_22 : decode cX8_fits 22 = .ok (.ifCond .ne 6, 3) := tb_d tk_X8_fits_1 11 (22, .ifCond .ne 6, 3) rfl
theorem dX8_fits_25 : decode cX8_fits 25 = .ok (.ldc 64, 2) := tb_d tk_X8_fits_1 12 (25, .ldc 64, 2) rfl
theorem dX8_fits_27 : decode cX8_fits 27 = .ok (.ireturn, 1) := tb_d tk_X8_fits_1 13 (27, .ireturn, 1) rfl
theorem dX8_fits_28 : decode cX8_fits 28 = .ok (.aload_n 0, 1) := tb_d tk_X8_fits_1 14 (28, .aload_n 0, 1) rfl
theorem dX8_fits_29 : decode cX8_fits 29 = .ok (.iload_n 2, 1) := tb_d tk_X8_fits_1 15 (29, .iload_n 2, 1) rfl
theorem dX8_fits_30 : decode cX8_fits 30 = .ok (.invokevirtual 72, 3) := tb_d tk_X8_fits_1 16 (30, .invokevirtual 72, 3) rfl
theorem dX8_fits_33 : decode cX8_fits 33 = .ok (.ifCond .eq 9, 3) := tb_d tk_X8_fits_1 17 (33, .ifCond .eq 9, 3) rfl
theorem dX8_fits_36 : decode cX8_fits 36 = .ok (.aload_n 0, 1) := tb_d tk_X8_fits_1 18 (36, .aload_n 0, 1) rfl
theorem dX8_fits_37 : decode cX8_fits 37 = .ok (.iconst 1, 1) := tb_d tk_X8_fits_1 19 (37, .iconst 1, 1) rfl
theorem dX8_fits_38 : decode cX8_fits 38 = .ok (.invokevirtual 65, 3) := tb_d tk_X8_fits_1 20 (38, .invokevirtual 65, 3) rfl
theorem dX8_fits_41 : decode cX8_fits 41 = .ok (.ireturn, 1) := tb_d tk_X8_fits_1 21 (41, .ireturn, 1) rfl
theorem dX8_fits_42 : decode cX8_fits 42 = .ok (.aload_n 0, 1) := tb_d tk_X8_fits_1 22 (42, .aload_n 0, 1) rfl
theorem dX8_fits_43 : decode cX8_fits 43 = .ok (.iload_n 2, 1) := tb_d tk_X8_fits_1 23 (43, .iload_n 2, 1) rfl
theorem dX8_fits_44 : decode cX8_fits 44 = .ok (.iload_n 3, 1) := tb_d tk_X8_fits_1 24 (44, .iload_n 3, 1) rfl
theorem dX8_fits_45 : decode cX8_fits 45 = .ok (.aload_n 0, 1) := tb_d tk_X8_fits_1 25 (45, .aload_n 0, 1) rfl
theorem dX8_fits_46 : decode cX8_fits 46 = .ok (.getfield 25, 3) := tb_d tk_X8_fits_1 26 (46, .getfield 25, 3) rfl
theorem dX8_fits_49 : decode cX8_fits 49 = .ok (.iconst 3, 1) := tb_d tk_X8_fits_1 27 (49, .iconst 3, 1) rfl
theorem dX8_fits_50 : decode cX8_fits 50 = .ok (.iaload, 1) := tb_d tk_X8_fits_1 28 (50, .iaload, 1) rfl
theorem dX8_fits_51 : decode cX8_fits 51 = .ok (.invokevirtual 79, 3) := tb_d tk_X8_fits_1 29 (51, .invokevirtual 79, 3) rfl
theorem dX8_fits_54 : decode cX8_fits 54 = .ok (.ifCond .ne 9, 3) := tb_d tk_X8_fits_1 30 (54, .ifCond .ne 9, 3) rfl
theorem dX8_fits_57 : decode cX8_fits 57 = .ok (.aload_n 0, 1) := tb_d tk_X8_fits_1 31 (57, .aload_n 0, 1) rfl
theorem dX8_fits_58 : decode cX8_fits 58 = .ok (.iconst 2, 1) := tb_d tk_X8_fits_1 32 (58, .iconst 2, 1) rfl
theorem dX8_fits_59 : decode cX8_fits 59 = .ok (.invokevirtual 65, 3) := tb_d tk_X8_fits_1 33 (59, .invokevirtual 65, 3) rfl
theorem dX8_fits_62 : decode cX8_fits 62 = .ok (.ireturn, 1) := tb_d tk_X8_fits_1 34 (62, .ireturn, 1) rfl
theorem dX8_fits_63 : decode cX8_fits 63 = .ok (.bipush 40, 2) := tb_d tk_X8_fits_1 35 (63, .bipush 40, 2) rfl
theorem dX8_fits_65 : decode cX8_fits 65 = .ok (.iload_n 2, 1) := tb_d tk_X8_fits_1 36 (65, .iload_n 2, 1) rfl
theorem dX8_fits_66 : decode cX8_fits 66 = .ok (.imul, 1) := tb_d tk_X8_fits_1 37 (66, .imul, 1) rfl
theorem dX8_fits_67 : decode cX8_fits 67 = .ok (.iload_n 3, 1) := tb_d tk_X8_fits_1 38 (67, .iload_n 3, 1) rfl
theorem dX8_fits_68 : decode cX8_fits 68 = .ok (.iadd, 1) := tb_d tk_X8_fits_1 39 (68, .iadd, 1) rfl
def tb_X8_fits_2 : List (Nat × Instr × Nat) := [(69, .istore 5, 2), (71, .iconst 0, 1), (72, .istore 6, 2), (74, .iconst 1, 1), (75, .istore 7, 2), (77, .iload 7, 2), (79, .bipush 6, 2), (81, .if_icmp .ge 51, 3), (84, .iload 4, 2), (86, .ifCond .ne 46, 3), (89, .iload 6, 2), (91, .aload_n 0, 1), (92, .iload 7, 2), (94, .aload_n 0, 1), (95, .getfield 25, 3), (98, .aload_n 0, 1), (99, .getfield 25, 3), (102, .iconst 5, 1), (103, .iaload, 1), (104, .invokestatic 172, 3), (107, .iload 5, 2), (109, .invokevirtual 227, 3), (112, .ifCond .eq 10, 3), (115, .iconst 1, 1), (116, .iload 7, 2), (118, .ishl, 1), (119, .goto 4, 3), (122, .iconst 0, 1), (123, .ior, 1), (124, .istore 6, 2), (126, .iinc 7 1, 3), (129, .goto (-52), 3), (132, .iconst 0, 1), (133, .istore 7, 2), (135, .iload 7, 2), (137, .aload_n 0, 1), (138, .getfield 25, 3), (141, .iconst 3, 1), (142, .iaload, 1), (143, .if_icmp .ge 44, 3)]
set_option maxRecDepth 100000 in
theorem tk_X8_fits_2 : (tb_X8_fits_2.all fun q => decide (decode cX8_fits q.1 = .ok q.2)) = true := by decide +kernel
theorem dX8_fits_69 : decode cX8_fits 69 = .ok (.istore 5, 2) := tb_d tk_X8_fits_2 0 (69, .istore 5, 2) rfl
theorem dX8_fits_71 : decode cX8_fits 71 = .ok (.iconst 0, 1) := tb_d tk_X8_fits_2 1 (71, .iconst 0, 1) rfl
theorem dX8_fits_72 : decode cX8_fits 72 = .ok (.istore 6, 2) := tb_d tk_X8_fits_2 2 (72, .istore 6, 2) rfl
theorem dX8_fits_74 : decode cX8_fits 74 = .ok (.iconst 1, 1) := tb_d tk_X8_fits_2 3 (74, .iconst 1, 1) rfl
theorem dX8_fits_75 : decode cX8_fits 75 = .ok (.istore 7, 2) := tb_d tk_X8_fits_2 4 (75, .istore 7, 2) rfl
theorem dX8_fits_77 : decode cX8_fits 77 = .ok (.iload 7, 2) := tb_d tk_X8_fits_2 5 (77, .iload 7, 2) rfl
theorem dX8_fits_79 : decode cX8_fits 79 = .ok (.bipush 6, 2) := tb_d tk_X8_fits_2 6 (79, .bipush 6, 2) rfl
theorem dX8_fits_81 : decode cX8_fits 81 = .ok (.if_icmp .ge 51, 3) := tb_d tk_X8_fits_2 7 (81, .if_icmp .ge 51, 3) rfl
theorem dX8_fits_84 : decode cX8_fits 84 = .ok (.iload 4, 2) := tb_d tk_X8_fits_2 8 (84, .iload 4, 2) rfl
theorem dX8_fits_86 : decode cX8_fits 86 = .ok (.ifCond .ne 46, 3) := tb_d tk_X8_fits_2 9 (86, .ifCond .ne 46, 3) rfl
theorem dX8_fits_89 : decode cX8_fits 89 = .ok (.iload 6, 2) := tb_d tk_X8_fits_2 10 (89, .iload 6, 2) rfl
theorem dX8_fits_91 : decode cX8_fits 91 = .ok (.aload_n 0, 1) := tb_d tk_X8_fits_2 11 (91, .aload_n 0, 1) rfl
theorem dX8_fits_92 : decode cX8_fits 92 = .ok (.iload 7, 2) := tb_d tk_X8_fits_2 12 (92, .iload 7, 2) rfl
theorem dX8_fits_94 : decode cX8_fits 94 = .ok (.aload_n 0, 1) := tb_d tk_X8_fits_2 13 (94, .aload_n 0, 1) rfl
theorem dX8_fits_95 : decode cX8_fits 95 = .ok (.getfield 25, 3) := tb_d tk_X8_fits_2 14 (95, .getfield 25, 3) rfl
theorem dX8_fits_98 : decode cX8_fits 98 = .ok (.aload_n 0, 1) := tb_d tk_X8_fits_2 15 (98, .aload_n 0, 1) rfl
theorem dX8_fits_99 : decode cX8_fits 99 = .ok (.getfield 25, 3) := tb_d tk_X8_fits_2 16 (99, .getfield 25, 3) rfl
theorem dX8_fits_102 : decode cX8_fits 102 = .ok (.iconst 5, 1) := tb_d tk_X8_fits_2 17 (102, .iconst 5, 1) rfl
theorem dX8_fits_103 : decode cX8_fits 103 = .ok (.iaload, 1) := tb_d tk_X8_fits_2 18 (103, .iaload, 1) rfl
theorem dX8_fits_104 : decode cX8_fits 104 = .ok (.invokestatic 172, 3) := tb_d tk_X8_fits_2 19 (104, .invokestatic 172, 3) rfl
theorem dX8_fits_107 : decode cX8_fits 107 = .ok (.iload 5, 2) := tb_d tk_X8_fits_2 20 (107, .iload 5, 2) rfl
theorem dX8_fits_109 : decode cX8_fits 109 = .ok (.invokevirtual 227, 3) := tb_d tk_X8_fits_2 21 (109, .invokevirtual 227, 3) rfl
theorem dX8_fits_112 : decode cX8_fits 112 = .ok (.ifCond .eq 10, 3) := tb_d tk_X8_fits_2 22 (112, .ifCond .eq 10, 3) rfl
theorem dX8_fits_115 : decode cX8_fits 115 = .ok (.iconst 1, 1) := tb_d tk_X8_fits_2 23 (115, .iconst 1, 1) rfl
theorem dX8_fits_116 : decode cX8_fits 116 = .ok (.iload 7, 2) := tb_d tk_X8_fits_2 24 (116, .iload 7, 2) rfl
theorem dX8_fits_118 : decode cX8_fits 118 = .ok (.ishl, 1) := tb_d tk_X8_fits_2 25 (118, .ishl, 1) rfl
theorem dX8_fits_119 : decode cX8_fits 119 = .ok (.goto 4, 3) := tb_d tk_X8_fits_2 26 (119, .goto 4, 3) rfl
theorem dX8_fits_122 : decode cX8_fits 122 = .ok (.iconst 0, 1) := tb_d tk_X8_fits_2 27 (122, .iconst 0, 1) rfl
theorem dX8_fits_123 : decode cX8_fits 123 = .ok (.ior, 1) := tb_d tk_X8_fits_2 28 (123, .ior, 1) rfl
theorem dX8_fits_124 : decode cX8_fits 124 = .ok (.istore 6, 2) := tb_d tk_X8_fits_2 29 (124, .istore 6, 2) rfl
theorem dX8_fits_126 : decode cX8_fits 126 = .ok (.iinc 7 1, 3) := tb_d tk_X8_fits_2 30 (126, .iinc 7 1, 3) rfl
theorem dX8_fits_129 : decode cX8_fits 129 = .ok (.goto (-52), 3) := tb_d tk_X8_fits_2 31 (129, .goto (-52), 3) rfl
theorem dX8_fits_132 : decode cX8_fits 132 = .ok (.iconst 0, 1) := tb_d tk_X8_fits_2 32 (132, .iconst 0, 1) rfl
theorem dX8_fits_133 : decode cX8_fits 133 = .ok (.istore 7, 2) := tb_d tk_X8_fits_2 33 (133, .istore 7, 2) rfl
theorem dX8_fits_135 : decode cX8_fits 135 = .ok (.iload 7, 2) := tb_d tk_X8_fits_2 34 (135, .iload 7, 2) rfl
theorem dX8_fits_137 : decode cX8_fits 137 = .ok (.aload_n 0, 1) := tb_d tk_X8_fits_2 35 (137, .aload_n 0, 1) rfl
theorem dX8_fits_138 : decode cX8_fits 138 = .ok (.getfield 25, 3) := tb_d tk_X8_fits_2 36 (138, .getfield 25, 3) rfl
theorem dX8_fits_141 : decode cX8_fits 141 = .ok (.iconst 3, 1) := tb_d tk_X8_fits_2 37 (141, .iconst 3, 1) rfl
theorem dX8_fits_142 : decode cX8_fits 142 = .ok (.iaload, 1) := tb_d tk_X8_fits_2 38 (142, .iaload, 1) rfl
theorem dX8_fits_143 : decode cX8_fits 143 = .ok (.if_icmp .ge 44, 3) := tb_d tk_X8_fits_2 39 (143, .if_icmp .ge 44, 3) rfl
def tb_X8_fits_3 : List (Nat × Instr × Nat) := [(146, .iload 4, 2), (148, .iconst 1, 1), (149, .if_icmp .ne 38, 3), (152, .iload 6, 2), (154, .aload_n 0, 1), (155, .aload_n 0, 1), (156, .iload_n 1, 1), (157, .invokevirtual 165, 3), (160, .iload 7, 2), (162, .iload 5, 2), (164, .invokevirtual 227, 3), (167, .ifCond .eq 10, 3), (170, .iconst 1, 1), (171, .iload 7, 2), (173, .ishl, 1), (174, .goto 4, 3), (177, .iconst 0, 1), (178, .ior, 1), (179, .istore 6, 2), (181, .iinc 7 1, 3), (184, .goto (-49), 3), (187, .aload_n 0, 1), (188, .iload 6, 2), (190, .invokevirtual 69, 3), (193, .ireturn, 1)]
set_option maxRecDepth 100000 in
theorem tk_X8_fits_3 : (tb_X8_fits_3.all fun q => decide (decode cX8_fits q.1 = .ok q.2)) = true := by decide +kernel
theorem dX8_fits_146 : decode cX8_fits 146 = .ok (.iload 4, 2) := tb_d tk_X8_fits_3 0 (146, .iload 4, 2) rfl
theorem dX8_fits_148 : decode cX8_fits 148 = .ok (.iconst 1, 1) := tb_d tk_X8_fits_3 1 (148, .iconst 1, 1) rfl
theorem dX8_fits_149 : decode cX8_fits 149 = .ok (.if_icmp .ne 38, 3) := tb_d tk_X8_fits_3 2 (149, .if_icmp .ne 38, 3) rfl
theorem dX8_fits_152 : decode cX8_fits 152 = .ok (.iload 6, 2) := tb_d tk_X8_fits_3 3 (152, .iload 6, 2) rfl
theorem dX8_fits_154 : decode cX8_fits 154 = .ok (.aload_n 0, 1) := tb_d tk_X8_fits_3 4 (154, .aload_n 0, 1) rfl
theorem dX8_fits_155 : decode cX8_fits 155 = .ok (.aload_n 0, 1) := tb_d tk_X8_fits_3 5 (155, .aload_n 0, 1) rfl
theorem dX8_fits_156 : decode cX8_fits 156 = .ok (.iload_n 1, 1) := tb_d tk_X8_fits_3 6 (156, .iload_n 1, 1) rfl
theorem dX8_fits_157 : decode cX8_fits 157 = .ok (.invokevirtual 165, 3) := tb_d tk_X8_fits_3 7 (157, .invokevirtual 165, 3) rfl
theorem dX8_fits_160 : decode cX8_fits 160 = .ok (.iload 7, 2) := tb_d tk_X8_fits_3 8 (160, .iload 7, 2) rfl
theorem dX8_fits_162 : decode cX8_fits 162 = .ok (.iload 5, 2) := tb_d tk_X8_fits_3 9 (162, .iload 5, 2) rfl
theorem dX8_fits_164 : decode cX8_fits 164 = .ok (.invokevirtual 227, 3) := tb_d tk_X8_fits_3 10 (164, .invokevirtual 227, 3) rfl
theorem dX8_fits_167 : decode cX8_fits 167 = .ok (.ifCond .eq 10, 3) := tb_d tk_X8_fits_3 11 (167, .ifCond .eq 10, 3) rfl
theorem dX8_fits_170 : decode cX8_fits 170 = .ok (.iconst 1, 1) := tb_d tk_X8_fits_3 12 (170, .iconst 1, 1) rfl
theorem dX8_fits_171 : decode cX8_fits 171 = .ok (.iload 7, 2) := tb_d tk_X8_fits_3 13 (171, .iload 7, 2) rfl
theorem dX8_fits_173 : decode cX8_fits 173 = .ok (.ishl, 1) := tb_d tk_X8_fits_3 14 (173, .ishl, 1) rfl
theorem dX8_fits_174 : decode cX8_fits 174 = .ok (.goto 4, 3) := tb_d tk_X8_fits_3 15 (174, .goto 4, 3) rfl
theorem dX8_fits_177 : decode cX8_fits 177 = .ok (.iconst 0, 1) := tb_d tk_X8_fits_3 16 (177, .iconst 0, 1) rfl
theorem dX8_fits_178 : decode cX8_fits 178 = .ok (.ior, 1) := tb_d tk_X8_fits_3 17 (178, .ior, 1) rfl
theorem dX8_fits_179 : decode cX8_fits 179 = .ok (.istore 6, 2) := tb_d tk_X8_fits_3 18 (179, .istore 6, 2) rfl
theorem dX8_fits_181 : decode cX8_fits 181 = .ok (.iinc 7 1, 3) := tb_d tk_X8_fits_3 19 (181, .iinc 7 1, 3) rfl
theorem dX8_fits_184 : decode cX8_fits 184 = .ok (.goto (-49), 3) := tb_d tk_X8_fits_3 20 (184, .goto (-49), 3) rfl
theorem dX8_fits_187 : decode cX8_fits 187 = .ok (.aload_n 0, 1) := tb_d tk_X8_fits_3 21 (187, .aload_n 0, 1) rfl
theorem dX8_fits_188 : decode cX8_fits 188 = .ok (.iload 6, 2) := tb_d tk_X8_fits_3 22 (188, .iload 6, 2) rfl
theorem dX8_fits_190 : decode cX8_fits 190 = .ok (.invokevirtual 69, 3) := tb_d tk_X8_fits_3 23 (190, .invokevirtual 69, 3) rfl
theorem dX8_fits_193 : decode cX8_fits 193 = .ok (.ireturn, 1) := tb_d tk_X8_fits_3 24 (193, .ireturn, 1) rfl
theorem ggX8_sure_X8_isWord : GoodIn wsX8_sure wsX8_isWord := fun w h => ⟨List.mem_cons_of_mem _ (List.mem_append_right _ (List.mem_append_right _ (List.mem_append_right _ (List.mem_append_right _ (List.mem_append_right _ (List.mem_append_right _ (List.mem_append_right _ (List.mem_append_right _ (List.mem_append_left _ h))))))))), good_of_word (gdX8_isWord w h)⟩
set_option maxRecDepth 20000 in
theorem gX8_sure_X8_isWord : GoodIn wsX8_sure (wsV RX8 190 RX8 yX8_isWord wsX8_isWord) := goodIn_app (a := bkV RX8 190 RX8 yX8_isWord) (fun w h => ⟨List.mem_cons_of_mem _ (List.mem_append_right _ (List.mem_append_left _ h)), good_of_word (gd_bV _ _ _ _ w h)⟩) ggX8_sure_X8_isWord
theorem ggX8_sure_X8_isHour : GoodIn wsX8_sure wsX8_isHour := fun w h => ⟨List.mem_cons_of_mem _ (List.mem_append_right _ (List.mem_append_right _ (List.mem_append_right _ (List.mem_append_right _ (List.mem_append_right _ (List.mem_append_right _ (List.mem_append_right _ (List.mem_append_right _ (List.mem_append_right _ (List.mem_append_left _ h)))))))))), good_of_word (gdX8_isHour w h)⟩
set_option maxRecDepth 20000 in
theorem gX8_sure_X8_isHour : GoodIn wsX8_sure (va_wsS RX8 193 yX8_isHour wsX8_isHour) := goodIn_app (a := bkS RX8 193 yX8_isHour) (fun w h => ⟨List.mem_cons_of_mem _ (List.mem_append_right _ (List.mem_append_right _ (List.mem_append_left _ h))), good_of_word (gd_bS _ _ _ w h)⟩) ggX8_sure_X8_isHour
theorem ggX8_sure_X8_in : GoodIn wsX8_sure wsX8_in := fun w h => ⟨List.mem_cons_of_mem _ (List.mem_append_right _ (List.mem_append_right _ (List.mem_append_right _ (List.mem_append_right _ (List.mem_append_right _ (List.mem_append_right _ (List.mem_append_right _ (List.mem_append_right _ (List.mem_append_right _ (List.mem_append_right _ (List.mem_append_left _ h))))))))))), good_of_word (gdX8_in w h)⟩
set_option maxRecDepth 20000 in
theorem gX8_sure_X8_in : GoodIn wsX8_sure (va_wsS RX8 56 yX8_in wsX8_in) := goodIn_app (a := bkS RX8 56 yX8_in) (fun w h => ⟨List.mem_cons_of_mem _ (List.mem_append_right _ (List.mem_append_right _ (List.mem_append_right _ (List.mem_append_left _ h)))), good_of_word (gd_bS _ _ _ w h)⟩) ggX8_sure_X8_in
theorem ggX8_sure_X8_agreeing : GoodIn wsX8_sure wsX8_agreeing := fun w h => ⟨List.mem_cons_of_mem _ (List.mem_append_right _ (List.mem_append_right _ (List.mem_append_right _ (List.mem_append_right _ (List.mem_append_right _ (List.mem_append_right _ (List.mem_append_right _ (List.mem_append_right _ (List.mem_append_right _ (List.mem_append_right _ (List.mem_append_right _ (List.mem_append_left _ h)))))))))))), good_of_word (gdX8_agreeing w h)⟩
set_option maxRecDepth 20000 in
theorem gX8_sure_X8_agreeing : GoodIn wsX8_sure (wsV RX8 214 RX8 yX8_agreeing wsX8_agreeing) := goodIn_app (a := bkV RX8 214 RX8 yX8_agreeing) (fun w h => ⟨List.mem_cons_of_mem _ (List.mem_append_right _ (List.mem_append_right _ (List.mem_append_right _ (List.mem_append_right _ (List.mem_append_left _ h))))), good_of_word (gd_bV _ _ _ _ w h)⟩) ggX8_sure_X8_agreeing
theorem ggX8_sure_X8_takenOf : GoodIn wsX8_sure wsX8_takenOf := fun w h => ⟨List.mem_cons_of_mem _ (List.mem_append_right _ (List.mem_append_right _ (List.mem_append_right _ (List.mem_append_right _ (List.mem_append_right _ (List.mem_append_right _ (List.mem_append_right _ (List.mem_append_right _ (List.mem_append_right _ (List.mem_append_right _ (List.mem_append_right _ (List.mem_append_right _ (List.mem_append_left _ h))))))))))))), good_of_word (gdX8_takenOf w h)⟩
set_option maxRecDepth 20000 in
theorem gX8_sure_X8_takenOf : GoodIn wsX8_sure (wsV RX8 220 RX8 yX8_takenOf wsX8_takenOf) := goodIn_app (a := bkV RX8 220 RX8 yX8_takenOf) (fun w h => ⟨List.mem_cons_of_mem _ (List.mem_append_right _ (List.mem_append_right _ (List.mem_append_right _ (List.mem_append_right _ (List.mem_append_right _ (List.mem_append_left _ h)))))), good_of_word (gd_bV _ _ _ _ w h)⟩) ggX8_sure_X8_takenOf
theorem ggX8_sure_X8_ones : GoodIn wsX8_sure wsX8_ones := fun w h => ⟨List.mem_cons_of_mem _ (List.mem_append_right _ (List.mem_append_right _ (List.mem_append_right _ (List.mem_append_right _ (List.mem_append_right _ (List.mem_append_right _ (List.mem_append_right _ (List.mem_append_right _ (List.mem_append_right _ (List.mem_append_right _ (List.mem_append_right _ (List.mem_append_right _ (List.mem_append_right _ (List.mem_append_left _ h)))))))))))))), good_of_word (gdX8_ones w h)⟩
set_option maxRecDepth 20000 in
theorem gX8_sure_X8_ones : GoodIn wsX8_sure (va_wsS RX8 217 yX8_ones wsX8_ones) := goodIn_app (a := bkS RX8 217 yX8_ones) (fun w h => ⟨List.mem_cons_of_mem _ (List.mem_append_right _ (List.mem_append_right _ (List.mem_append_right _ (List.mem_append_right _ (List.mem_append_right _ (List.mem_append_right _ (List.mem_append_left _ h))))))), good_of_word (gd_bS _ _ _ w h)⟩) ggX8_sure_X8_ones
def tb_X8_sure_1 : List (Nat × Instr × Nat) := [(0, .aload_n 0, 1), (1, .iload_n 1, 1), (2, .invokevirtual 190, 3), (5, .ifCond .eq 30, 3), (8, .iload_n 2, 1), (9, .invokestatic 193, 3), (12, .ifCond .eq 23, 3), (15, .iload_n 3, 1), (16, .iconst 0, 1), (17, .bipush 10, 2), (19, .invokestatic 56, 3), (22, .ifCond .eq 13, 3), (25, .iload 4, 2), (27, .iconst 0, 1), (28, .iconst 1, 1), (29, .invokestatic 56, 3), (32, .ifCond .ne 6, 3), (35, .ldc 64, 2), (37, .ireturn, 1), (38, .aload_n 0, 1), (39, .invokevirtual 214, 3), (42, .istore 5, 2), (44, .aload_n 0, 1), (45, .iload 5, 2), (47, .iload_n 1, 1), (48, .iload_n 2, 1), (49, .invokevirtual 220, 3), (52, .invokestatic 217, 3), (55, .istore 6, 2), (57, .iload 6, 2), (59, .iload_n 3, 1), (60, .imul, 1), (61, .iload 5, 2), (63, .invokestatic 217, 3), (66, .iload 6, 2), (68, .isub, 1), (69, .bipush 10, 2), (71, .imul, 1), (72, .iadd, 1), (73, .istore 7, 2)]
set_option maxRecDepth 100000 in
theorem tk_X8_sure_1 : (tb_X8_sure_1.all fun q => decide (decode cX8_sure q.1 = .ok q.2)) = true := by decide +kernel
theorem dX8_sure_0 : decode cX8_sure 0 = .ok (.aload_n 0, 1) := tb_d tk_X8_sure_1 0 (0, .aload_n 0, 1) rfl
theorem dX8_sure_1 : decode cX8_sure 1 = .ok (.iload_n 1, 1) := tb_d tk_X8_sure_1 1 (1, .iload_n 1, 1) rfl
theorem dX8_sure_2 : decode cX8_sure 2 = .ok (.invokevirtual 190, 3) := tb_d tk_X8_sure_1 2 (2, .invokevirtual 190, 3) rfl
theorem dX8_sure_5 : decode cX8_sure 5 = .ok (.ifCond .eq 30, 3) := tb_d tk_X8_sure_1 3 (5, .ifCond .eq 30, 3) rfl
theorem dX8_sure_8 : decode cX8_sure 8 = .ok (.iload_n 2, 1) := tb_d tk_X8_sure_1 4 (8, .iload_n 2, 1) rfl
theorem dX8_sure_9 : decode cX8_sure 9 = .ok (.invokestatic 193, 3) := tb_d tk_X8_sure_1 5 (9, .invokestatic 193, 3) rfl
theorem dX8_sure_12 : decode cX8_sure 12 = .ok (.ifCond .eq 23, 3) := tb_d tk_X8_sure_1 6 (12, .ifCond .eq 23, 3) rfl
theorem dX8_sure_15 : decode cX8_sure 15 = .ok (.iload_n 3, 1) := tb_d tk_X8_sure_1 7 (15, .iload_n 3, 1) rfl
theorem dX8_sure_16 : decode cX8_sure 16 = .ok (.iconst 0, 1) := tb_d tk_X8_sure_1 8 (16, .iconst 0, 1) rfl
theorem dX8_sure_17 : decode cX8_sure 17 = .ok (.bipush 10, 2) := tb_d tk_X8_sure_1 9 (17, .bipush 10, 2) rfl
theorem dX8_sure_19 : decode cX8_sure 19 = .ok (.invokestatic 56, 3) := tb_d tk_X8_sure_1 10 (19, .invokestatic 56, 3) rfl
theorem dX8_sure_22 : decode cX8_sure 22 = .ok (.ifCond .eq 13, 3) := tb_d tk_X8_sure_1 11 (22, .ifCond .eq 13, 3) rfl
theorem dX8_sure_25 : decode cX8_sure 25 = .ok (.iload 4, 2) := tb_d tk_X8_sure_1 12 (25, .iload 4, 2) rfl
theorem dX8_sure_27 : decode cX8_sure 27 = .ok (.iconst 0, 1) := tb_d tk_X8_sure_1 13 (27, .iconst 0, 1) rfl
theorem dX8_sure_28 : decode cX8_sure 28 = .ok (.iconst 1, 1) := tb_d tk_X8_sure_1 14 (28, .iconst 1, 1) rfl
theorem dX8_sure_29 : decode cX8_sure 29 = .ok (.invokestatic 56, 3) := tb_d tk_X8_sure_1 15 (29, .invokestatic 56, 3) rfl
theorem dX8_sure_32 : decode cX8_sure 32 = .ok (.ifCond .ne 6, 3) := tb_d tk_X8_sure_1 16 (32, .ifCond .ne 6, 3) rfl
theorem dX8_sure_35 : decode cX8_sure 35 = .ok (.ldc 64, 2) := tb_d tk_X8_sure_1 17 (35, .ldc 64, 2) rfl
theorem dX8_sure_37 : decode cX8_sure 37 = .ok (.ireturn, 1) := tb_d tk_X8_sure_1 18 (37, .ireturn, 1) rfl
theorem dX8_sure_38 : decode cX8_sure 38 = .ok (.aload_n 0, 1) := tb_d tk_X8_sure_1 19 (38, .aload_n 0, 1) rfl
theorem dX8_sure_39 : decode cX8_sure 39 = .ok (.invokevirtual 214, 3) := tb_d tk_X8_sure_1 20 (39, .invokevirtual 214, 3) rfl
theorem dX8_sure_42 : decode cX8_sure 42 = .ok (.istore 5, 2) := tb_d tk_X8_sure_1 21 (42, .istore 5, 2) rfl
theorem dX8_sure_44 : decode cX8_sure 44 = .ok (.aload_n 0, 1) := tb_d tk_X8_sure_1 22 (44, .aload_n 0, 1) rfl
theorem dX8_sure_45 : decode cX8_sure 45 = .ok (.iload 5, 2) := tb_d tk_X8_sure_1 23 (45, .iload 5, 2) rfl
theorem dX8_sure_47 : decode cX8_sure 47 = .ok (.iload_n 1, 1) := tb_d tk_X8_sure_1 24 (47, .iload_n 1, 1) rfl
theorem dX8_sure_48 : decode cX8_sure 48 = .ok (.iload_n 2, 1) := tb_d tk_X8_sure_1 25 (48, .iload_n 2, 1) rfl
theorem dX8_sure_49 : decode cX8_sure 49 = .ok (.invokevirtual 220, 3) := tb_d tk_X8_sure_1 26 (49, .invokevirtual 220, 3) rfl
theorem dX8_sure_52 : decode cX8_sure 52 = .ok (.invokestatic 217, 3) := tb_d tk_X8_sure_1 27 (52, .invokestatic 217, 3) rfl
theorem dX8_sure_55 : decode cX8_sure 55 = .ok (.istore 6, 2) := tb_d tk_X8_sure_1 28 (55, .istore 6, 2) rfl
theorem dX8_sure_57 : decode cX8_sure 57 = .ok (.iload 6, 2) := tb_d tk_X8_sure_1 29 (57, .iload 6, 2) rfl
theorem dX8_sure_59 : decode cX8_sure 59 = .ok (.iload_n 3, 1) := tb_d tk_X8_sure_1 30 (59, .iload_n 3, 1) rfl
theorem dX8_sure_60 : decode cX8_sure 60 = .ok (.imul, 1) := tb_d tk_X8_sure_1 31 (60, .imul, 1) rfl
theorem dX8_sure_61 : decode cX8_sure 61 = .ok (.iload 5, 2) := tb_d tk_X8_sure_1 32 (61, .iload 5, 2) rfl
theorem dX8_sure_63 : decode cX8_sure 63 = .ok (.invokestatic 217, 3) := tb_d tk_X8_sure_1 33 (63, .invokestatic 217, 3) rfl
theorem dX8_sure_66 : decode cX8_sure 66 = .ok (.iload 6, 2) := tb_d tk_X8_sure_1 34 (66, .iload 6, 2) rfl
theorem dX8_sure_68 : decode cX8_sure 68 = .ok (.isub, 1) := tb_d tk_X8_sure_1 35 (68, .isub, 1) rfl
theorem dX8_sure_69 : decode cX8_sure 69 = .ok (.bipush 10, 2) := tb_d tk_X8_sure_1 36 (69, .bipush 10, 2) rfl
theorem dX8_sure_71 : decode cX8_sure 71 = .ok (.imul, 1) := tb_d tk_X8_sure_1 37 (71, .imul, 1) rfl
theorem dX8_sure_72 : decode cX8_sure 72 = .ok (.iadd, 1) := tb_d tk_X8_sure_1 38 (72, .iadd, 1) rfl
theorem dX8_sure_73 : decode cX8_sure 73 = .ok (.istore 7, 2) := tb_d tk_X8_sure_1 39 (73, .istore 7, 2) rfl
def tb_X8_sure_2 : List (Nat × Instr × Nat) := [(75, .iload 5, 2), (77, .ifCond .ne 7, 3), (80, .iconst 1, 1), (81, .goto 11, 3), (84, .bipush 10, 2), (86, .iload 5, 2), (88, .invokestatic 217, 3), (91, .imul, 1), (92, .istore 8, 2), (94, .iload 7, 2), (96, .istore 9, 2), (98, .iload 8, 2), (100, .istore 10, 2), (102, .iload 10, 2), (104, .ifCond .eq 21, 3), (107, .iload 9, 2), (109, .iload 10, 2), (111, .irem, 1), (112, .istore 11, 2), (114, .iload 10, 2), (116, .istore 9, 2), (118, .iload 11, 2), (120, .istore 10, 2), (122, .goto (-20), 3), (125, .iload 4, 2), (127, .ifCond .ne 8, 3), (130, .iload 7, 2), (132, .goto 5, 3), (135, .iload 8, 2), (137, .iload 9, 2), (139, .idiv, 1), (140, .ireturn, 1)]
set_option maxRecDepth 100000 in
theorem tk_X8_sure_2 : (tb_X8_sure_2.all fun q => decide (decode cX8_sure q.1 = .ok q.2)) = true := by decide +kernel
theorem dX8_sure_75 : decode cX8_sure 75 = .ok (.iload 5, 2) := tb_d tk_X8_sure_2 0 (75, .iload 5, 2) rfl
theorem dX8_sure_77 : decode cX8_sure 77 = .ok (.ifCond .ne 7, 3) := tb_d tk_X8_sure_2 1 (77, .ifCond .ne 7, 3) rfl
theorem dX8_sure_80 : decode cX8_sure 80 = .ok (.iconst 1, 1) := tb_d tk_X8_sure_2 2 (80, .iconst 1, 1) rfl
theorem dX8_sure_81 : decode cX8_sure 81 = .ok (.goto 11, 3) := tb_d tk_X8_sure_2 3 (81, .goto 11, 3) rfl
theorem dX8_sure_84 : decode cX8_sure 84 = .ok (.bipush 10, 2) := tb_d tk_X8_sure_2 4 (84, .bipush 10, 2) rfl
theorem dX8_sure_86 : decode cX8_sure 86 = .ok (.iload 5, 2) := tb_d tk_X8_sure_2 5 (86, .iload 5, 2) rfl
theorem dX8_sure_88 : decode cX8_sure 88 = .ok (.invokestatic 217, 3) := tb_d tk_X8_sure_2 6 (88, .invokestatic 217, 3) rfl
theorem dX8_sure_91 : decode cX8_sure 91 = .ok (.imul, 1) := tb_d tk_X8_sure_2 7 (91, .imul, 1) rfl
theorem dX8_sure_92 : decode cX8_sure 92 = .ok (.istore 8, 2) := tb_d tk_X8_sure_2 8 (92, .istore 8, 2) rfl
theorem dX8_sure_94 : decode cX8_sure 94 = .ok (.iload 7, 2) := tb_d tk_X8_sure_2 9 (94, .iload 7, 2) rfl
theorem dX8_sure_96 : decode cX8_sure 96 = .ok (.istore 9, 2) := tb_d tk_X8_sure_2 10 (96, .istore 9, 2) rfl
theorem dX8_sure_98 : decode cX8_sure 98 = .ok (.iload 8, 2) := tb_d tk_X8_sure_2 11 (98, .iload 8, 2) rfl
theorem dX8_sure_100 : decode cX8_sure 100 = .ok (.istore 10, 2) := tb_d tk_X8_sure_2 12 (100, .istore 10, 2) rfl
theorem dX8_sure_102 : decode cX8_sure 102 = .ok (.iload 10, 2) := tb_d tk_X8_sure_2 13 (102, .iload 10, 2) rfl
theorem dX8_sure_104 : decode cX8_sure 104 = .ok (.ifCond .eq 21, 3) := tb_d tk_X8_sure_2 14 (104, .ifCond .eq 21, 3) rfl
theorem dX8_sure_107 : decode cX8_sure 107 = .ok (.iload 9, 2) := tb_d tk_X8_sure_2 15 (107, .iload 9, 2) rfl
theorem dX8_sure_109 : decode cX8_sure 109 = .ok (.iload 10, 2) := tb_d tk_X8_sure_2 16 (109, .iload 10, 2) rfl
theorem dX8_sure_111 : decode cX8_sure 111 = .ok (.irem, 1) := tb_d tk_X8_sure_2 17 (111, .irem, 1) rfl
theorem dX8_sure_112 : decode cX8_sure 112 = .ok (.istore 11, 2) := tb_d tk_X8_sure_2 18 (112, .istore 11, 2) rfl
theorem dX8_sure_114 : decode cX8_sure 114 = .ok (.iload 10, 2) := tb_d tk_X8_sure_2 19 (114, .iload 10, 2) rfl
theorem dX8_sure_116 : decode cX8_sure 116 = .ok (.istore 9, 2) := tb_d tk_X8_sure_2 20 (116, .istore 9, 2) rfl
theorem dX8_sure_118 : decode cX8_sure 118 = .ok (.iload 11, 2) := tb_d tk_X8_sure_2 21 (118, .iload 11, 2) rfl
theorem dX8_sure_120 : decode cX8_sure 120 = .ok (.istore 10, 2) := tb_d tk_X8_sure_2 22 (120, .istore 10, 2) rfl
theorem dX8_sure_122 : decode cX8_sure 122 = .ok (.goto (-20), 3) := tb_d tk_X8_sure_2 23 (122, .goto (-20), 3) rfl
theorem dX8_sure_125 : decode cX8_sure 125 = .ok (.iload 4, 2) := tb_d tk_X8_sure_2 24 (125, .iload 4, 2) rfl
theorem dX8_sure_127 : decode cX8_sure 127 = .ok (.ifCond .ne 8, 3) := tb_d tk_X8_sure_2 25 (127, .ifCond .ne 8, 3) rfl
theorem dX8_sure_130 : decode cX8_sure 130 = .ok (.iload 7, 2) := tb_d tk_X8_sure_2 26 (130, .iload 7, 2) rfl
theorem dX8_sure_132 : decode cX8_sure 132 = .ok (.goto 5, 3) := tb_d tk_X8_sure_2 27 (132, .goto 5, 3) rfl
theorem dX8_sure_135 : decode cX8_sure 135 = .ok (.iload 8, 2) := tb_d tk_X8_sure_2 28 (135, .iload 8, 2) rfl
theorem dX8_sure_137 : decode cX8_sure 137 = .ok (.iload 9, 2) := tb_d tk_X8_sure_2 29 (137, .iload 9, 2) rfl
theorem dX8_sure_139 : decode cX8_sure 139 = .ok (.idiv, 1) := tb_d tk_X8_sure_2 30 (139, .idiv, 1) rfl
theorem dX8_sure_140 : decode cX8_sure 140 = .ok (.ireturn, 1) := tb_d tk_X8_sure_2 31 (140, .ireturn, 1) rfl
theorem ggX8_drawn_X8_isGate : GoodIn wsX8_drawn wsX8_isGate := fun w h => ⟨List.mem_cons_of_mem _ (List.mem_append_right _ (List.mem_append_right _ (List.mem_append_right _ (List.mem_append_right _ (List.mem_append_right _ (List.mem_append_right _ (List.mem_append_left _ h))))))), good_of_word (gdX8_isGate w h)⟩
set_option maxRecDepth 20000 in
theorem gX8_drawn_X8_isGate : GoodIn wsX8_drawn (wsV RX8 180 RX8 yX8_isGate wsX8_isGate) := goodIn_app (a := bkV RX8 180 RX8 yX8_isGate) (fun w h => ⟨List.mem_cons_of_mem _ (List.mem_append_right _ (List.mem_append_left _ h)), good_of_word (gd_bV _ _ _ _ w h)⟩) ggX8_drawn_X8_isGate
theorem ggX8_drawn_X8_isFar : GoodIn wsX8_drawn wsX8_isFar := fun w h => ⟨List.mem_cons_of_mem _ (List.mem_append_right _ (List.mem_append_right _ (List.mem_append_right _ (List.mem_append_right _ (List.mem_append_right _ (List.mem_append_right _ (List.mem_append_right _ (List.mem_append_left _ h)))))))), good_of_word (gdX8_isFar w h)⟩
set_option maxRecDepth 20000 in
theorem gX8_drawn_X8_isFar : GoodIn wsX8_drawn (va_wsS RX8 205 yX8_isFar wsX8_isFar) := goodIn_app (a := bkS RX8 205 yX8_isFar) (fun w h => ⟨List.mem_cons_of_mem _ (List.mem_append_right _ (List.mem_append_right _ (List.mem_append_left _ h))), good_of_word (gd_bS _ _ _ w h)⟩) ggX8_drawn_X8_isFar
theorem ggX8_drawn_X8_in : GoodIn wsX8_drawn wsX8_in := fun w h => ⟨List.mem_cons_of_mem _ (List.mem_append_right _ (List.mem_append_right _ (List.mem_append_right _ (List.mem_append_right _ (List.mem_append_right _ (List.mem_append_right _ (List.mem_append_right _ (List.mem_append_right _ (List.mem_append_left _ h))))))))), good_of_word (gdX8_in w h)⟩
set_option maxRecDepth 20000 in
theorem gX8_drawn_X8_in : GoodIn wsX8_drawn (va_wsS RX8 56 yX8_in wsX8_in) := goodIn_app (a := bkS RX8 56 yX8_in) (fun w h => ⟨List.mem_cons_of_mem _ (List.mem_append_right _ (List.mem_append_right _ (List.mem_append_right _ (List.mem_append_left _ h)))), good_of_word (gd_bS _ _ _ w h)⟩) ggX8_drawn_X8_in
theorem ggX8_drawn_X8_isTakenNow : GoodIn wsX8_drawn wsX8_isTakenNow := fun w h => ⟨List.mem_cons_of_mem _ (List.mem_append_right _ (List.mem_append_right _ (List.mem_append_right _ (List.mem_append_right _ (List.mem_append_right _ (List.mem_append_right _ (List.mem_append_right _ (List.mem_append_right _ (List.mem_append_right _ (List.mem_append_left _ h)))))))))), good_of_word (gdX8_isTakenNow w h)⟩
set_option maxRecDepth 20000 in
theorem gX8_drawn_X8_isTakenNow : GoodIn wsX8_drawn (wsV RX8 196 RX8 yX8_isTakenNow wsX8_isTakenNow) := goodIn_app (a := bkV RX8 196 RX8 yX8_isTakenNow) (fun w h => ⟨List.mem_cons_of_mem _ (List.mem_append_right _ (List.mem_append_right _ (List.mem_append_right _ (List.mem_append_right _ (List.mem_append_left _ h))))), good_of_word (gd_bV _ _ _ _ w h)⟩) ggX8_drawn_X8_isTakenNow
def tb_X8_drawn_1 : List (Nat × Instr × Nat) := [(0, .aload_n 0, 1), (1, .invokevirtual 180, 3), (4, .ifCond .ne 6, 3), (7, .ldc 183, 2), (9, .ireturn, 1), (10, .iload_n 1, 1), (11, .invokestatic 205, 3), (14, .ifCond .eq 22, 3), (17, .iload_n 2, 1), (18, .iconst 1, 1), (19, .ldc 230, 2), (21, .invokestatic 56, 3), (24, .ifCond .eq 12, 3), (27, .iload_n 3, 1), (28, .iconst 0, 1), (29, .iconst 1, 1), (30, .invokestatic 56, 3), (33, .ifCond .ne 6, 3), (36, .ldc 64, 2), (38, .ireturn, 1), (39, .iload_n 2, 1), (40, .i2l, 1), (41, .lstore 4, 2), (43, .iconst 0, 1), (44, .istore 6, 2), (46, .iconst 0, 1), (47, .istore 7, 2), (49, .iconst 0, 1), (50, .istore 8, 2), (52, .iload 8, 2), (54, .iload_n 1, 1), (55, .if_icmp .ge 84, 3), (58, .lload 4, 2), (60, .ldc2_w 231, 3), (63, .lmul, 1), (64, .ldc2_w 233, 3), (67, .lrem, 1), (68, .lstore 4, 2), (70, .lload 4, 2), (72, .aload_n 0, 1)]
set_option maxRecDepth 100000 in
theorem tk_X8_drawn_1 : (tb_X8_drawn_1.all fun q => decide (decode cX8_drawn q.1 = .ok q.2)) = true := by decide +kernel
theorem dX8_drawn_0 : decode cX8_drawn 0 = .ok (.aload_n 0, 1) := tb_d tk_X8_drawn_1 0 (0, .aload_n 0, 1) rfl
theorem dX8_drawn_1 : decode cX8_drawn 1 = .ok (.invokevirtual 180, 3) := tb_d tk_X8_drawn_1 1 (1, .invokevirtual 180, 3) rfl
theorem dX8_drawn_4 : decode cX8_drawn 4 = .ok (.ifCond .ne 6, 3) := tb_d tk_X8_drawn_1 2 (4, .ifCond .ne 6, 3) rfl
theorem dX8_drawn_7 : decode cX8_drawn 7 = .ok (.ldc 183, 2) := tb_d tk_X8_drawn_1 3 (7, .ldc 183, 2) rfl
theorem dX8_drawn_9 : decode cX8_drawn 9 = .ok (.ireturn, 1) := tb_d tk_X8_drawn_1 4 (9, .ireturn, 1) rfl
theorem dX8_drawn_10 : decode cX8_drawn 10 = .ok (.iload_n 1, 1) := tb_d tk_X8_drawn_1 5 (10, .iload_n 1, 1) rfl
theorem dX8_drawn_11 : decode cX8_drawn 11 = .ok (.invokestatic 205, 3) := tb_d tk_X8_drawn_1 6 (11, .invokestatic 205, 3) rfl
theorem dX8_drawn_14 : decode cX8_drawn 14 = .ok (.ifCond .eq 22, 3) := tb_d tk_X8_drawn_1 7 (14, .ifCond .eq 22, 3) rfl
theorem dX8_drawn_17 : decode cX8_drawn 17 = .ok (.iload_n 2, 1) := tb_d tk_X8_drawn_1 8 (17, .iload_n 2, 1) rfl
theorem dX8_drawn_18 : decode cX8_drawn 18 = .ok (.iconst 1, 1) := tb_d tk_X8_drawn_1 9 (18, .iconst 1, 1) rfl
theorem dX8_drawn_19 : decode cX8_drawn 19 = .ok (.ldc 230, 2) := tb_d tk_X8_drawn_1 10 (19, .ldc 230, 2) rfl
theorem dX8_drawn_21 : decode cX8_drawn 21 = .ok (.invokestatic 56, 3) := tb_d tk_X8_drawn_1 11 (21, .invokestatic 56, 3) rfl
theorem dX8_drawn_24 : decode cX8_drawn 24 = .ok (.ifCond .eq 12, 3) := tb_d tk_X8_drawn_1 12 (24, .ifCond .eq 12, 3) rfl
theorem dX8_drawn_27 : decode cX8_drawn 27 = .ok (.iload_n 3, 1) := tb_d tk_X8_drawn_1 13 (27, .iload_n 3, 1) rfl
theorem dX8_drawn_28 : decode cX8_drawn 28 = .ok (.iconst 0, 1) := tb_d tk_X8_drawn_1 14 (28, .iconst 0, 1) rfl
theorem dX8_drawn_29 : decode cX8_drawn 29 = .ok (.iconst 1, 1) := tb_d tk_X8_drawn_1 15 (29, .iconst 1, 1) rfl
theorem dX8_drawn_30 : decode cX8_drawn 30 = .ok (.invokestatic 56, 3) := tb_d tk_X8_drawn_1 16 (30, .invokestatic 56, 3) rfl
theorem dX8_drawn_33 : decode cX8_drawn 33 = .ok (.ifCond .ne 6, 3) := tb_d tk_X8_drawn_1 17 (33, .ifCond .ne 6, 3) rfl
theorem dX8_drawn_36 : decode cX8_drawn 36 = .ok (.ldc 64, 2) := tb_d tk_X8_drawn_1 18 (36, .ldc 64, 2) rfl
theorem dX8_drawn_38 : decode cX8_drawn 38 = .ok (.ireturn, 1) := tb_d tk_X8_drawn_1 19 (38, .ireturn, 1) rfl
theorem dX8_drawn_39 : decode cX8_drawn 39 = .ok (.iload_n 2, 1) := tb_d tk_X8_drawn_1 20 (39, .iload_n 2, 1) rfl
theorem dX8_drawn_40 : decode cX8_drawn 40 = .ok (.i2l, 1) := tb_d tk_X8_drawn_1 21 (40, .i2l, 1) rfl
theorem dX8_drawn_41 : decode cX8_drawn 41 = .ok (.lstore 4, 2) := tb_d tk_X8_drawn_1 22 (41, .lstore 4, 2) rfl
theorem dX8_drawn_43 : decode cX8_drawn 43 = .ok (.iconst 0, 1) := tb_d tk_X8_drawn_1 23 (43, .iconst 0, 1) rfl
theorem dX8_drawn_44 : decode cX8_drawn 44 = .ok (.istore 6, 2) := tb_d tk_X8_drawn_1 24 (44, .istore 6, 2) rfl
theorem dX8_drawn_46 : decode cX8_drawn 46 = .ok (.iconst 0, 1) := tb_d tk_X8_drawn_1 25 (46, .iconst 0, 1) rfl
theorem dX8_drawn_47 : decode cX8_drawn 47 = .ok (.istore 7, 2) := tb_d tk_X8_drawn_1 26 (47, .istore 7, 2) rfl
theorem dX8_drawn_49 : decode cX8_drawn 49 = .ok (.iconst 0, 1) := tb_d tk_X8_drawn_1 27 (49, .iconst 0, 1) rfl
theorem dX8_drawn_50 : decode cX8_drawn 50 = .ok (.istore 8, 2) := tb_d tk_X8_drawn_1 28 (50, .istore 8, 2) rfl
theorem dX8_drawn_52 : decode cX8_drawn 52 = .ok (.iload 8, 2) := tb_d tk_X8_drawn_1 29 (52, .iload 8, 2) rfl
theorem dX8_drawn_54 : decode cX8_drawn 54 = .ok (.iload_n 1, 1) := tb_d tk_X8_drawn_1 30 (54, .iload_n 1, 1) rfl
theorem dX8_drawn_55 : decode cX8_drawn 55 = .ok (.if_icmp .ge 84, 3) := tb_d tk_X8_drawn_1 31 (55, .if_icmp .ge 84, 3) rfl
theorem dX8_drawn_58 : decode cX8_drawn 58 = .ok (.lload 4, 2) := tb_d tk_X8_drawn_1 32 (58, .lload 4, 2) rfl
theorem dX8_drawn_60 : decode cX8_drawn 60 = .ok (.ldc2_w 231, 3) := tb_d tk_X8_drawn_1 33 (60, .ldc2_w 231, 3) rfl
theorem dX8_drawn_63 : decode cX8_drawn 63 = .ok (.lmul, 1) := tb_d tk_X8_drawn_1 34 (63, .lmul, 1) rfl
theorem dX8_drawn_64 : decode cX8_drawn 64 = .ok (.ldc2_w 233, 3) := tb_d tk_X8_drawn_1 35 (64, .ldc2_w 233, 3) rfl
theorem dX8_drawn_67 : decode cX8_drawn 67 = .ok (.lrem, 1) := tb_d tk_X8_drawn_1 36 (67, .lrem, 1) rfl
theorem dX8_drawn_68 : decode cX8_drawn 68 = .ok (.lstore 4, 2) := tb_d tk_X8_drawn_1 37 (68, .lstore 4, 2) rfl
theorem dX8_drawn_70 : decode cX8_drawn 70 = .ok (.lload 4, 2) := tb_d tk_X8_drawn_1 38 (70, .lload 4, 2) rfl
theorem dX8_drawn_72 : decode cX8_drawn 72 = .ok (.aload_n 0, 1) := tb_d tk_X8_drawn_1 39 (72, .aload_n 0, 1) rfl
def tb_X8_drawn_2 : List (Nat × Instr × Nat) := [(73, .getfield 25, 3), (76, .iconst 3, 1), (77, .iaload, 1), (78, .i2l, 1), (79, .lrem, 1), (80, .l2i, 1), (81, .istore 9, 2), (83, .aload_n 0, 1), (84, .iload 9, 2), (86, .lload 4, 2), (88, .ldc2_w 235, 3), (91, .lrem, 1), (92, .l2i, 1), (93, .iload 8, 2), (95, .invokevirtual 196, 3), (98, .istore 10, 2), (100, .iload 6, 2), (102, .iload 10, 2), (104, .ifCond .eq 7, 3), (107, .iconst 1, 1), (108, .goto 4, 3), (111, .iconst 0, 1), (112, .iadd, 1), (113, .istore 6, 2), (115, .iload 7, 2), (117, .iload 10, 2), (119, .ifCond .eq 7, 3), (122, .iconst 0, 1), (123, .goto 7, 3), (126, .iconst 1, 1), (127, .iload 9, 2), (129, .ishl, 1), (130, .ior, 1), (131, .istore 7, 2), (133, .iinc 8 1, 3), (136, .goto (-84), 3), (139, .iload_n 3, 1), (140, .ifCond .ne 8, 3), (143, .iload 6, 2), (145, .goto 5, 3)]
set_option maxRecDepth 100000 in
theorem tk_X8_drawn_2 : (tb_X8_drawn_2.all fun q => decide (decode cX8_drawn q.1 = .ok q.2)) = true := by decide +kernel
theorem dX8_drawn_73 : decode cX8_drawn 73 = .ok (.getfield 25, 3) := tb_d tk_X8_drawn_2 0 (73, .getfield 25, 3) rfl
theorem dX8_drawn_76 : decode cX8_drawn 76 = .ok (.iconst 3, 1) := tb_d tk_X8_drawn_2 1 (76, .iconst 3, 1) rfl
theorem dX8_drawn_77 : decode cX8_drawn 77 = .ok (.iaload, 1) := tb_d tk_X8_drawn_2 2 (77, .iaload, 1) rfl
theorem dX8_drawn_78 : decode cX8_drawn 78 = .ok (.i2l, 1) := tb_d tk_X8_drawn_2 3 (78, .i2l, 1) rfl
theorem dX8_drawn_79 : decode cX8_drawn 79 = .ok (.lrem, 1) := tb_d tk_X8_drawn_2 4 (79, .lrem, 1) rfl
theorem dX8_drawn_80 : decode cX8_drawn 80 = .ok (.l2i, 1) := tb_d tk_X8_drawn_2 5 (80, .l2i, 1) rfl
theorem dX8_drawn_81 : decode cX8_drawn 81 = .ok (.istore 9, 2) := tb_d tk_X8_drawn_2 6 (81, .istore 9, 2) rfl
theorem dX8_drawn_83 : decode cX8_drawn 83 = .ok (.aload_n 0, 1) := tb_d tk_X8_drawn_2 7 (83, .aload_n 0, 1) rfl
theorem dX8_drawn_84 : decode cX8_drawn 84 = .ok (.iload 9, 2) := tb_d tk_X8_drawn_2 8 (84, .iload 9, 2) rfl
theorem dX8_drawn_86 : decode cX8_drawn 86 = .ok (.lload 4, 2) := tb_d tk_X8_drawn_2 9 (86, .lload 4, 2) rfl
theorem dX8_drawn_88 : decode cX8_drawn 88 = .ok (.ldc2_w 235, 3) := tb_d tk_X8_drawn_2 10 (88, .ldc2_w 235, 3) rfl
theorem dX8_drawn_91 : decode cX8_drawn 91 = .ok (.lrem, 1) := tb_d tk_X8_drawn_2 11 (91, .lrem, 1) rfl
theorem dX8_drawn_92 : decode cX8_drawn 92 = .ok (.l2i, 1) := tb_d tk_X8_drawn_2 12 (92, .l2i, 1) rfl
theorem dX8_drawn_93 : decode cX8_drawn 93 = .ok (.iload 8, 2) := tb_d tk_X8_drawn_2 13 (93, .iload 8, 2) rfl
theorem dX8_drawn_95 : decode cX8_drawn 95 = .ok (.invokevirtual 196, 3) := tb_d tk_X8_drawn_2 14 (95, .invokevirtual 196, 3) rfl
theorem dX8_drawn_98 : decode cX8_drawn 98 = .ok (.istore 10, 2) := tb_d tk_X8_drawn_2 15 (98, .istore 10, 2) rfl
theorem dX8_drawn_100 : decode cX8_drawn 100 = .ok (.iload 6, 2) := tb_d tk_X8_drawn_2 16 (100, .iload 6, 2) rfl
theorem dX8_drawn_102 : decode cX8_drawn 102 = .ok (.iload 10, 2) := tb_d tk_X8_drawn_2 17 (102, .iload 10, 2) rfl
theorem dX8_drawn_104 : decode cX8_drawn 104 = .ok (.ifCond .eq 7, 3) := tb_d tk_X8_drawn_2 18 (104, .ifCond .eq 7, 3) rfl
theorem dX8_drawn_107 : decode cX8_drawn 107 = .ok (.iconst 1, 1) := tb_d tk_X8_drawn_2 19 (107, .iconst 1, 1) rfl
theorem dX8_drawn_108 : decode cX8_drawn 108 = .ok (.goto 4, 3) := tb_d tk_X8_drawn_2 20 (108, .goto 4, 3) rfl
theorem dX8_drawn_111 : decode cX8_drawn 111 = .ok (.iconst 0, 1) := tb_d tk_X8_drawn_2 21 (111, .iconst 0, 1) rfl
theorem dX8_drawn_112 : decode cX8_drawn 112 = .ok (.iadd, 1) := tb_d tk_X8_drawn_2 22 (112, .iadd, 1) rfl
theorem dX8_drawn_113 : decode cX8_drawn 113 = .ok (.istore 6, 2) := tb_d tk_X8_drawn_2 23 (113, .istore 6, 2) rfl
theorem dX8_drawn_115 : decode cX8_drawn 115 = .ok (.iload 7, 2) := tb_d tk_X8_drawn_2 24 (115, .iload 7, 2) rfl
theorem dX8_drawn_117 : decode cX8_drawn 117 = .ok (.iload 10, 2) := tb_d tk_X8_drawn_2 25 (117, .iload 10, 2) rfl
theorem dX8_drawn_119 : decode cX8_drawn 119 = .ok (.ifCond .eq 7, 3) := tb_d tk_X8_drawn_2 26 (119, .ifCond .eq 7, 3) rfl
theorem dX8_drawn_122 : decode cX8_drawn 122 = .ok (.iconst 0, 1) := tb_d tk_X8_drawn_2 27 (122, .iconst 0, 1) rfl
theorem dX8_drawn_123 : decode cX8_drawn 123 = .ok (.goto 7, 3) := tb_d tk_X8_drawn_2 28 (123, .goto 7, 3) rfl
theorem dX8_drawn_126 : decode cX8_drawn 126 = .ok (.iconst 1, 1) := tb_d tk_X8_drawn_2 29 (126, .iconst 1, 1) rfl
theorem dX8_drawn_127 : decode cX8_drawn 127 = .ok (.iload 9, 2) := tb_d tk_X8_drawn_2 30 (127, .iload 9, 2) rfl
theorem dX8_drawn_129 : decode cX8_drawn 129 = .ok (.ishl, 1) := tb_d tk_X8_drawn_2 31 (129, .ishl, 1) rfl
theorem dX8_drawn_130 : decode cX8_drawn 130 = .ok (.ior, 1) := tb_d tk_X8_drawn_2 32 (130, .ior, 1) rfl
theorem dX8_drawn_131 : decode cX8_drawn 131 = .ok (.istore 7, 2) := tb_d tk_X8_drawn_2 33 (131, .istore 7, 2) rfl
theorem dX8_drawn_133 : decode cX8_drawn 133 = .ok (.iinc 8 1, 3) := tb_d tk_X8_drawn_2 34 (133, .iinc 8 1, 3) rfl
theorem dX8_drawn_136 : decode cX8_drawn 136 = .ok (.goto (-84), 3) := tb_d tk_X8_drawn_2 35 (136, .goto (-84), 3) rfl
theorem dX8_drawn_139 : decode cX8_drawn 139 = .ok (.iload_n 3, 1) := tb_d tk_X8_drawn_2 36 (139, .iload_n 3, 1) rfl
theorem dX8_drawn_140 : decode cX8_drawn 140 = .ok (.ifCond .ne 8, 3) := tb_d tk_X8_drawn_2 37 (140, .ifCond .ne 8, 3) rfl
theorem dX8_drawn_143 : decode cX8_drawn 143 = .ok (.iload 6, 2) := tb_d tk_X8_drawn_2 38 (143, .iload 6, 2) rfl
theorem dX8_drawn_145 : decode cX8_drawn 145 = .ok (.goto 5, 3) := tb_d tk_X8_drawn_2 39 (145, .goto 5, 3) rfl
def tb_X8_drawn_3 : List (Nat × Instr × Nat) := [(148, .iload 7, 2), (150, .ireturn, 1)]
set_option maxRecDepth 100000 in
theorem tk_X8_drawn_3 : (tb_X8_drawn_3.all fun q => decide (decode cX8_drawn q.1 = .ok q.2)) = true := by decide +kernel
theorem dX8_drawn_148 : decode cX8_drawn 148 = .ok (.iload 7, 2) := tb_d tk_X8_drawn_3 0 (148, .iload 7, 2) rfl
theorem dX8_drawn_150 : decode cX8_drawn 150 = .ok (.ireturn, 1) := tb_d tk_X8_drawn_3 1 (150, .ireturn, 1) rfl
theorem ggX8_image_X8_in : GoodIn wsX8_image wsX8_in := fun w h => ⟨List.mem_cons_of_mem _ (List.mem_append_right _ (List.mem_append_right _ (List.mem_append_right _ (List.mem_append_right _ (List.mem_append_right _ (List.mem_append_left _ h)))))), good_of_word (gdX8_in w h)⟩
set_option maxRecDepth 20000 in
theorem gX8_image_X8_in : GoodIn wsX8_image (va_wsS RX8 56 yX8_in wsX8_in) := goodIn_app (a := bkS RX8 56 yX8_in) (fun w h => ⟨List.mem_cons_of_mem _ (List.mem_append_right _ (List.mem_append_left _ h)), good_of_word (gd_bS _ _ _ w h)⟩) ggX8_image_X8_in
theorem ggX8_image_X8_isGate : GoodIn wsX8_image wsX8_isGate := fun w h => ⟨List.mem_cons_of_mem _ (List.mem_append_right _ (List.mem_append_right _ (List.mem_append_right _ (List.mem_append_right _ (List.mem_append_right _ (List.mem_append_right _ (List.mem_append_left _ h))))))), good_of_word (gdX8_isGate w h)⟩
set_option maxRecDepth 20000 in
theorem gX8_image_X8_isGate : GoodIn wsX8_image (wsV RX8 180 RX8 yX8_isGate wsX8_isGate) := goodIn_app (a := bkV RX8 180 RX8 yX8_isGate) (fun w h => ⟨List.mem_cons_of_mem _ (List.mem_append_right _ (List.mem_append_right _ (List.mem_append_left _ h))), good_of_word (gd_bV _ _ _ _ w h)⟩) ggX8_image_X8_isGate
theorem ggX8_image_X8_copies : GoodIn wsX8_image wsX8_copies := fun w h => ⟨List.mem_cons_of_mem _ (List.mem_append_right _ (List.mem_append_right _ (List.mem_append_right _ (List.mem_append_right _ (List.mem_append_right _ (List.mem_append_right _ (List.mem_append_right _ (List.mem_append_left _ h)))))))), good_of_word (gdX8_copies w h)⟩
set_option maxRecDepth 20000 in
theorem gX8_image_X8_copies : GoodIn wsX8_image (va_wsS RX8 145 yX8_copies wsX8_copies) := goodIn_app (a := bkS RX8 145 yX8_copies) (fun w h => ⟨List.mem_cons_of_mem _ (List.mem_append_right _ (List.mem_append_right _ (List.mem_append_right _ (List.mem_append_left _ h)))), good_of_word (gd_bS _ _ _ w h)⟩) ggX8_image_X8_copies
def tb_X8_image_1 : List (Nat × Instr × Nat) := [(0, .iload_n 1, 1), (1, .iconst 0, 1), (2, .iconst 1, 1), (3, .invokestatic 56, 3), (6, .ifCond .ne 6, 3), (9, .ldc 64, 2), (11, .ireturn, 1), (12, .aload_n 0, 1), (13, .invokevirtual 180, 3), (16, .ifCond .ne 6, 3), (19, .ldc 183, 2), (21, .ireturn, 1), (22, .aload_n 0, 1), (23, .getfield 25, 3), (26, .iconst 0, 1), (27, .aload_n 0, 1), (28, .getfield 37, 3), (31, .bipush 65, 2), (33, .iload_n 1, 1), (34, .imul, 1), (35, .invokestatic 145, 3), (38, .aload_n 0, 1), (39, .getfield 40, 3), (42, .iload_n 1, 1), (43, .iconst 1, 1), (44, .bastore, 1), (45, .iconst 1, 1), (46, .ireturn, 1)]
set_option maxRecDepth 100000 in
theorem tk_X8_image_1 : (tb_X8_image_1.all fun q => decide (decode cX8_image q.1 = .ok q.2)) = true := by decide +kernel
theorem dX8_image_0 : decode cX8_image 0 = .ok (.iload_n 1, 1) := tb_d tk_X8_image_1 0 (0, .iload_n 1, 1) rfl
theorem dX8_image_1 : decode cX8_image 1 = .ok (.iconst 0, 1) := tb_d tk_X8_image_1 1 (1, .iconst 0, 1) rfl
theorem dX8_image_2 : decode cX8_image 2 = .ok (.iconst 1, 1) := tb_d tk_X8_image_1 2 (2, .iconst 1, 1) rfl
theorem dX8_image_3 : decode cX8_image 3 = .ok (.invokestatic 56, 3) := tb_d tk_X8_image_1 3 (3, .invokestatic 56, 3) rfl
theorem dX8_image_6 : decode cX8_image 6 = .ok (.ifCond .ne 6, 3) := tb_d tk_X8_image_1 4 (6, .ifCond .ne 6, 3) rfl
theorem dX8_image_9 : decode cX8_image 9 = .ok (.ldc 64, 2) := tb_d tk_X8_image_1 5 (9, .ldc 64, 2) rfl
theorem dX8_image_11 : decode cX8_image 11 = .ok (.ireturn, 1) := tb_d tk_X8_image_1 6 (11, .ireturn, 1) rfl
theorem dX8_image_12 : decode cX8_image 12 = .ok (.aload_n 0, 1) := tb_d tk_X8_image_1 7 (12, .aload_n 0, 1) rfl
theorem dX8_image_13 : decode cX8_image 13 = .ok (.invokevirtual 180, 3) := tb_d tk_X8_image_1 8 (13, .invokevirtual 180, 3) rfl
theorem dX8_image_16 : decode cX8_image 16 = .ok (.ifCond .ne 6, 3) := tb_d tk_X8_image_1 9 (16, .ifCond .ne 6, 3) rfl
theorem dX8_image_19 : decode cX8_image 19 = .ok (.ldc 183, 2) := tb_d tk_X8_image_1 10 (19, .ldc 183, 2) rfl
theorem dX8_image_21 : decode cX8_image 21 = .ok (.ireturn, 1) := tb_d tk_X8_image_1 11 (21, .ireturn, 1) rfl
theorem dX8_image_22 : decode cX8_image 22 = .ok (.aload_n 0, 1) := tb_d tk_X8_image_1 12 (22, .aload_n 0, 1) rfl
theorem dX8_image_23 : decode cX8_image 23 = .ok (.getfield 25, 3) := tb_d tk_X8_image_1 13 (23, .getfield 25, 3) rfl
theorem dX8_image_26 : decode cX8_image 26 = .ok (.iconst 0, 1) := tb_d tk_X8_image_1 14 (26, .iconst 0, 1) rfl
theorem dX8_image_27 : decode cX8_image 27 = .ok (.aload_n 0, 1) := tb_d tk_X8_image_1 15 (27, .aload_n 0, 1) rfl
theorem dX8_image_28 : decode cX8_image 28 = .ok (.getfield 37, 3) := tb_d tk_X8_image_1 16 (28, .getfield 37, 3) rfl
theorem dX8_image_31 : decode cX8_image 31 = .ok (.bipush 65, 2) := tb_d tk_X8_image_1 17 (31, .bipush 65, 2) rfl
theorem dX8_image_33 : decode cX8_image 33 = .ok (.iload_n 1, 1) := tb_d tk_X8_image_1 18 (33, .iload_n 1, 1) rfl
theorem dX8_image_34 : decode cX8_image 34 = .ok (.imul, 1) := tb_d tk_X8_image_1 19 (34, .imul, 1) rfl
theorem dX8_image_35 : decode cX8_image 35 = .ok (.invokestatic 145, 3) := tb_d tk_X8_image_1 20 (35, .invokestatic 145, 3) rfl
theorem dX8_image_38 : decode cX8_image 38 = .ok (.aload_n 0, 1) := tb_d tk_X8_image_1 21 (38, .aload_n 0, 1) rfl
theorem dX8_image_39 : decode cX8_image 39 = .ok (.getfield 40, 3) := tb_d tk_X8_image_1 22 (39, .getfield 40, 3) rfl
theorem dX8_image_42 : decode cX8_image 42 = .ok (.iload_n 1, 1) := tb_d tk_X8_image_1 23 (42, .iload_n 1, 1) rfl
theorem dX8_image_43 : decode cX8_image 43 = .ok (.iconst 1, 1) := tb_d tk_X8_image_1 24 (43, .iconst 1, 1) rfl
theorem dX8_image_44 : decode cX8_image 44 = .ok (.bastore, 1) := tb_d tk_X8_image_1 25 (44, .bastore, 1) rfl
theorem dX8_image_45 : decode cX8_image 45 = .ok (.iconst 1, 1) := tb_d tk_X8_image_1 26 (45, .iconst 1, 1) rfl
theorem dX8_image_46 : decode cX8_image 46 = .ok (.ireturn, 1) := tb_d tk_X8_image_1 27 (46, .ireturn, 1) rfl
theorem ggX8_restore_X8_in : GoodIn wsX8_restore wsX8_in := fun w h => ⟨List.mem_cons_of_mem _ (List.mem_append_right _ (List.mem_append_right _ (List.mem_append_right _ (List.mem_append_right _ (List.mem_append_left _ h))))), good_of_word (gdX8_in w h)⟩
set_option maxRecDepth 20000 in
theorem gX8_restore_X8_in : GoodIn wsX8_restore (va_wsS RX8 56 yX8_in wsX8_in) := goodIn_app (a := bkS RX8 56 yX8_in) (fun w h => ⟨List.mem_cons_of_mem _ (List.mem_append_right _ (List.mem_append_left _ h)), good_of_word (gd_bS _ _ _ w h)⟩) ggX8_restore_X8_in
theorem ggX8_restore_X8_copies : GoodIn wsX8_restore wsX8_copies := fun w h => ⟨List.mem_cons_of_mem _ (List.mem_append_right _ (List.mem_append_right _ (List.mem_append_right _ (List.mem_append_right _ (List.mem_append_right _ (List.mem_append_left _ h)))))), good_of_word (gdX8_copies w h)⟩
set_option maxRecDepth 20000 in
theorem gX8_restore_X8_copies : GoodIn wsX8_restore (va_wsS RX8 145 yX8_copies wsX8_copies) := goodIn_app (a := bkS RX8 145 yX8_copies) (fun w h => ⟨List.mem_cons_of_mem _ (List.mem_append_right _ (List.mem_append_right _ (List.mem_append_left _ h))), good_of_word (gd_bS _ _ _ w h)⟩) ggX8_restore_X8_copies
def tb_X8_restore_1 : List (Nat × Instr × Nat) := [(0, .iload_n 1, 1), (1, .iconst 0, 1), (2, .iconst 1, 1), (3, .invokestatic 56, 3), (6, .ifCond .ne 6, 3), (9, .ldc 64, 2), (11, .ireturn, 1), (12, .aload_n 0, 1), (13, .getfield 40, 3), (16, .iload_n 1, 1), (17, .baload, 1), (18, .ifCond .ne 6, 3), (21, .ldc 183, 2), (23, .ireturn, 1), (24, .aload_n 0, 1), (25, .getfield 37, 3), (28, .bipush 65, 2), (30, .iload_n 1, 1), (31, .imul, 1), (32, .aload_n 0, 1), (33, .getfield 25, 3), (36, .iconst 0, 1), (37, .invokestatic 145, 3), (40, .aload_n 0, 1), (41, .iconst 0, 1), (42, .putfield 149, 3), (45, .iconst 1, 1), (46, .ireturn, 1)]
set_option maxRecDepth 100000 in
theorem tk_X8_restore_1 : (tb_X8_restore_1.all fun q => decide (decode cX8_restore q.1 = .ok q.2)) = true := by decide +kernel
theorem dX8_restore_0 : decode cX8_restore 0 = .ok (.iload_n 1, 1) := tb_d tk_X8_restore_1 0 (0, .iload_n 1, 1) rfl
theorem dX8_restore_1 : decode cX8_restore 1 = .ok (.iconst 0, 1) := tb_d tk_X8_restore_1 1 (1, .iconst 0, 1) rfl
theorem dX8_restore_2 : decode cX8_restore 2 = .ok (.iconst 1, 1) := tb_d tk_X8_restore_1 2 (2, .iconst 1, 1) rfl
theorem dX8_restore_3 : decode cX8_restore 3 = .ok (.invokestatic 56, 3) := tb_d tk_X8_restore_1 3 (3, .invokestatic 56, 3) rfl
theorem dX8_restore_6 : decode cX8_restore 6 = .ok (.ifCond .ne 6, 3) := tb_d tk_X8_restore_1 4 (6, .ifCond .ne 6, 3) rfl
theorem dX8_restore_9 : decode cX8_restore 9 = .ok (.ldc 64, 2) := tb_d tk_X8_restore_1 5 (9, .ldc 64, 2) rfl
theorem dX8_restore_11 : decode cX8_restore 11 = .ok (.ireturn, 1) := tb_d tk_X8_restore_1 6 (11, .ireturn, 1) rfl
theorem dX8_restore_12 : decode cX8_restore 12 = .ok (.aload_n 0, 1) := tb_d tk_X8_restore_1 7 (12, .aload_n 0, 1) rfl
theorem dX8_restore_13 : decode cX8_restore 13 = .ok (.getfield 40, 3) := tb_d tk_X8_restore_1 8 (13, .getfield 40, 3) rfl
theorem dX8_restore_16 : decode cX8_restore 16 = .ok (.iload_n 1, 1) := tb_d tk_X8_restore_1 9 (16, .iload_n 1, 1) rfl
theorem dX8_restore_17 : decode cX8_restore 17 = .ok (.baload, 1) := tb_d tk_X8_restore_1 10 (17, .baload, 1) rfl
theorem dX8_restore_18 : decode cX8_restore 18 = .ok (.ifCond .ne 6, 3) := tb_d tk_X8_restore_1 11 (18, .ifCond .ne 6, 3) rfl
theorem dX8_restore_21 : decode cX8_restore 21 = .ok (.ldc 183, 2) := tb_d tk_X8_restore_1 12 (21, .ldc 183, 2) rfl
theorem dX8_restore_23 : decode cX8_restore 23 = .ok (.ireturn, 1) := tb_d tk_X8_restore_1 13 (23, .ireturn, 1) rfl
theorem dX8_restore_24 : decode cX8_restore 24 = .ok (.aload_n 0, 1) := tb_d tk_X8_restore_1 14 (24, .aload_n 0, 1) rfl
theorem dX8_restore_25 : decode cX8_restore 25 = .ok (.getfield 37, 3) := tb_d tk_X8_restore_1 15 (25, .getfield 37, 3) rfl
theorem dX8_restore_28 : decode cX8_restore 28 = .ok (.bipush 65, 2) := tb_d tk_X8_restore_1 16 (28, .bipush 65, 2) rfl
theorem dX8_restore_30 : decode cX8_restore 30 = .ok (.iload_n 1, 1) := tb_d tk_X8_restore_1 17 (30, .iload_n 1, 1) rfl
theorem dX8_restore_31 : decode cX8_restore 31 = .ok (.imul, 1) := tb_d tk_X8_restore_1 18 (31, .imul, 1) rfl
theorem dX8_restore_32 : decode cX8_restore 32 = .ok (.aload_n 0, 1) := tb_d tk_X8_restore_1 19 (32, .aload_n 0, 1) rfl
theorem dX8_restore_33 : decode cX8_restore 33 = .ok (.getfield 25, 3) := tb_d tk_X8_restore_1 20 (33, .getfield 25, 3) rfl
theorem dX8_restore_36 : decode cX8_restore 36 = .ok (.iconst 0, 1) := tb_d tk_X8_restore_1 21 (36, .iconst 0, 1) rfl
theorem dX8_restore_37 : decode cX8_restore 37 = .ok (.invokestatic 145, 3) := tb_d tk_X8_restore_1 22 (37, .invokestatic 145, 3) rfl
theorem dX8_restore_40 : decode cX8_restore 40 = .ok (.aload_n 0, 1) := tb_d tk_X8_restore_1 23 (40, .aload_n 0, 1) rfl
theorem dX8_restore_41 : decode cX8_restore 41 = .ok (.iconst 0, 1) := tb_d tk_X8_restore_1 24 (41, .iconst 0, 1) rfl
theorem dX8_restore_42 : decode cX8_restore 42 = .ok (.putfield 149, 3) := tb_d tk_X8_restore_1 25 (42, .putfield 149, 3) rfl
theorem dX8_restore_45 : decode cX8_restore 45 = .ok (.iconst 1, 1) := tb_d tk_X8_restore_1 26 (45, .iconst 1, 1) rfl
theorem dX8_restore_46 : decode cX8_restore 46 = .ok (.ireturn, 1) := tb_d tk_X8_restore_1 27 (46, .ireturn, 1) rfl
theorem ggX8_kind_X8_isGuard : GoodIn wsX8_kind wsX8_isGuard := fun w h => ⟨List.mem_cons_of_mem _ (List.mem_append_right _ (List.mem_append_right _ (List.mem_append_right _ (List.mem_append_right _ (List.mem_append_left _ h))))), good_of_word (gdX8_isGuard w h)⟩
set_option maxRecDepth 20000 in
theorem gX8_kind_X8_isGuard : GoodIn wsX8_kind (wsV RX8 199 RX8 yX8_isGuard wsX8_isGuard) := goodIn_app (a := bkV RX8 199 RX8 yX8_isGuard) (fun w h => ⟨List.mem_cons_of_mem _ (List.mem_append_right _ (List.mem_append_left _ h)), good_of_word (gd_bV _ _ _ _ w h)⟩) ggX8_kind_X8_isGuard
theorem ggX8_kind_X8_kindIn : GoodIn wsX8_kind wsX8_kindIn := fun w h => ⟨List.mem_cons_of_mem _ (List.mem_append_right _ (List.mem_append_right _ (List.mem_append_right _ (List.mem_append_right _ (List.mem_append_right _ (List.mem_append_left _ h)))))), good_of_word (gdX8_kindIn w h)⟩
set_option maxRecDepth 20000 in
theorem gX8_kind_X8_kindIn : GoodIn wsX8_kind (wsV RX8 165 RX8 yX8_kindIn wsX8_kindIn) := goodIn_app (a := bkV RX8 165 RX8 yX8_kindIn) (fun w h => ⟨List.mem_cons_of_mem _ (List.mem_append_right _ (List.mem_append_right _ (List.mem_append_left _ h))), good_of_word (gd_bV _ _ _ _ w h)⟩) ggX8_kind_X8_kindIn
def tb_X8_kind_1 : List (Nat × Instr × Nat) := [(0, .aload_n 0, 1), (1, .iload_n 1, 1), (2, .invokevirtual 199, 3), (5, .ifCond .eq 11, 3), (8, .aload_n 0, 1), (9, .iload_n 1, 1), (10, .invokevirtual 165, 3), (13, .goto 5, 3), (16, .ldc 64, 2), (18, .ireturn, 1)]
set_option maxRecDepth 100000 in
theorem tk_X8_kind_1 : (tb_X8_kind_1.all fun q => decide (decode cX8_kind q.1 = .ok q.2)) = true := by decide +kernel
theorem dX8_kind_0 : decode cX8_kind 0 = .ok (.aload_n 0, 1) := tb_d tk_X8_kind_1 0 (0, .aload_n 0, 1) rfl
theorem dX8_kind_1 : decode cX8_kind 1 = .ok (.iload_n 1, 1) := tb_d tk_X8_kind_1 1 (1, .iload_n 1, 1) rfl
theorem dX8_kind_2 : decode cX8_kind 2 = .ok (.invokevirtual 199, 3) := tb_d tk_X8_kind_1 2 (2, .invokevirtual 199, 3) rfl
theorem dX8_kind_5 : decode cX8_kind 5 = .ok (.ifCond .eq 11, 3) := tb_d tk_X8_kind_1 3 (5, .ifCond .eq 11, 3) rfl
theorem dX8_kind_8 : decode cX8_kind 8 = .ok (.aload_n 0, 1) := tb_d tk_X8_kind_1 4 (8, .aload_n 0, 1) rfl
theorem dX8_kind_9 : decode cX8_kind 9 = .ok (.iload_n 1, 1) := tb_d tk_X8_kind_1 5 (9, .iload_n 1, 1) rfl
theorem dX8_kind_10 : decode cX8_kind 10 = .ok (.invokevirtual 165, 3) := tb_d tk_X8_kind_1 6 (10, .invokevirtual 165, 3) rfl
theorem dX8_kind_13 : decode cX8_kind 13 = .ok (.goto 5, 3) := tb_d tk_X8_kind_1 7 (13, .goto 5, 3) rfl
theorem dX8_kind_16 : decode cX8_kind 16 = .ok (.ldc 64, 2) := tb_d tk_X8_kind_1 8 (16, .ldc 64, 2) rfl
theorem dX8_kind_18 : decode cX8_kind 18 = .ok (.ireturn, 1) := tb_d tk_X8_kind_1 9 (18, .ireturn, 1) rfl
theorem ggX8_as_X8_isGuard : GoodIn wsX8_as wsX8_isGuard := fun w h => ⟨List.mem_cons_of_mem _ (List.mem_append_right _ (List.mem_append_right _ (List.mem_append_right _ (List.mem_append_right _ (List.mem_append_right _ (List.mem_append_right _ (List.mem_append_right _ (List.mem_append_left _ h)))))))), good_of_word (gdX8_isGuard w h)⟩
set_option maxRecDepth 20000 in
theorem gX8_as_X8_isGuard : GoodIn wsX8_as (wsV RX8 199 RX8 yX8_isGuard wsX8_isGuard) := goodIn_app (a := bkV RX8 199 RX8 yX8_isGuard) (fun w h => ⟨List.mem_cons_of_mem _ (List.mem_append_right _ (List.mem_append_left _ h)), good_of_word (gd_bV _ _ _ _ w h)⟩) ggX8_as_X8_isGuard
theorem ggX8_as_X8_in : GoodIn wsX8_as wsX8_in := fun w h => ⟨List.mem_cons_of_mem _ (List.mem_append_right _ (List.mem_append_right _ (List.mem_append_right _ (List.mem_append_right _ (List.mem_append_right _ (List.mem_append_right _ (List.mem_append_right _ (List.mem_append_right _ (List.mem_append_left _ h))))))))), good_of_word (gdX8_in w h)⟩
set_option maxRecDepth 20000 in
theorem gX8_as_X8_in : GoodIn wsX8_as (va_wsS RX8 56 yX8_in wsX8_in) := goodIn_app (a := bkS RX8 56 yX8_in) (fun w h => ⟨List.mem_cons_of_mem _ (List.mem_append_right _ (List.mem_append_right _ (List.mem_append_left _ h))), good_of_word (gd_bS _ _ _ w h)⟩) ggX8_as_X8_in
theorem ggX8_as_X8_kindIn : GoodIn wsX8_as wsX8_kindIn := fun w h => ⟨List.mem_cons_of_mem _ (List.mem_append_right _ (List.mem_append_right _ (List.mem_append_right _ (List.mem_append_right _ (List.mem_append_right _ (List.mem_append_right _ (List.mem_append_right _ (List.mem_append_right _ (List.mem_append_right _ (List.mem_append_left _ h)))))))))), good_of_word (gdX8_kindIn w h)⟩
set_option maxRecDepth 20000 in
theorem gX8_as_X8_kindIn : GoodIn wsX8_as (wsV RX8 165 RX8 yX8_kindIn wsX8_kindIn) := goodIn_app (a := bkV RX8 165 RX8 yX8_kindIn) (fun w h => ⟨List.mem_cons_of_mem _ (List.mem_append_right _ (List.mem_append_right _ (List.mem_append_right _ (List.mem_append_left _ h)))), good_of_word (gd_bV _ _ _ _ w h)⟩) ggX8_as_X8_kindIn
theorem ggX8_as_X8_well : GoodIn wsX8_as wsX8_well := fun w h => ⟨List.mem_cons_of_mem _ (List.mem_append_right _ (List.mem_append_right _ (List.mem_append_right _ (List.mem_append_right _ (List.mem_append_right _ (List.mem_append_right _ (List.mem_append_right _ (List.mem_append_right _ (List.mem_append_right _ (List.mem_append_right _ (List.mem_append_left _ h))))))))))), good_of_word (gdX8_well w h)⟩
set_option maxRecDepth 20000 in
theorem gX8_as_X8_well : GoodIn wsX8_as (wsV RX8 69 RX8 yX8_well wsX8_well) := goodIn_app (a := bkV RX8 69 RX8 yX8_well) (fun w h => ⟨List.mem_cons_of_mem _ (List.mem_append_right _ (List.mem_append_right _ (List.mem_append_right _ (List.mem_append_right _ (List.mem_append_left _ h))))), good_of_word (gd_bV _ _ _ _ w h)⟩) ggX8_as_X8_well
theorem ggX8_as_X8_found : GoodIn wsX8_as wsX8_found := fun w h => ⟨List.mem_cons_of_mem _ (List.mem_append_right _ (List.mem_append_right _ (List.mem_append_right _ (List.mem_append_right _ (List.mem_append_right _ (List.mem_append_right _ (List.mem_append_right _ (List.mem_append_right _ (List.mem_append_right _ (List.mem_append_right _ (List.mem_append_right _ (List.mem_append_left _ h)))))))))))), good_of_word (gdX8_found w h)⟩
set_option maxRecDepth 20000 in
theorem gX8_as_X8_found : GoodIn wsX8_as (wsV RX8 65 RX8 yX8_found wsX8_found) := goodIn_app (a := bkV RX8 65 RX8 yX8_found) (fun w h => ⟨List.mem_cons_of_mem _ (List.mem_append_right _ (List.mem_append_right _ (List.mem_append_right _ (List.mem_append_right _ (List.mem_append_right _ (List.mem_append_left _ h)))))), good_of_word (gd_bV _ _ _ _ w h)⟩) ggX8_as_X8_found
def tb_X8_as_1 : List (Nat × Instr × Nat) := [(0, .aload_n 0, 1), (1, .iload_n 1, 1), (2, .invokevirtual 199, 3), (5, .ifCond .eq 12, 3), (8, .iload_n 2, 1), (9, .iconst 0, 1), (10, .iconst 5, 1), (11, .invokestatic 56, 3), (14, .ifCond .ne 6, 3), (17, .ldc 64, 2), (19, .ireturn, 1), (20, .aload_n 0, 1), (21, .iload_n 1, 1), (22, .invokevirtual 165, 3), (25, .istore_n 3, 1), (26, .iload_n 2, 1), (27, .ifCond .eq 28, 3), (30, .iload_n 2, 1), (31, .iload_n 3, 1), (32, .if_icmp .eq 23, 3), (35, .iload_n 2, 1), (36, .iconst 1, 1), (37, .if_icmp .ne 8, 3), (40, .iload_n 3, 1), (41, .iconst 4, 1), (42, .if_icmp .lt 13, 3), (45, .iload_n 2, 1), (46, .iconst 4, 1), (47, .if_icmp .ne 12, 3), (50, .iload_n 3, 1), (51, .iconst 5, 1), (52, .if_icmp .ne 7, 3), (55, .iconst 1, 1), (56, .goto 4, 3), (59, .iconst 0, 1), (60, .istore 4, 2), (62, .iload 4, 2), (64, .ifCond .eq 11, 3), (67, .aload_n 0, 1), (68, .iload_n 1, 1)]
set_option maxRecDepth 100000 in
theorem tk_X8_as_1 : (tb_X8_as_1.all fun q => decide (decode cX8_as q.1 = .ok q.2)) = true := by decide +kernel
theorem dX8_as_0 : decode cX8_as 0 = .ok (.aload_n 0, 1) := tb_d tk_X8_as_1 0 (0, .aload_n 0, 1) rfl
theorem dX8_as_1 : decode cX8_as 1 = .ok (.iload_n 1, 1) := tb_d tk_X8_as_1 1 (1, .iload_n 1, 1) rfl
theorem dX8_as_2 : decode cX8_as 2 = .ok (.invokevirtual 199, 3) := tb_d tk_X8_as_1 2 (2, .invokevirtual 199, 3) rfl
theorem dX8_as_5 : decode cX8_as 5 = .ok (.ifCond .eq 12, 3) := tb_d tk_X8_as_1 3 (5, .ifCond .eq 12, 3) rfl
theorem dX8_as_8 : decode cX8_as 8 = .ok (.iload_n 2, 1) := tb_d tk_X8_as_1 4 (8, .iload_n 2, 1) rfl
theorem dX8_as_9 : decode cX8_as 9 = .ok (.iconst 0, 1) := tb_d tk_X8_as_1 5 (9, .iconst 0, 1) rfl
theorem dX8_as_10 : decode cX8_as 10 = .ok (.iconst 5, 1) := tb_d tk_X8_as_1 6 (10, .iconst 5, 1) rfl
theorem dX8_as_11 : decode cX8_as 11 = .ok (.invokestatic 56, 3) := tb_d tk_X8_as_1 7 (11, .invokestatic 56, 3) rfl
theorem dX8_as_14 : decode cX8_as 14 = .ok (.ifCond .ne 6, 3) := tb_d tk_X8_as_1 8 (14, .ifCond .ne 6, 3) rfl
theorem dX8_as_17 : decode cX8_as 17 = .ok (.ldc 64, 2) := tb_d tk_X8_as_1 9 (17, .ldc 64, 2) rfl
theorem dX8_as_19 : decode cX8_as 19 = .ok (.ireturn, 1) := tb_d tk_X8_as_1 10 (19, .ireturn, 1) rfl
theorem dX8_as_20 : decode cX8_as 20 = .ok (.aload_n 0, 1) := tb_d tk_X8_as_1 11 (20, .aload_n 0, 1) rfl
theorem dX8_as_21 : decode cX8_as 21 = .ok (.iload_n 1, 1) := tb_d tk_X8_as_1 12 (21, .iload_n 1, 1) rfl
theorem dX8_as_22 : decode cX8_as 22 = .ok (.invokevirtual 165, 3) := tb_d tk_X8_as_1 13 (22, .invokevirtual 165, 3) rfl
theorem dX8_as_25 : decode cX8_as 25 = .ok (.istore_n 3, 1) := tb_d tk_X8_as_1 14 (25, .istore_n 3, 1) rfl
theorem dX8_as_26 : decode cX8_as 26 = .ok (.iload_n 2, 1) := tb_d tk_X8_as_1 15 (26, .iload_n 2, 1) rfl
theorem dX8_as_27 : decode cX8_as 27 = .ok (.ifCond .eq 28, 3) := tb_d tk_X8_as_1 16 (27, .ifCond .eq 28, 3) rfl
theorem dX8_as_30 : decode cX8_as 30 = .ok (.iload_n 2, 1) := tb_d tk_X8_as_1 17 (30, .iload_n 2, 1) rfl
theorem dX8_as_31 : decode cX8_as 31 = .ok (.iload_n 3, 1) := tb_d tk_X8_as_1 18 (31, .iload_n 3, 1) rfl
theorem dX8_as_32 : decode cX8_as 32 = .ok (.if_icmp .eq 23, 3) := tb_d tk_X8_as_1 19 (32, .if_icmp .eq 23, 3) rfl
theorem dX8_as_35 : decode cX8_as 35 = .ok (.iload_n 2, 1) := tb_d tk_X8_as_1 20 (35, .iload_n 2, 1) rfl
theorem dX8_as_36 : decode cX8_as 36 = .ok (.iconst 1, 1) := tb_d tk_X8_as_1 21 (36, .iconst 1, 1) rfl
theorem dX8_as_37 : decode cX8_as 37 = .ok (.if_icmp .ne 8, 3) := tb_d tk_X8_as_1 22 (37, .if_icmp .ne 8, 3) rfl
theorem dX8_as_40 : decode cX8_as 40 = .ok (.iload_n 3, 1) := tb_d tk_X8_as_1 23 (40, .iload_n 3, 1) rfl
theorem dX8_as_41 : decode cX8_as 41 = .ok (.iconst 4, 1) := tb_d tk_X8_as_1 24 (41, .iconst 4, 1) rfl
theorem dX8_as_42 : decode cX8_as 42 = .ok (.if_icmp .lt 13, 3) := tb_d tk_X8_as_1 25 (42, .if_icmp .lt 13, 3) rfl
theorem dX8_as_45 : decode cX8_as 45 = .ok (.iload_n 2, 1) := tb_d tk_X8_as_1 26 (45, .iload_n 2, 1) rfl
theorem dX8_as_46 : decode cX8_as 46 = .ok (.iconst 4, 1) := tb_d tk_X8_as_1 27 (46, .iconst 4, 1) rfl
theorem dX8_as_47 : decode cX8_as 47 = .ok (.if_icmp .ne 12, 3) := tb_d tk_X8_as_1 28 (47, .if_icmp .ne 12, 3) rfl
theorem dX8_as_50 : decode cX8_as 50 = .ok (.iload_n 3, 1) := tb_d tk_X8_as_1 29 (50, .iload_n 3, 1) rfl
theorem dX8_as_51 : decode cX8_as 51 = .ok (.iconst 5, 1) := tb_d tk_X8_as_1 30 (51, .iconst 5, 1) rfl
theorem dX8_as_52 : decode cX8_as 52 = .ok (.if_icmp .ne 7, 3) := tb_d tk_X8_as_1 31 (52, .if_icmp .ne 7, 3) rfl
theorem dX8_as_55 : decode cX8_as 55 = .ok (.iconst 1, 1) := tb_d tk_X8_as_1 32 (55, .iconst 1, 1) rfl
theorem dX8_as_56 : decode cX8_as 56 = .ok (.goto 4, 3) := tb_d tk_X8_as_1 33 (56, .goto 4, 3) rfl
theorem dX8_as_59 : decode cX8_as 59 = .ok (.iconst 0, 1) := tb_d tk_X8_as_1 34 (59, .iconst 0, 1) rfl
theorem dX8_as_60 : decode cX8_as 60 = .ok (.istore 4, 2) := tb_d tk_X8_as_1 35 (60, .istore 4, 2) rfl
theorem dX8_as_62 : decode cX8_as 62 = .ok (.iload 4, 2) := tb_d tk_X8_as_1 36 (62, .iload 4, 2) rfl
theorem dX8_as_64 : decode cX8_as 64 = .ok (.ifCond .eq 11, 3) := tb_d tk_X8_as_1 37 (64, .ifCond .eq 11, 3) rfl
theorem dX8_as_67 : decode cX8_as 67 = .ok (.aload_n 0, 1) := tb_d tk_X8_as_1 38 (67, .aload_n 0, 1) rfl
theorem dX8_as_68 : decode cX8_as 68 = .ok (.iload_n 1, 1) := tb_d tk_X8_as_1 39 (68, .iload_n 1, 1) rfl
def tb_X8_as_2 : List (Nat × Instr × Nat) := [(69, .invokevirtual 69, 3), (72, .goto 8, 3), (75, .aload_n 0, 1), (76, .iconst 3, 1), (77, .invokevirtual 65, 3), (80, .ireturn, 1)]
set_option maxRecDepth 100000 in
theorem tk_X8_as_2 : (tb_X8_as_2.all fun q => decide (decode cX8_as q.1 = .ok q.2)) = true := by decide +kernel
theorem dX8_as_69 : decode cX8_as 69 = .ok (.invokevirtual 69, 3) := tb_d tk_X8_as_2 0 (69, .invokevirtual 69, 3) rfl
theorem dX8_as_72 : decode cX8_as 72 = .ok (.goto 8, 3) := tb_d tk_X8_as_2 1 (72, .goto 8, 3) rfl
theorem dX8_as_75 : decode cX8_as 75 = .ok (.aload_n 0, 1) := tb_d tk_X8_as_2 2 (75, .aload_n 0, 1) rfl
theorem dX8_as_76 : decode cX8_as 76 = .ok (.iconst 3, 1) := tb_d tk_X8_as_2 3 (76, .iconst 3, 1) rfl
theorem dX8_as_77 : decode cX8_as 77 = .ok (.invokevirtual 65, 3) := tb_d tk_X8_as_2 4 (77, .invokevirtual 65, 3) rfl
theorem dX8_as_80 : decode cX8_as 80 = .ok (.ireturn, 1) := tb_d tk_X8_as_2 5 (80, .ireturn, 1) rfl
def tb_X8_begins_1 : List (Nat × Instr × Nat) := [(0, .aload_n 0, 1), (1, .getfield 237, 3), (4, .bipush 16, 2), (6, .if_icmp .ge 23, 3), (9, .aload_n 0, 1), (10, .getfield 47, 3), (13, .aload_n 0, 1), (14, .getfield 237, 3), (17, .iload_n 1, 1), (18, .iastore, 1), (19, .aload_n 0, 1), (20, .dup, 1), (21, .getfield 237, 3), (24, .iconst 1, 1), (25, .iadd, 1), (26, .putfield 237, 3), (29, .return_, 1)]
set_option maxRecDepth 100000 in
theorem tk_X8_begins_1 : (tb_X8_begins_1.all fun q => decide (decode cX8_begins q.1 = .ok q.2)) = true := by decide +kernel
theorem dX8_begins_0 : decode cX8_begins 0 = .ok (.aload_n 0, 1) := tb_d tk_X8_begins_1 0 (0, .aload_n 0, 1) rfl
theorem dX8_begins_1 : decode cX8_begins 1 = .ok (.getfield 237, 3) := tb_d tk_X8_begins_1 1 (1, .getfield 237, 3) rfl
theorem dX8_begins_4 : decode cX8_begins 4 = .ok (.bipush 16, 2) := tb_d tk_X8_begins_1 2 (4, .bipush 16, 2) rfl
theorem dX8_begins_6 : decode cX8_begins 6 = .ok (.if_icmp .ge 23, 3) := tb_d tk_X8_begins_1 3 (6, .if_icmp .ge 23, 3) rfl
theorem dX8_begins_9 : decode cX8_begins 9 = .ok (.aload_n 0, 1) := tb_d tk_X8_begins_1 4 (9, .aload_n 0, 1) rfl
theorem dX8_begins_10 : decode cX8_begins 10 = .ok (.getfield 47, 3) := tb_d tk_X8_begins_1 5 (10, .getfield 47, 3) rfl
theorem dX8_begins_13 : decode cX8_begins 13 = .ok (.aload_n 0, 1) := tb_d tk_X8_begins_1 6 (13, .aload_n 0, 1) rfl
theorem dX8_begins_14 : decode cX8_begins 14 = .ok (.getfield 237, 3) := tb_d tk_X8_begins_1 7 (14, .getfield 237, 3) rfl
theorem dX8_begins_17 : decode cX8_begins 17 = .ok (.iload_n 1, 1) := tb_d tk_X8_begins_1 8 (17, .iload_n 1, 1) rfl
theorem dX8_begins_18 : decode cX8_begins 18 = .ok (.iastore, 1) := tb_d tk_X8_begins_1 9 (18, .iastore, 1) rfl
theorem dX8_begins_19 : decode cX8_begins 19 = .ok (.aload_n 0, 1) := tb_d tk_X8_begins_1 10 (19, .aload_n 0, 1) rfl
theorem dX8_begins_20 : decode cX8_begins 20 = .ok (.dup, 1) := tb_d tk_X8_begins_1 11 (20, .dup, 1) rfl
theorem dX8_begins_21 : decode cX8_begins 21 = .ok (.getfield 237, 3) := tb_d tk_X8_begins_1 12 (21, .getfield 237, 3) rfl
theorem dX8_begins_24 : decode cX8_begins 24 = .ok (.iconst 1, 1) := tb_d tk_X8_begins_1 13 (24, .iconst 1, 1) rfl
theorem dX8_begins_25 : decode cX8_begins 25 = .ok (.iadd, 1) := tb_d tk_X8_begins_1 14 (25, .iadd, 1) rfl
theorem dX8_begins_26 : decode cX8_begins 26 = .ok (.putfield 237, 3) := tb_d tk_X8_begins_1 15 (26, .putfield 237, 3) rfl
theorem dX8_begins_29 : decode cX8_begins 29 = .ok (.return_, 1) := tb_d tk_X8_begins_1 16 (29, .return_, 1) rfl
theorem ggX8_keenMark_X8_kindIn : GoodIn wsX8_keenMark wsX8_kindIn := fun w h => ⟨List.mem_cons_of_mem _ (List.mem_append_right _ (List.mem_append_right _ (List.mem_append_right _ (List.mem_append_right _ (List.mem_append_left _ h))))), good_of_word (gdX8_kindIn w h)⟩
set_option maxRecDepth 20000 in
theorem gX8_keenMark_X8_kindIn : GoodIn wsX8_keenMark (wsV RX8 165 RX8 yX8_kindIn wsX8_kindIn) := goodIn_app (a := bkV RX8 165 RX8 yX8_kindIn) (fun w h => ⟨List.mem_cons_of_mem _ (List.mem_append_right _ (List.mem_append_left _ h)), good_of_word (gd_bV _ _ _ _ w h)⟩) ggX8_keenMark_X8_kindIn
theorem ggX8_keenMark_X8_begins : GoodIn wsX8_keenMark wsX8_begins := fun w h => ⟨List.mem_cons_of_mem _ (List.mem_append_right _ (List.mem_append_right _ (List.mem_append_right _ (List.mem_append_right _ (List.mem_append_right _ (List.mem_append_left _ h)))))), good_of_word (gdX8_begins w h)⟩
set_option maxRecDepth 20000 in
theorem gX8_keenMark_X8_begins : GoodIn wsX8_keenMark (wsV RX8 240 RX8 yX8_begins wsX8_begins) := goodIn_app (a := bkV RX8 240 RX8 yX8_begins) (fun w h => ⟨List.mem_cons_of_mem _ (List.mem_append_right _ (List.mem_append_right _ (List.mem_append_left _ h))), good_of_word (gd_bV _ _ _ _ w h)⟩) ggX8_keenMark_X8_begins
def tb_X8_keenMark_1 : List (Nat × Instr × Nat) := [(0, .aload_n 0, 1), (1, .iload_n 1, 1), (2, .invokevirtual 165, 3), (5, .istore_n 2, 1), (6, .iload_n 2, 1), (7, .iconst 1, 1), (8, .if_icmp .eq 19, 3), (11, .aload_n 0, 1), (12, .iload_n 2, 1), (13, .iconst 2, 1), (14, .if_icmp .ne 8, 3), (17, .bipush 24, 2), (19, .goto 5, 3), (22, .bipush 22, 2), (24, .invokevirtual 240, 3), (27, .aload_n 0, 1), (28, .bipush 21, 2), (30, .invokevirtual 240, 3), (33, .aload_n 0, 1), (34, .bipush 20, 2), (36, .invokevirtual 240, 3), (39, .iload_n 1, 1), (40, .aload_n 0, 1), (41, .getfield 25, 3), (44, .bipush 26, 2), (46, .iconst 3, 1), (47, .iload_n 1, 1), (48, .imul, 1), (49, .iadd, 1), (50, .iconst 2, 1), (51, .iadd, 1), (52, .iaload, 1), (53, .iadd, 1), (54, .istore_n 3, 1), (55, .iload_n 2, 1), (56, .iconst 2, 1), (57, .if_icmp .ne 9, 3), (60, .iconst 2, 1), (61, .iload_n 3, 1), (62, .imul, 1)]
set_option maxRecDepth 100000 in
theorem tk_X8_keenMark_1 : (tb_X8_keenMark_1.all fun q => decide (decode cX8_keenMark q.1 = .ok q.2)) = true := by decide +kernel
theorem dX8_keenMark_0 : decode cX8_keenMark 0 = .ok (.aload_n 0, 1) := tb_d tk_X8_keenMark_1 0 (0, .aload_n 0, 1) rfl
theorem dX8_keenMark_1 : decode cX8_keenMark 1 = .ok (.iload_n 1, 1) := tb_d tk_X8_keenMark_1 1 (1, .iload_n 1, 1) rfl
theorem dX8_keenMark_2 : decode cX8_keenMark 2 = .ok (.invokevirtual 165, 3) := tb_d tk_X8_keenMark_1 2 (2, .invokevirtual 165, 3) rfl
theorem dX8_keenMark_5 : decode cX8_keenMark 5 = .ok (.istore_n 2, 1) := tb_d tk_X8_keenMark_1 3 (5, .istore_n 2, 1) rfl
theorem dX8_keenMark_6 : decode cX8_keenMark 6 = .ok (.iload_n 2, 1) := tb_d tk_X8_keenMark_1 4 (6, .iload_n 2, 1) rfl
theorem dX8_keenMark_7 : decode cX8_keenMark 7 = .ok (.iconst 1, 1) := tb_d tk_X8_keenMark_1 5 (7, .iconst 1, 1) rfl
theorem dX8_keenMark_8 : decode cX8_keenMark 8 = .ok (.if_icmp .eq 19, 3) := tb_d tk_X8_keenMark_1 6 (8, .if_icmp .eq 19, 3) rfl
theorem dX8_keenMark_11 : decode cX8_keenMark 11 = .ok (.aload_n 0, 1) := tb_d tk_X8_keenMark_1 7 (11, .aload_n 0, 1) rfl
theorem dX8_keenMark_12 : decode cX8_keenMark 12 = .ok (.iload_n 2, 1) := tb_d tk_X8_keenMark_1 8 (12, .iload_n 2, 1) rfl
theorem dX8_keenMark_13 : decode cX8_keenMark 13 = .ok (.iconst 2, 1) := tb_d tk_X8_keenMark_1 9 (13, .iconst 2, 1) rfl
theorem dX8_keenMark_14 : decode cX8_keenMark 14 = .ok (.if_icmp .ne 8, 3) := tb_d tk_X8_keenMark_1 10 (14, .if_icmp .ne 8, 3) rfl
theorem dX8_keenMark_17 : decode cX8_keenMark 17 = .ok (.bipush 24, 2) := tb_d tk_X8_keenMark_1 11 (17, .bipush 24, 2) rfl
theorem dX8_keenMark_19 : decode cX8_keenMark 19 = .ok (.goto 5, 3) := tb_d tk_X8_keenMark_1 12 (19, .goto 5, 3) rfl
theorem dX8_keenMark_22 : decode cX8_keenMark 22 = .ok (.bipush 22, 2) := tb_d tk_X8_keenMark_1 13 (22, .bipush 22, 2) rfl
theorem dX8_keenMark_24 : decode cX8_keenMark 24 = .ok (.invokevirtual 240, 3) := tb_d tk_X8_keenMark_1 14 (24, .invokevirtual 240, 3) rfl
theorem dX8_keenMark_27 : decode cX8_keenMark 27 = .ok (.aload_n 0, 1) := tb_d tk_X8_keenMark_1 15 (27, .aload_n 0, 1) rfl
theorem dX8_keenMark_28 : decode cX8_keenMark 28 = .ok (.bipush 21, 2) := tb_d tk_X8_keenMark_1 16 (28, .bipush 21, 2) rfl
theorem dX8_keenMark_30 : decode cX8_keenMark 30 = .ok (.invokevirtual 240, 3) := tb_d tk_X8_keenMark_1 17 (30, .invokevirtual 240, 3) rfl
theorem dX8_keenMark_33 : decode cX8_keenMark 33 = .ok (.aload_n 0, 1) := tb_d tk_X8_keenMark_1 18 (33, .aload_n 0, 1) rfl
theorem dX8_keenMark_34 : decode cX8_keenMark 34 = .ok (.bipush 20, 2) := tb_d tk_X8_keenMark_1 19 (34, .bipush 20, 2) rfl
theorem dX8_keenMark_36 : decode cX8_keenMark 36 = .ok (.invokevirtual 240, 3) := tb_d tk_X8_keenMark_1 20 (36, .invokevirtual 240, 3) rfl
theorem dX8_keenMark_39 : decode cX8_keenMark 39 = .ok (.iload_n 1, 1) := tb_d tk_X8_keenMark_1 21 (39, .iload_n 1, 1) rfl
theorem dX8_keenMark_40 : decode cX8_keenMark 40 = .ok (.aload_n 0, 1) := tb_d tk_X8_keenMark_1 22 (40, .aload_n 0, 1) rfl
theorem dX8_keenMark_41 : decode cX8_keenMark 41 = .ok (.getfield 25, 3) := tb_d tk_X8_keenMark_1 23 (41, .getfield 25, 3) rfl
theorem dX8_keenMark_44 : decode cX8_keenMark 44 = .ok (.bipush 26, 2) := tb_d tk_X8_keenMark_1 24 (44, .bipush 26, 2) rfl
theorem dX8_keenMark_46 : decode cX8_keenMark 46 = .ok (.iconst 3, 1) := tb_d tk_X8_keenMark_1 25 (46, .iconst 3, 1) rfl
theorem dX8_keenMark_47 : decode cX8_keenMark 47 = .ok (.iload_n 1, 1) := tb_d tk_X8_keenMark_1 26 (47, .iload_n 1, 1) rfl
theorem dX8_keenMark_48 : decode cX8_keenMark 48 = .ok (.imul, 1) := tb_d tk_X8_keenMark_1 27 (48, .imul, 1) rfl
theorem dX8_keenMark_49 : decode cX8_keenMark 49 = .ok (.iadd, 1) := tb_d tk_X8_keenMark_1 28 (49, .iadd, 1) rfl
theorem dX8_keenMark_50 : decode cX8_keenMark 50 = .ok (.iconst 2, 1) := tb_d tk_X8_keenMark_1 29 (50, .iconst 2, 1) rfl
theorem dX8_keenMark_51 : decode cX8_keenMark 51 = .ok (.iadd, 1) := tb_d tk_X8_keenMark_1 30 (51, .iadd, 1) rfl
theorem dX8_keenMark_52 : decode cX8_keenMark 52 = .ok (.iaload, 1) := tb_d tk_X8_keenMark_1 31 (52, .iaload, 1) rfl
theorem dX8_keenMark_53 : decode cX8_keenMark 53 = .ok (.iadd, 1) := tb_d tk_X8_keenMark_1 32 (53, .iadd, 1) rfl
theorem dX8_keenMark_54 : decode cX8_keenMark 54 = .ok (.istore_n 3, 1) := tb_d tk_X8_keenMark_1 33 (54, .istore_n 3, 1) rfl
theorem dX8_keenMark_55 : decode cX8_keenMark 55 = .ok (.iload_n 2, 1) := tb_d tk_X8_keenMark_1 34 (55, .iload_n 2, 1) rfl
theorem dX8_keenMark_56 : decode cX8_keenMark 56 = .ok (.iconst 2, 1) := tb_d tk_X8_keenMark_1 35 (56, .iconst 2, 1) rfl
theorem dX8_keenMark_57 : decode cX8_keenMark 57 = .ok (.if_icmp .ne 9, 3) := tb_d tk_X8_keenMark_1 36 (57, .if_icmp .ne 9, 3) rfl
theorem dX8_keenMark_60 : decode cX8_keenMark 60 = .ok (.iconst 2, 1) := tb_d tk_X8_keenMark_1 37 (60, .iconst 2, 1) rfl
theorem dX8_keenMark_61 : decode cX8_keenMark 61 = .ok (.iload_n 3, 1) := tb_d tk_X8_keenMark_1 38 (61, .iload_n 3, 1) rfl
theorem dX8_keenMark_62 : decode cX8_keenMark 62 = .ok (.imul, 1) := tb_d tk_X8_keenMark_1 39 (62, .imul, 1) rfl
def tb_X8_keenMark_2 : List (Nat × Instr × Nat) := [(63, .goto 17, 3), (66, .iload_n 2, 1), (67, .iconst 3, 1), (68, .if_icmp .ne 11, 3), (71, .iload_n 3, 1), (72, .sipush 1000, 3), (75, .isub, 1), (76, .goto 4, 3), (79, .iload_n 3, 1), (80, .ireturn, 1)]
set_option maxRecDepth 100000 in
theorem tk_X8_keenMark_2 : (tb_X8_keenMark_2.all fun q => decide (decode cX8_keenMark q.1 = .ok q.2)) = true := by decide +kernel
theorem dX8_keenMark_63 : decode cX8_keenMark 63 = .ok (.goto 17, 3) := tb_d tk_X8_keenMark_2 0 (63, .goto 17, 3) rfl
theorem dX8_keenMark_66 : decode cX8_keenMark 66 = .ok (.iload_n 2, 1) := tb_d tk_X8_keenMark_2 1 (66, .iload_n 2, 1) rfl
theorem dX8_keenMark_67 : decode cX8_keenMark 67 = .ok (.iconst 3, 1) := tb_d tk_X8_keenMark_2 2 (67, .iconst 3, 1) rfl
theorem dX8_keenMark_68 : decode cX8_keenMark 68 = .ok (.if_icmp .ne 11, 3) := tb_d tk_X8_keenMark_2 3 (68, .if_icmp .ne 11, 3) rfl
theorem dX8_keenMark_71 : decode cX8_keenMark 71 = .ok (.iload_n 3, 1) := tb_d tk_X8_keenMark_2 4 (71, .iload_n 3, 1) rfl
theorem dX8_keenMark_72 : decode cX8_keenMark 72 = .ok (.sipush 1000, 3) := tb_d tk_X8_keenMark_2 5 (72, .sipush 1000, 3) rfl
theorem dX8_keenMark_75 : decode cX8_keenMark 75 = .ok (.isub, 1) := tb_d tk_X8_keenMark_2 6 (75, .isub, 1) rfl
theorem dX8_keenMark_76 : decode cX8_keenMark 76 = .ok (.goto 4, 3) := tb_d tk_X8_keenMark_2 7 (76, .goto 4, 3) rfl
theorem dX8_keenMark_79 : decode cX8_keenMark 79 = .ok (.iload_n 3, 1) := tb_d tk_X8_keenMark_2 8 (79, .iload_n 3, 1) rfl
theorem dX8_keenMark_80 : decode cX8_keenMark 80 = .ok (.ireturn, 1) := tb_d tk_X8_keenMark_2 9 (80, .ireturn, 1) rfl
theorem ggX8_deafSize_X8_kindIn : GoodIn wsX8_deafSize wsX8_kindIn := fun w h => ⟨List.mem_cons_of_mem _ (List.mem_append_right _ (List.mem_append_right _ (List.mem_append_right _ (List.mem_append_right _ (List.mem_append_left _ h))))), good_of_word (gdX8_kindIn w h)⟩
set_option maxRecDepth 20000 in
theorem gX8_deafSize_X8_kindIn : GoodIn wsX8_deafSize (wsV RX8 165 RX8 yX8_kindIn wsX8_kindIn) := goodIn_app (a := bkV RX8 165 RX8 yX8_kindIn) (fun w h => ⟨List.mem_cons_of_mem _ (List.mem_append_right _ (List.mem_append_left _ h)), good_of_word (gd_bV _ _ _ _ w h)⟩) ggX8_deafSize_X8_kindIn
theorem ggX8_deafSize_X8_begins : GoodIn wsX8_deafSize wsX8_begins := fun w h => ⟨List.mem_cons_of_mem _ (List.mem_append_right _ (List.mem_append_right _ (List.mem_append_right _ (List.mem_append_right _ (List.mem_append_right _ (List.mem_append_left _ h)))))), good_of_word (gdX8_begins w h)⟩
set_option maxRecDepth 20000 in
theorem gX8_deafSize_X8_begins : GoodIn wsX8_deafSize (wsV RX8 240 RX8 yX8_begins wsX8_begins) := goodIn_app (a := bkV RX8 240 RX8 yX8_begins) (fun w h => ⟨List.mem_cons_of_mem _ (List.mem_append_right _ (List.mem_append_right _ (List.mem_append_left _ h))), good_of_word (gd_bV _ _ _ _ w h)⟩) ggX8_deafSize_X8_begins
def tb_X8_deafSize_1 : List (Nat × Instr × Nat) := [(0, .aload_n 0, 1), (1, .iload_n 1, 1), (2, .invokevirtual 165, 3), (5, .iconst 5, 1), (6, .if_icmp .ne 7, 3), (9, .iconst 1, 1), (10, .goto 4, 3), (13, .iconst 0, 1), (14, .istore_n 2, 1), (15, .iload_n 2, 1), (16, .ifCond .eq 9, 3), (19, .aload_n 0, 1), (20, .bipush 14, 2), (22, .invokevirtual 240, 3), (25, .aload_n 0, 1), (26, .bipush 13, 2), (28, .invokevirtual 240, 3), (31, .aload_n 0, 1), (32, .bipush 10, 2), (34, .invokevirtual 240, 3), (37, .aload_n 0, 1), (38, .getfield 25, 3), (41, .bipush 26, 2), (43, .iconst 3, 1), (44, .iload_n 1, 1), (45, .imul, 1), (46, .iadd, 1), (47, .iconst 1, 1), (48, .iadd, 1), (49, .iaload, 1), (50, .bipush 100, 2), (52, .isub, 1), (53, .istore_n 3, 1), (54, .iload_n 2, 1), (55, .ifCond .eq 9, 3), (58, .iconst 2, 1), (59, .iload_n 3, 1), (60, .imul, 1), (61, .goto 4, 3), (64, .iload_n 3, 1)]
set_option maxRecDepth 100000 in
theorem tk_X8_deafSize_1 : (tb_X8_deafSize_1.all fun q => decide (decode cX8_deafSize q.1 = .ok q.2)) = true := by decide +kernel
theorem dX8_deafSize_0 : decode cX8_deafSize 0 = .ok (.aload_n 0, 1) := tb_d tk_X8_deafSize_1 0 (0, .aload_n 0, 1) rfl
theorem dX8_deafSize_1 : decode cX8_deafSize 1 = .ok (.iload_n 1, 1) := tb_d tk_X8_deafSize_1 1 (1, .iload_n 1, 1) rfl
theorem dX8_deafSize_2 : decode cX8_deafSize 2 = .ok (.invokevirtual 165, 3) := tb_d tk_X8_deafSize_1 2 (2, .invokevirtual 165, 3) rfl
theorem dX8_deafSize_5 : decode cX8_deafSize 5 = .ok (.iconst 5, 1) := tb_d tk_X8_deafSize_1 3 (5, .iconst 5, 1) rfl
theorem dX8_deafSize_6 : decode cX8_deafSize 6 = .ok (.if_icmp .ne 7, 3) := tb_d tk_X8_deafSize_1 4 (6, .if_icmp .ne 7, 3) rfl
theorem dX8_deafSize_9 : decode cX8_deafSize 9 = .ok (.iconst 1, 1) := tb_d tk_X8_deafSize_1 5 (9, .iconst 1, 1) rfl
theorem dX8_deafSize_10 : decode cX8_deafSize 10 = .ok (.goto 4, 3) := tb_d tk_X8_deafSize_1 6 (10, .goto 4, 3) rfl
theorem dX8_deafSize_13 : decode cX8_deafSize 13 = .ok (.iconst 0, 1) := tb_d tk_X8_deafSize_1 7 (13, .iconst 0, 1) rfl
theorem dX8_deafSize_14 : decode cX8_deafSize 14 = .ok (.istore_n 2, 1) := tb_d tk_X8_deafSize_1 8 (14, .istore_n 2, 1) rfl
theorem dX8_deafSize_15 : decode cX8_deafSize 15 = .ok (.iload_n 2, 1) := tb_d tk_X8_deafSize_1 9 (15, .iload_n 2, 1) rfl
theorem dX8_deafSize_16 : decode cX8_deafSize 16 = .ok (.ifCond .eq 9, 3) := tb_d tk_X8_deafSize_1 10 (16, .ifCond .eq 9, 3) rfl
theorem dX8_deafSize_19 : decode cX8_deafSize 19 = .ok (.aload_n 0, 1) := tb_d tk_X8_deafSize_1 11 (19, .aload_n 0, 1) rfl
theorem dX8_deafSize_20 : decode cX8_deafSize 20 = .ok (.bipush 14, 2) := tb_d tk_X8_deafSize_1 12 (20, .bipush 14, 2) rfl
theorem dX8_deafSize_22 : decode cX8_deafSize 22 = .ok (.invokevirtual 240, 3) := tb_d tk_X8_deafSize_1 13 (22, .invokevirtual 240, 3) rfl
theorem dX8_deafSize_25 : decode cX8_deafSize 25 = .ok (.aload_n 0, 1) := tb_d tk_X8_deafSize_1 14 (25, .aload_n 0, 1) rfl
theorem dX8_deafSize_26 : decode cX8_deafSize 26 = .ok (.bipush 13, 2) := tb_d tk_X8_deafSize_1 15 (26, .bipush 13, 2) rfl
theorem dX8_deafSize_28 : decode cX8_deafSize 28 = .ok (.invokevirtual 240, 3) := tb_d tk_X8_deafSize_1 16 (28, .invokevirtual 240, 3) rfl
theorem dX8_deafSize_31 : decode cX8_deafSize 31 = .ok (.aload_n 0, 1) := tb_d tk_X8_deafSize_1 17 (31, .aload_n 0, 1) rfl
theorem dX8_deafSize_32 : decode cX8_deafSize 32 = .ok (.bipush 10, 2) := tb_d tk_X8_deafSize_1 18 (32, .bipush 10, 2) rfl
theorem dX8_deafSize_34 : decode cX8_deafSize 34 = .ok (.invokevirtual 240, 3) := tb_d tk_X8_deafSize_1 19 (34, .invokevirtual 240, 3) rfl
theorem dX8_deafSize_37 : decode cX8_deafSize 37 = .ok (.aload_n 0, 1) := tb_d tk_X8_deafSize_1 20 (37, .aload_n 0, 1) rfl
theorem dX8_deafSize_38 : decode cX8_deafSize 38 = .ok (.getfield 25, 3) := tb_d tk_X8_deafSize_1 21 (38, .getfield 25, 3) rfl
theorem dX8_deafSize_41 : decode cX8_deafSize 41 = .ok (.bipush 26, 2) := tb_d tk_X8_deafSize_1 22 (41, .bipush 26, 2) rfl
theorem dX8_deafSize_43 : decode cX8_deafSize 43 = .ok (.iconst 3, 1) := tb_d tk_X8_deafSize_1 23 (43, .iconst 3, 1) rfl
theorem dX8_deafSize_44 : decode cX8_deafSize 44 = .ok (.iload_n 1, 1) := tb_d tk_X8_deafSize_1 24 (44, .iload_n 1, 1) rfl
theorem dX8_deafSize_45 : decode cX8_deafSize 45 = .ok (.imul, 1) := tb_d tk_X8_deafSize_1 25 (45, .imul, 1) rfl
theorem dX8_deafSize_46 : decode cX8_deafSize 46 = .ok (.iadd, 1) := tb_d tk_X8_deafSize_1 26 (46, .iadd, 1) rfl
theorem dX8_deafSize_47 : decode cX8_deafSize 47 = .ok (.iconst 1, 1) := tb_d tk_X8_deafSize_1 27 (47, .iconst 1, 1) rfl
theorem dX8_deafSize_48 : decode cX8_deafSize 48 = .ok (.iadd, 1) := tb_d tk_X8_deafSize_1 28 (48, .iadd, 1) rfl
theorem dX8_deafSize_49 : decode cX8_deafSize 49 = .ok (.iaload, 1) := tb_d tk_X8_deafSize_1 29 (49, .iaload, 1) rfl
theorem dX8_deafSize_50 : decode cX8_deafSize 50 = .ok (.bipush 100, 2) := tb_d tk_X8_deafSize_1 30 (50, .bipush 100, 2) rfl
theorem dX8_deafSize_52 : decode cX8_deafSize 52 = .ok (.isub, 1) := tb_d tk_X8_deafSize_1 31 (52, .isub, 1) rfl
theorem dX8_deafSize_53 : decode cX8_deafSize 53 = .ok (.istore_n 3, 1) := tb_d tk_X8_deafSize_1 32 (53, .istore_n 3, 1) rfl
theorem dX8_deafSize_54 : decode cX8_deafSize 54 = .ok (.iload_n 2, 1) := tb_d tk_X8_deafSize_1 33 (54, .iload_n 2, 1) rfl
theorem dX8_deafSize_55 : decode cX8_deafSize 55 = .ok (.ifCond .eq 9, 3) := tb_d tk_X8_deafSize_1 34 (55, .ifCond .eq 9, 3) rfl
theorem dX8_deafSize_58 : decode cX8_deafSize 58 = .ok (.iconst 2, 1) := tb_d tk_X8_deafSize_1 35 (58, .iconst 2, 1) rfl
theorem dX8_deafSize_59 : decode cX8_deafSize 59 = .ok (.iload_n 3, 1) := tb_d tk_X8_deafSize_1 36 (59, .iload_n 3, 1) rfl
theorem dX8_deafSize_60 : decode cX8_deafSize 60 = .ok (.imul, 1) := tb_d tk_X8_deafSize_1 37 (60, .imul, 1) rfl
theorem dX8_deafSize_61 : decode cX8_deafSize 61 = .ok (.goto 4, 3) := tb_d tk_X8_deafSize_1 38 (61, .goto 4, 3) rfl
theorem dX8_deafSize_64 : decode cX8_deafSize 64 = .ok (.iload_n 3, 1) := tb_d tk_X8_deafSize_1 39 (64, .iload_n 3, 1) rfl
def tb_X8_deafSize_2 : List (Nat × Instr × Nat) := [(65, .ireturn, 1)]
set_option maxRecDepth 100000 in
theorem tk_X8_deafSize_2 : (tb_X8_deafSize_2.all fun q => decide (decode cX8_deafSize q.1 = .ok q.2)) = true := by decide +kernel
theorem dX8_deafSize_65 : decode cX8_deafSize 65 = .ok (.ireturn, 1) := tb_d tk_X8_deafSize_2 0 (65, .ireturn, 1) rfl
theorem ggX8_keenSize_X8_kindIn : GoodIn wsX8_keenSize wsX8_kindIn := fun w h => ⟨List.mem_cons_of_mem _ (List.mem_append_right _ (List.mem_append_right _ (List.mem_append_right _ (List.mem_append_right _ (List.mem_append_right _ (List.mem_append_left _ h)))))), good_of_word (gdX8_kindIn w h)⟩
set_option maxRecDepth 20000 in
theorem gX8_keenSize_X8_kindIn : GoodIn wsX8_keenSize (wsV RX8 165 RX8 yX8_kindIn wsX8_kindIn) := goodIn_app (a := bkV RX8 165 RX8 yX8_kindIn) (fun w h => ⟨List.mem_cons_of_mem _ (List.mem_append_right _ (List.mem_append_left _ h)), good_of_word (gd_bV _ _ _ _ w h)⟩) ggX8_keenSize_X8_kindIn
theorem ggX8_keenSize_X8_begins : GoodIn wsX8_keenSize wsX8_begins := fun w h => ⟨List.mem_cons_of_mem _ (List.mem_append_right _ (List.mem_append_right _ (List.mem_append_right _ (List.mem_append_right _ (List.mem_append_right _ (List.mem_append_right _ (List.mem_append_left _ h))))))), good_of_word (gdX8_begins w h)⟩
set_option maxRecDepth 20000 in
theorem gX8_keenSize_X8_begins : GoodIn wsX8_keenSize (wsV RX8 240 RX8 yX8_begins wsX8_begins) := goodIn_app (a := bkV RX8 240 RX8 yX8_begins) (fun w h => ⟨List.mem_cons_of_mem _ (List.mem_append_right _ (List.mem_append_right _ (List.mem_append_left _ h))), good_of_word (gd_bV _ _ _ _ w h)⟩) ggX8_keenSize_X8_begins
theorem ggX8_keenSize_X8_keenMark : GoodIn wsX8_keenSize wsX8_keenMark := fun w h => ⟨List.mem_cons_of_mem _ (List.mem_append_right _ (List.mem_append_right _ (List.mem_append_right _ (List.mem_append_right _ (List.mem_append_right _ (List.mem_append_right _ (List.mem_append_right _ (List.mem_append_left _ h)))))))), good_of_word (gdX8_keenMark w h)⟩
set_option maxRecDepth 20000 in
theorem gX8_keenSize_X8_keenMark : GoodIn wsX8_keenSize (wsV RX8 244 RX8 yX8_keenMark wsX8_keenMark) := goodIn_app (a := bkV RX8 244 RX8 yX8_keenMark) (fun w h => ⟨List.mem_cons_of_mem _ (List.mem_append_right _ (List.mem_append_right _ (List.mem_append_right _ (List.mem_append_left _ h)))), good_of_word (gd_bV _ _ _ _ w h)⟩) ggX8_keenSize_X8_keenMark
def tb_X8_keenSize_1 : List (Nat × Instr × Nat) := [(0, .aload_n 0, 1), (1, .iload_n 1, 1), (2, .invokevirtual 165, 3), (5, .iconst 2, 1), (6, .if_icmp .ne 7, 3), (9, .iconst 1, 1), (10, .goto 4, 3), (13, .iconst 0, 1), (14, .istore_n 2, 1), (15, .iload_n 2, 1), (16, .ifCond .eq 9, 3), (19, .aload_n 0, 1), (20, .bipush 12, 2), (22, .invokevirtual 240, 3), (25, .aload_n 0, 1), (26, .bipush 11, 2), (28, .invokevirtual 240, 3), (31, .aload_n 0, 1), (32, .bipush 10, 2), (34, .invokevirtual 240, 3), (37, .aload_n 0, 1), (38, .getfield 25, 3), (41, .bipush 26, 2), (43, .iconst 3, 1), (44, .iload_n 1, 1), (45, .imul, 1), (46, .iadd, 1), (47, .iconst 1, 1), (48, .iadd, 1), (49, .iaload, 1), (50, .aload_n 0, 1), (51, .iload_n 1, 1), (52, .invokevirtual 244, 3), (55, .iadd, 1), (56, .istore_n 3, 1), (57, .iload_n 2, 1), (58, .ifCond .eq 8, 3), (61, .iload_n 3, 1), (62, .ineg, 1), (63, .goto 4, 3)]
set_option maxRecDepth 100000 in
theorem tk_X8_keenSize_1 : (tb_X8_keenSize_1.all fun q => decide (decode cX8_keenSize q.1 = .ok q.2)) = true := by decide +kernel
theorem dX8_keenSize_0 : decode cX8_keenSize 0 = .ok (.aload_n 0, 1) := tb_d tk_X8_keenSize_1 0 (0, .aload_n 0, 1) rfl
theorem dX8_keenSize_1 : decode cX8_keenSize 1 = .ok (.iload_n 1, 1) := tb_d tk_X8_keenSize_1 1 (1, .iload_n 1, 1) rfl
theorem dX8_keenSize_2 : decode cX8_keenSize 2 = .ok (.invokevirtual 165, 3) := tb_d tk_X8_keenSize_1 2 (2, .invokevirtual 165, 3) rfl
theorem dX8_keenSize_5 : decode cX8_keenSize 5 = .ok (.iconst 2, 1) := tb_d tk_X8_keenSize_1 3 (5, .iconst 2, 1) rfl
theorem dX8_keenSize_6 : decode cX8_keenSize 6 = .ok (.if_icmp .ne 7, 3) := tb_d tk_X8_keenSize_1 4 (6, .if_icmp .ne 7, 3) rfl
theorem dX8_keenSize_9 : decode cX8_keenSize 9 = .ok (.iconst 1, 1) := tb_d tk_X8_keenSize_1 5 (9, .iconst 1, 1) rfl
theorem dX8_keenSize_10 : decode cX8_keenSize 10 = .ok (.goto 4, 3) := tb_d tk_X8_keenSize_1 6 (10, .goto 4, 3) rfl
theorem dX8_keenSize_13 : decode cX8_keenSize 13 = .ok (.iconst 0, 1) := tb_d tk_X8_keenSize_1 7 (13, .iconst 0, 1) rfl
theorem dX8_keenSize_14 : decode cX8_keenSize 14 = .ok (.istore_n 2, 1) := tb_d tk_X8_keenSize_1 8 (14, .istore_n 2, 1) rfl
theorem dX8_keenSize_15 : decode cX8_keenSize 15 = .ok (.iload_n 2, 1) := tb_d tk_X8_keenSize_1 9 (15, .iload_n 2, 1) rfl
theorem dX8_keenSize_16 : decode cX8_keenSize 16 = .ok (.ifCond .eq 9, 3) := tb_d tk_X8_keenSize_1 10 (16, .ifCond .eq 9, 3) rfl
theorem dX8_keenSize_19 : decode cX8_keenSize 19 = .ok (.aload_n 0, 1) := tb_d tk_X8_keenSize_1 11 (19, .aload_n 0, 1) rfl
theorem dX8_keenSize_20 : decode cX8_keenSize 20 = .ok (.bipush 12, 2) := tb_d tk_X8_keenSize_1 12 (20, .bipush 12, 2) rfl
theorem dX8_keenSize_22 : decode cX8_keenSize 22 = .ok (.invokevirtual 240, 3) := tb_d tk_X8_keenSize_1 13 (22, .invokevirtual 240, 3) rfl
theorem dX8_keenSize_25 : decode cX8_keenSize 25 = .ok (.aload_n 0, 1) := tb_d tk_X8_keenSize_1 14 (25, .aload_n 0, 1) rfl
theorem dX8_keenSize_26 : decode cX8_keenSize 26 = .ok (.bipush 11, 2) := tb_d tk_X8_keenSize_1 15 (26, .bipush 11, 2) rfl
theorem dX8_keenSize_28 : decode cX8_keenSize 28 = .ok (.invokevirtual 240, 3) := tb_d tk_X8_keenSize_1 16 (28, .invokevirtual 240, 3) rfl
theorem dX8_keenSize_31 : decode cX8_keenSize 31 = .ok (.aload_n 0, 1) := tb_d tk_X8_keenSize_1 17 (31, .aload_n 0, 1) rfl
theorem dX8_keenSize_32 : decode cX8_keenSize 32 = .ok (.bipush 10, 2) := tb_d tk_X8_keenSize_1 18 (32, .bipush 10, 2) rfl
theorem dX8_keenSize_34 : decode cX8_keenSize 34 = .ok (.invokevirtual 240, 3) := tb_d tk_X8_keenSize_1 19 (34, .invokevirtual 240, 3) rfl
theorem dX8_keenSize_37 : decode cX8_keenSize 37 = .ok (.aload_n 0, 1) := tb_d tk_X8_keenSize_1 20 (37, .aload_n 0, 1) rfl
theorem dX8_keenSize_38 : decode cX8_keenSize 38 = .ok (.getfield 25, 3) := tb_d tk_X8_keenSize_1 21 (38, .getfield 25, 3) rfl
theorem dX8_keenSize_41 : decode cX8_keenSize 41 = .ok (.bipush 26, 2) := tb_d tk_X8_keenSize_1 22 (41, .bipush 26, 2) rfl
theorem dX8_keenSize_43 : decode cX8_keenSize 43 = .ok (.iconst 3, 1) := tb_d tk_X8_keenSize_1 23 (43, .iconst 3, 1) rfl
theorem dX8_keenSize_44 : decode cX8_keenSize 44 = .ok (.iload_n 1, 1) := tb_d tk_X8_keenSize_1 24 (44, .iload_n 1, 1) rfl
theorem dX8_keenSize_45 : decode cX8_keenSize 45 = .ok (.imul, 1) := tb_d tk_X8_keenSize_1 25 (45, .imul, 1) rfl
theorem dX8_keenSize_46 : decode cX8_keenSize 46 = .ok (.iadd, 1) := tb_d tk_X8_keenSize_1 26 (46, .iadd, 1) rfl
theorem dX8_keenSize_47 : decode cX8_keenSize 47 = .ok (.iconst 1, 1) := tb_d tk_X8_keenSize_1 27 (47, .iconst 1, 1) rfl
theorem dX8_keenSize_48 : decode cX8_keenSize 48 = .ok (.iadd, 1) := tb_d tk_X8_keenSize_1 28 (48, .iadd, 1) rfl
theorem dX8_keenSize_49 : decode cX8_keenSize 49 = .ok (.iaload, 1) := tb_d tk_X8_keenSize_1 29 (49, .iaload, 1) rfl
theorem dX8_keenSize_50 : decode cX8_keenSize 50 = .ok (.aload_n 0, 1) := tb_d tk_X8_keenSize_1 30 (50, .aload_n 0, 1) rfl
theorem dX8_keenSize_51 : decode cX8_keenSize 51 = .ok (.iload_n 1, 1) := tb_d tk_X8_keenSize_1 31 (51, .iload_n 1, 1) rfl
theorem dX8_keenSize_52 : decode cX8_keenSize 52 = .ok (.invokevirtual 244, 3) := tb_d tk_X8_keenSize_1 32 (52, .invokevirtual 244, 3) rfl
theorem dX8_keenSize_55 : decode cX8_keenSize 55 = .ok (.iadd, 1) := tb_d tk_X8_keenSize_1 33 (55, .iadd, 1) rfl
theorem dX8_keenSize_56 : decode cX8_keenSize 56 = .ok (.istore_n 3, 1) := tb_d tk_X8_keenSize_1 34 (56, .istore_n 3, 1) rfl
theorem dX8_keenSize_57 : decode cX8_keenSize 57 = .ok (.iload_n 2, 1) := tb_d tk_X8_keenSize_1 35 (57, .iload_n 2, 1) rfl
theorem dX8_keenSize_58 : decode cX8_keenSize 58 = .ok (.ifCond .eq 8, 3) := tb_d tk_X8_keenSize_1 36 (58, .ifCond .eq 8, 3) rfl
theorem dX8_keenSize_61 : decode cX8_keenSize 61 = .ok (.iload_n 3, 1) := tb_d tk_X8_keenSize_1 37 (61, .iload_n 3, 1) rfl
theorem dX8_keenSize_62 : decode cX8_keenSize 62 = .ok (.ineg, 1) := tb_d tk_X8_keenSize_1 38 (62, .ineg, 1) rfl
theorem dX8_keenSize_63 : decode cX8_keenSize 63 = .ok (.goto 4, 3) := tb_d tk_X8_keenSize_1 39 (63, .goto 4, 3) rfl
def tb_X8_keenSize_2 : List (Nat × Instr × Nat) := [(66, .iload_n 3, 1), (67, .ireturn, 1)]
set_option maxRecDepth 100000 in
theorem tk_X8_keenSize_2 : (tb_X8_keenSize_2.all fun q => decide (decode cX8_keenSize q.1 = .ok q.2)) = true := by decide +kernel
theorem dX8_keenSize_66 : decode cX8_keenSize 66 = .ok (.iload_n 3, 1) := tb_d tk_X8_keenSize_2 0 (66, .iload_n 3, 1) rfl
theorem dX8_keenSize_67 : decode cX8_keenSize 67 = .ok (.ireturn, 1) := tb_d tk_X8_keenSize_2 1 (67, .ireturn, 1) rfl
theorem ggX8_deafMark_X8_begins : GoodIn wsX8_deafMark wsX8_begins := fun w h => ⟨List.mem_cons_of_mem _ (List.mem_append_right _ (List.mem_append_right _ (List.mem_append_right _ (List.mem_append_right _ (List.mem_append_left _ h))))), good_of_word (gdX8_begins w h)⟩
set_option maxRecDepth 20000 in
theorem gX8_deafMark_X8_begins : GoodIn wsX8_deafMark (wsV RX8 240 RX8 yX8_begins wsX8_begins) := goodIn_app (a := bkV RX8 240 RX8 yX8_begins) (fun w h => ⟨List.mem_cons_of_mem _ (List.mem_append_right _ (List.mem_append_left _ h)), good_of_word (gd_bV _ _ _ _ w h)⟩) ggX8_deafMark_X8_begins
theorem ggX8_deafMark_X8_deafSize : GoodIn wsX8_deafMark wsX8_deafSize := fun w h => ⟨List.mem_cons_of_mem _ (List.mem_append_right _ (List.mem_append_right _ (List.mem_append_right _ (List.mem_append_right _ (List.mem_append_right _ (List.mem_append_left _ h)))))), good_of_word (gdX8_deafSize w h)⟩
set_option maxRecDepth 20000 in
theorem gX8_deafMark_X8_deafSize : GoodIn wsX8_deafMark (wsV RX8 247 RX8 yX8_deafSize wsX8_deafSize) := goodIn_app (a := bkV RX8 247 RX8 yX8_deafSize) (fun w h => ⟨List.mem_cons_of_mem _ (List.mem_append_right _ (List.mem_append_right _ (List.mem_append_left _ h))), good_of_word (gd_bV _ _ _ _ w h)⟩) ggX8_deafMark_X8_deafSize
def tb_X8_deafMark_1 : List (Nat × Instr × Nat) := [(0, .aload_n 0, 1), (1, .bipush 23, 2), (3, .invokevirtual 240, 3), (6, .aload_n 0, 1), (7, .bipush 20, 2), (9, .invokevirtual 240, 3), (12, .iload_n 1, 1), (13, .aload_n 0, 1), (14, .iload_n 1, 1), (15, .invokevirtual 247, 3), (18, .isub, 1), (19, .ireturn, 1)]
set_option maxRecDepth 100000 in
theorem tk_X8_deafMark_1 : (tb_X8_deafMark_1.all fun q => decide (decode cX8_deafMark q.1 = .ok q.2)) = true := by decide +kernel
theorem dX8_deafMark_0 : decode cX8_deafMark 0 = .ok (.aload_n 0, 1) := tb_d tk_X8_deafMark_1 0 (0, .aload_n 0, 1) rfl
theorem dX8_deafMark_1 : decode cX8_deafMark 1 = .ok (.bipush 23, 2) := tb_d tk_X8_deafMark_1 1 (1, .bipush 23, 2) rfl
theorem dX8_deafMark_3 : decode cX8_deafMark 3 = .ok (.invokevirtual 240, 3) := tb_d tk_X8_deafMark_1 2 (3, .invokevirtual 240, 3) rfl
theorem dX8_deafMark_6 : decode cX8_deafMark 6 = .ok (.aload_n 0, 1) := tb_d tk_X8_deafMark_1 3 (6, .aload_n 0, 1) rfl
theorem dX8_deafMark_7 : decode cX8_deafMark 7 = .ok (.bipush 20, 2) := tb_d tk_X8_deafMark_1 4 (7, .bipush 20, 2) rfl
theorem dX8_deafMark_9 : decode cX8_deafMark 9 = .ok (.invokevirtual 240, 3) := tb_d tk_X8_deafMark_1 5 (9, .invokevirtual 240, 3) rfl
theorem dX8_deafMark_12 : decode cX8_deafMark 12 = .ok (.iload_n 1, 1) := tb_d tk_X8_deafMark_1 6 (12, .iload_n 1, 1) rfl
theorem dX8_deafMark_13 : decode cX8_deafMark 13 = .ok (.aload_n 0, 1) := tb_d tk_X8_deafMark_1 7 (13, .aload_n 0, 1) rfl
theorem dX8_deafMark_14 : decode cX8_deafMark 14 = .ok (.iload_n 1, 1) := tb_d tk_X8_deafMark_1 8 (14, .iload_n 1, 1) rfl
theorem dX8_deafMark_15 : decode cX8_deafMark 15 = .ok (.invokevirtual 247, 3) := tb_d tk_X8_deafMark_1 9 (15, .invokevirtual 247, 3) rfl
theorem dX8_deafMark_18 : decode cX8_deafMark 18 = .ok (.isub, 1) := tb_d tk_X8_deafMark_1 10 (18, .isub, 1) rfl
theorem dX8_deafMark_19 : decode cX8_deafMark 19 = .ok (.ireturn, 1) := tb_d tk_X8_deafMark_1 11 (19, .ireturn, 1) rfl
theorem ggX8_ask_X8_isGuard : GoodIn wsX8_ask wsX8_isGuard := fun w h => ⟨List.mem_cons_of_mem _ (List.mem_append_right _ (List.mem_append_right _ (List.mem_append_right _ (List.mem_append_right _ (List.mem_append_right _ (List.mem_append_right _ (List.mem_append_right _ (List.mem_append_right _ (List.mem_append_right _ (List.mem_append_left _ h)))))))))), good_of_word (gdX8_isGuard w h)⟩
set_option maxRecDepth 20000 in
theorem gX8_ask_X8_isGuard : GoodIn wsX8_ask (wsV RX8 199 RX8 yX8_isGuard wsX8_isGuard) := goodIn_app (a := bkV RX8 199 RX8 yX8_isGuard) (fun w h => ⟨List.mem_cons_of_mem _ (List.mem_append_right _ (List.mem_append_left _ h)), good_of_word (gd_bV _ _ _ _ w h)⟩) ggX8_ask_X8_isGuard
theorem ggX8_ask_X8_in : GoodIn wsX8_ask wsX8_in := fun w h => ⟨List.mem_cons_of_mem _ (List.mem_append_right _ (List.mem_append_right _ (List.mem_append_right _ (List.mem_append_right _ (List.mem_append_right _ (List.mem_append_right _ (List.mem_append_right _ (List.mem_append_right _ (List.mem_append_right _ (List.mem_append_right _ (List.mem_append_left _ h))))))))))), good_of_word (gdX8_in w h)⟩
set_option maxRecDepth 20000 in
theorem gX8_ask_X8_in : GoodIn wsX8_ask (va_wsS RX8 56 yX8_in wsX8_in) := goodIn_app (a := bkS RX8 56 yX8_in) (fun w h => ⟨List.mem_cons_of_mem _ (List.mem_append_right _ (List.mem_append_right _ (List.mem_append_left _ h))), good_of_word (gd_bS _ _ _ w h)⟩) ggX8_ask_X8_in
theorem ggX8_ask_X8_kindIn : GoodIn wsX8_ask wsX8_kindIn := fun w h => ⟨List.mem_cons_of_mem _ (List.mem_append_right _ (List.mem_append_right _ (List.mem_append_right _ (List.mem_append_right _ (List.mem_append_right _ (List.mem_append_right _ (List.mem_append_right _ (List.mem_append_right _ (List.mem_append_right _ (List.mem_append_right _ (List.mem_append_right _ (List.mem_append_left _ h)))))))))))), good_of_word (gdX8_kindIn w h)⟩
set_option maxRecDepth 20000 in
theorem gX8_ask_X8_kindIn : GoodIn wsX8_ask (wsV RX8 165 RX8 yX8_kindIn wsX8_kindIn) := goodIn_app (a := bkV RX8 165 RX8 yX8_kindIn) (fun w h => ⟨List.mem_cons_of_mem _ (List.mem_append_right _ (List.mem_append_right _ (List.mem_append_right _ (List.mem_append_left _ h)))), good_of_word (gd_bV _ _ _ _ w h)⟩) ggX8_ask_X8_kindIn
theorem ggX8_ask_X8_deafSize : GoodIn wsX8_ask wsX8_deafSize := fun w h => ⟨List.mem_cons_of_mem _ (List.mem_append_right _ (List.mem_append_right _ (List.mem_append_right _ (List.mem_append_right _ (List.mem_append_right _ (List.mem_append_right _ (List.mem_append_right _ (List.mem_append_right _ (List.mem_append_right _ (List.mem_append_right _ (List.mem_append_right _ (List.mem_append_right _ (List.mem_append_left _ h))))))))))))), good_of_word (gdX8_deafSize w h)⟩
set_option maxRecDepth 20000 in
theorem gX8_ask_X8_deafSize : GoodIn wsX8_ask (wsV RX8 247 RX8 yX8_deafSize wsX8_deafSize) := goodIn_app (a := bkV RX8 247 RX8 yX8_deafSize) (fun w h => ⟨List.mem_cons_of_mem _ (List.mem_append_right _ (List.mem_append_right _ (List.mem_append_right _ (List.mem_append_right _ (List.mem_append_left _ h))))), good_of_word (gd_bV _ _ _ _ w h)⟩) ggX8_ask_X8_deafSize
theorem ggX8_ask_X8_keenSize : GoodIn wsX8_ask wsX8_keenSize := fun w h => ⟨List.mem_cons_of_mem _ (List.mem_append_right _ (List.mem_append_right _ (List.mem_append_right _ (List.mem_append_right _ (List.mem_append_right _ (List.mem_append_right _ (List.mem_append_right _ (List.mem_append_right _ (List.mem_append_right _ (List.mem_append_right _ (List.mem_append_right _ (List.mem_append_right _ (List.mem_append_right _ (List.mem_append_left _ h)))))))))))))), good_of_word (gdX8_keenSize w h)⟩
set_option maxRecDepth 20000 in
theorem gX8_ask_X8_keenSize : GoodIn wsX8_ask (wsV RX8 250 RX8 yX8_keenSize wsX8_keenSize) := goodIn_app (a := bkV RX8 250 RX8 yX8_keenSize) (fun w h => ⟨List.mem_cons_of_mem _ (List.mem_append_right _ (List.mem_append_right _ (List.mem_append_right _ (List.mem_append_right _ (List.mem_append_right _ (List.mem_append_left _ h)))))), good_of_word (gd_bV _ _ _ _ w h)⟩) ggX8_ask_X8_keenSize
theorem ggX8_ask_X8_deafMark : GoodIn wsX8_ask wsX8_deafMark := fun w h => ⟨List.mem_cons_of_mem _ (List.mem_append_right _ (List.mem_append_right _ (List.mem_append_right _ (List.mem_append_right _ (List.mem_append_right _ (List.mem_append_right _ (List.mem_append_right _ (List.mem_append_right _ (List.mem_append_right _ (List.mem_append_right _ (List.mem_append_right _ (List.mem_append_right _ (List.mem_append_right _ (List.mem_append_right _ (List.mem_append_left _ h))))))))))))))), good_of_word (gdX8_deafMark w h)⟩
set_option maxRecDepth 20000 in
theorem gX8_ask_X8_deafMark : GoodIn wsX8_ask (wsV RX8 253 RX8 yX8_deafMark wsX8_deafMark) := goodIn_app (a := bkV RX8 253 RX8 yX8_deafMark) (fun w h => ⟨List.mem_cons_of_mem _ (List.mem_append_right _ (List.mem_append_right _ (List.mem_append_right _ (List.mem_append_right _ (List.mem_append_right _ (List.mem_append_right _ (List.mem_append_left _ h))))))), good_of_word (gd_bV _ _ _ _ w h)⟩) ggX8_ask_X8_deafMark
theorem ggX8_ask_X8_keenMark : GoodIn wsX8_ask wsX8_keenMark := fun w h => ⟨List.mem_cons_of_mem _ (List.mem_append_right _ (List.mem_append_right _ (List.mem_append_right _ (List.mem_append_right _ (List.mem_append_right _ (List.mem_append_right _ (List.mem_append_right _ (List.mem_append_right _ (List.mem_append_right _ (List.mem_append_right _ (List.mem_append_right _ (List.mem_append_right _ (List.mem_append_right _ (List.mem_append_right _ (List.mem_append_right _ (List.mem_append_left _ h)))))))))))))))), good_of_word (gdX8_keenMark w h)⟩
set_option maxRecDepth 20000 in
theorem gX8_ask_X8_keenMark : GoodIn wsX8_ask (wsV RX8 244 RX8 yX8_keenMark wsX8_keenMark) := goodIn_app (a := bkV RX8 244 RX8 yX8_keenMark) (fun w h => ⟨List.mem_cons_of_mem _ (List.mem_append_right _ (List.mem_append_right _ (List.mem_append_right _ (List.mem_append_right _ (List.mem_append_right _ (List.mem_append_right _ (List.mem_append_right _ (List.mem_append_left _ h)))))))), good_of_word (gd_bV _ _ _ _ w h)⟩) ggX8_ask_X8_keenMark
def tb_X8_ask_1 : List (Nat × Instr × Nat) := [(0, .aload_n 0, 1), (1, .iload_n 1, 1), (2, .invokevirtual 199, 3), (5, .ifCond .eq 12, 3), (8, .iload_n 2, 1), (9, .iconst 0, 1), (10, .iconst 1, 1), (11, .invokestatic 56, 3), (14, .ifCond .ne 6, 3), (17, .ldc 64, 2), (19, .ireturn, 1), (20, .aload_n 0, 1), (21, .iconst 0, 1), (22, .putfield 237, 3), (25, .aload_n 0, 1), (26, .iload_n 1, 1), (27, .invokevirtual 165, 3), (30, .iconst 4, 1), (31, .if_icmp .lt 7, 3), (34, .iconst 1, 1), (35, .goto 4, 3), (38, .iconst 0, 1), (39, .istore_n 3, 1), (40, .iload_n 2, 1), (41, .ifCond .ne 21, 3), (44, .iload_n 3, 1), (45, .ifCond .eq 11, 3), (48, .aload_n 0, 1), (49, .iload_n 1, 1), (50, .invokevirtual 247, 3), (53, .goto 8, 3), (56, .aload_n 0, 1), (57, .iload_n 1, 1), (58, .invokevirtual 250, 3), (61, .ireturn, 1), (62, .iload_n 3, 1), (63, .ifCond .eq 11, 3), (66, .aload_n 0, 1), (67, .iload_n 1, 1), (68, .invokevirtual 253, 3)]
set_option maxRecDepth 100000 in
theorem tk_X8_ask_1 : (tb_X8_ask_1.all fun q => decide (decode cX8_ask q.1 = .ok q.2)) = true := by decide +kernel
theorem dX8_ask_0 : decode cX8_ask 0 = .ok (.aload_n 0, 1) := tb_d tk_X8_ask_1 0 (0, .aload_n 0, 1) rfl
theorem dX8_ask_1 : decode cX8_ask 1 = .ok (.iload_n 1, 1) := tb_d tk_X8_ask_1 1 (1, .iload_n 1, 1) rfl
theorem dX8_ask_2 : decode cX8_ask 2 = .ok (.invokevirtual 199, 3) := tb_d tk_X8_ask_1 2 (2, .invokevirtual 199, 3) rfl
theorem dX8_ask_5 : decode cX8_ask 5 = .ok (.ifCond .eq 12, 3) := tb_d tk_X8_ask_1 3 (5, .ifCond .eq 12, 3) rfl
theorem dX8_ask_8 : decode cX8_ask 8 = .ok (.iload_n 2, 1) := tb_d tk_X8_ask_1 4 (8, .iload_n 2, 1) rfl
theorem dX8_ask_9 : decode cX8_ask 9 = .ok (.iconst 0, 1) := tb_d tk_X8_ask_1 5 (9, .iconst 0, 1) rfl
theorem dX8_ask_10 : decode cX8_ask 10 = .ok (.iconst 1, 1) := tb_d tk_X8_ask_1 6 (10, .iconst 1, 1) rfl
theorem dX8_ask_11 : decode cX8_ask 11 = .ok (.invokestatic 56, 3) := tb_d tk_X8_ask_1 7 (11, .invokestatic 56, 3) rfl
theorem dX8_ask_14 : decode cX8_ask 14 = .ok (.ifCond .ne 6, 3) := tb_d tk_X8_ask_1 8 (14, .ifCond .ne 6, 3) rfl
theorem dX8_ask_17 : decode cX8_ask 17 = .ok (.ldc 64, 2) := tb_d tk_X8_ask_1 9 (17, .ldc 64, 2) rfl
theorem dX8_ask_19 : decode cX8_ask 19 = .ok (.ireturn, 1) := tb_d tk_X8_ask_1 10 (19, .ireturn, 1) rfl
theorem dX8_ask_20 : decode cX8_ask 20 = .ok (.aload_n 0, 1) := tb_d tk_X8_ask_1 11 (20, .aload_n 0, 1) rfl
theorem dX8_ask_21 : decode cX8_ask 21 = .ok (.iconst 0, 1) := tb_d tk_X8_ask_1 12 (21, .iconst 0, 1) rfl
theorem dX8_ask_22 : decode cX8_ask 22 = .ok (.putfield 237, 3) := tb_d tk_X8_ask_1 13 (22, .putfield 237, 3) rfl
theorem dX8_ask_25 : decode cX8_ask 25 = .ok (.aload_n 0, 1) := tb_d tk_X8_ask_1 14 (25, .aload_n 0, 1) rfl
theorem dX8_ask_26 : decode cX8_ask 26 = .ok (.iload_n 1, 1) := tb_d tk_X8_ask_1 15 (26, .iload_n 1, 1) rfl
theorem dX8_ask_27 : decode cX8_ask 27 = .ok (.invokevirtual 165, 3) := tb_d tk_X8_ask_1 16 (27, .invokevirtual 165, 3) rfl
theorem dX8_ask_30 : decode cX8_ask 30 = .ok (.iconst 4, 1) := tb_d tk_X8_ask_1 17 (30, .iconst 4, 1) rfl
theorem dX8_ask_31 : decode cX8_ask 31 = .ok (.if_icmp .lt 7, 3) := tb_d tk_X8_ask_1 18 (31, .if_icmp .lt 7, 3) rfl
theorem dX8_ask_34 : decode cX8_ask 34 = .ok (.iconst 1, 1) := tb_d tk_X8_ask_1 19 (34, .iconst 1, 1) rfl
theorem dX8_ask_35 : decode cX8_ask 35 = .ok (.goto 4, 3) := tb_d tk_X8_ask_1 20 (35, .goto 4, 3) rfl
theorem dX8_ask_38 : decode cX8_ask 38 = .ok (.iconst 0, 1) := tb_d tk_X8_ask_1 21 (38, .iconst 0, 1) rfl
theorem dX8_ask_39 : decode cX8_ask 39 = .ok (.istore_n 3, 1) := tb_d tk_X8_ask_1 22 (39, .istore_n 3, 1) rfl
theorem dX8_ask_40 : decode cX8_ask 40 = .ok (.iload_n 2, 1) := tb_d tk_X8_ask_1 23 (40, .iload_n 2, 1) rfl
theorem dX8_ask_41 : decode cX8_ask 41 = .ok (.ifCond .ne 21, 3) := tb_d tk_X8_ask_1 24 (41, .ifCond .ne 21, 3) rfl
theorem dX8_ask_44 : decode cX8_ask 44 = .ok (.iload_n 3, 1) := tb_d tk_X8_ask_1 25 (44, .iload_n 3, 1) rfl
theorem dX8_ask_45 : decode cX8_ask 45 = .ok (.ifCond .eq 11, 3) := tb_d tk_X8_ask_1 26 (45, .ifCond .eq 11, 3) rfl
theorem dX8_ask_48 : decode cX8_ask 48 = .ok (.aload_n 0, 1) := tb_d tk_X8_ask_1 27 (48, .aload_n 0, 1) rfl
theorem dX8_ask_49 : decode cX8_ask 49 = .ok (.iload_n 1, 1) := tb_d tk_X8_ask_1 28 (49, .iload_n 1, 1) rfl
theorem dX8_ask_50 : decode cX8_ask 50 = .ok (.invokevirtual 247, 3) := tb_d tk_X8_ask_1 29 (50, .invokevirtual 247, 3) rfl
theorem dX8_ask_53 : decode cX8_ask 53 = .ok (.goto 8, 3) := tb_d tk_X8_ask_1 30 (53, .goto 8, 3) rfl
theorem dX8_ask_56 : decode cX8_ask 56 = .ok (.aload_n 0, 1) := tb_d tk_X8_ask_1 31 (56, .aload_n 0, 1) rfl
theorem dX8_ask_57 : decode cX8_ask 57 = .ok (.iload_n 1, 1) := tb_d tk_X8_ask_1 32 (57, .iload_n 1, 1) rfl
theorem dX8_ask_58 : decode cX8_ask 58 = .ok (.invokevirtual 250, 3) := tb_d tk_X8_ask_1 33 (58, .invokevirtual 250, 3) rfl
theorem dX8_ask_61 : decode cX8_ask 61 = .ok (.ireturn, 1) := tb_d tk_X8_ask_1 34 (61, .ireturn, 1) rfl
theorem dX8_ask_62 : decode cX8_ask 62 = .ok (.iload_n 3, 1) := tb_d tk_X8_ask_1 35 (62, .iload_n 3, 1) rfl
theorem dX8_ask_63 : decode cX8_ask 63 = .ok (.ifCond .eq 11, 3) := tb_d tk_X8_ask_1 36 (63, .ifCond .eq 11, 3) rfl
theorem dX8_ask_66 : decode cX8_ask 66 = .ok (.aload_n 0, 1) := tb_d tk_X8_ask_1 37 (66, .aload_n 0, 1) rfl
theorem dX8_ask_67 : decode cX8_ask 67 = .ok (.iload_n 1, 1) := tb_d tk_X8_ask_1 38 (67, .iload_n 1, 1) rfl
theorem dX8_ask_68 : decode cX8_ask 68 = .ok (.invokevirtual 253, 3) := tb_d tk_X8_ask_1 39 (68, .invokevirtual 253, 3) rfl
def tb_X8_ask_2 : List (Nat × Instr × Nat) := [(71, .goto 8, 3), (74, .aload_n 0, 1), (75, .iload_n 1, 1), (76, .invokevirtual 244, 3), (79, .ireturn, 1)]
set_option maxRecDepth 100000 in
theorem tk_X8_ask_2 : (tb_X8_ask_2.all fun q => decide (decode cX8_ask q.1 = .ok q.2)) = true := by decide +kernel
theorem dX8_ask_71 : decode cX8_ask 71 = .ok (.goto 8, 3) := tb_d tk_X8_ask_2 0 (71, .goto 8, 3) rfl
theorem dX8_ask_74 : decode cX8_ask 74 = .ok (.aload_n 0, 1) := tb_d tk_X8_ask_2 1 (74, .aload_n 0, 1) rfl
theorem dX8_ask_75 : decode cX8_ask 75 = .ok (.iload_n 1, 1) := tb_d tk_X8_ask_2 2 (75, .iload_n 1, 1) rfl
theorem dX8_ask_76 : decode cX8_ask 76 = .ok (.invokevirtual 244, 3) := tb_d tk_X8_ask_2 3 (76, .invokevirtual 244, 3) rfl
theorem dX8_ask_79 : decode cX8_ask 79 = .ok (.ireturn, 1) := tb_d tk_X8_ask_2 4 (79, .ireturn, 1) rfl
theorem ggX8_trace_X8_in : GoodIn wsX8_trace wsX8_in := fun w h => ⟨List.mem_cons_of_mem _ (List.mem_append_right _ (List.mem_append_right _ (List.mem_append_right _ (List.mem_append_left _ h)))), good_of_word (gdX8_in w h)⟩
set_option maxRecDepth 20000 in
theorem gX8_trace_X8_in : GoodIn wsX8_trace (va_wsS RX8 56 yX8_in wsX8_in) := goodIn_app (a := bkS RX8 56 yX8_in) (fun w h => ⟨List.mem_cons_of_mem _ (List.mem_append_right _ (List.mem_append_left _ h)), good_of_word (gd_bS _ _ _ w h)⟩) ggX8_trace_X8_in
def tb_X8_trace_1 : List (Nat × Instr × Nat) := [(0, .iload_n 1, 1), (1, .iconst 0, 1), (2, .aload_n 0, 1), (3, .getfield 237, 3), (6, .iconst 1, 1), (7, .isub, 1), (8, .invokestatic 56, 3), (11, .ifCond .eq 12, 3), (14, .aload_n 0, 1), (15, .getfield 47, 3), (18, .iload_n 1, 1), (19, .iaload, 1), (20, .goto 5, 3), (23, .ldc 50, 2), (25, .ireturn, 1)]
set_option maxRecDepth 100000 in
theorem tk_X8_trace_1 : (tb_X8_trace_1.all fun q => decide (decode cX8_trace q.1 = .ok q.2)) = true := by decide +kernel
theorem dX8_trace_0 : decode cX8_trace 0 = .ok (.iload_n 1, 1) := tb_d tk_X8_trace_1 0 (0, .iload_n 1, 1) rfl
theorem dX8_trace_1 : decode cX8_trace 1 = .ok (.iconst 0, 1) := tb_d tk_X8_trace_1 1 (1, .iconst 0, 1) rfl
theorem dX8_trace_2 : decode cX8_trace 2 = .ok (.aload_n 0, 1) := tb_d tk_X8_trace_1 2 (2, .aload_n 0, 1) rfl
theorem dX8_trace_3 : decode cX8_trace 3 = .ok (.getfield 237, 3) := tb_d tk_X8_trace_1 3 (3, .getfield 237, 3) rfl
theorem dX8_trace_6 : decode cX8_trace 6 = .ok (.iconst 1, 1) := tb_d tk_X8_trace_1 4 (6, .iconst 1, 1) rfl
theorem dX8_trace_7 : decode cX8_trace 7 = .ok (.isub, 1) := tb_d tk_X8_trace_1 5 (7, .isub, 1) rfl
theorem dX8_trace_8 : decode cX8_trace 8 = .ok (.invokestatic 56, 3) := tb_d tk_X8_trace_1 6 (8, .invokestatic 56, 3) rfl
theorem dX8_trace_11 : decode cX8_trace 11 = .ok (.ifCond .eq 12, 3) := tb_d tk_X8_trace_1 7 (11, .ifCond .eq 12, 3) rfl
theorem dX8_trace_14 : decode cX8_trace 14 = .ok (.aload_n 0, 1) := tb_d tk_X8_trace_1 8 (14, .aload_n 0, 1) rfl
theorem dX8_trace_15 : decode cX8_trace 15 = .ok (.getfield 47, 3) := tb_d tk_X8_trace_1 9 (15, .getfield 47, 3) rfl
theorem dX8_trace_18 : decode cX8_trace 18 = .ok (.iload_n 1, 1) := tb_d tk_X8_trace_1 10 (18, .iload_n 1, 1) rfl
theorem dX8_trace_19 : decode cX8_trace 19 = .ok (.iaload, 1) := tb_d tk_X8_trace_1 11 (19, .iaload, 1) rfl
theorem dX8_trace_20 : decode cX8_trace 20 = .ok (.goto 5, 3) := tb_d tk_X8_trace_1 12 (20, .goto 5, 3) rfl
theorem dX8_trace_23 : decode cX8_trace 23 = .ok (.ldc 50, 2) := tb_d tk_X8_trace_1 13 (23, .ldc 50, 2) rfl
theorem dX8_trace_25 : decode cX8_trace 25 = .ok (.ireturn, 1) := tb_d tk_X8_trace_1 14 (25, .ireturn, 1) rfl
theorem ggX8_count_X8_isMissing : GoodIn wsX8_count wsX8_isMissing := fun w h => ⟨List.mem_cons_of_mem _ (List.mem_append_right _ (List.mem_append_right _ (List.mem_append_right _ (List.mem_append_left _ h)))), good_of_word (gdX8_isMissing w h)⟩
set_option maxRecDepth 20000 in
theorem gX8_count_X8_isMissing : GoodIn wsX8_count (wsV RX8 72 RX8 yX8_isMissing wsX8_isMissing) := goodIn_app (a := bkV RX8 72 RX8 yX8_isMissing) (fun w h => ⟨List.mem_cons_of_mem _ (List.mem_append_right _ (List.mem_append_left _ h)), good_of_word (gd_bV _ _ _ _ w h)⟩) ggX8_count_X8_isMissing
def tb_X8_count_1 : List (Nat × Instr × Nat) := [(0, .iconst 0, 1), (1, .istore_n 2, 1), (2, .iload_n 1, 1), (3, .tableswitch 175 0 9 #[53, 85, 92, 99, 106, 114, 122, 127, 132, 139], 53), (56, .iconst 0, 1), (57, .istore_n 3, 1), (58, .iload_n 3, 1), (59, .bipush 8, 2), (61, .if_icmp .ge 25, 3), (64, .iload_n 2, 1), (65, .aload_n 0, 1), (66, .iload_n 3, 1), (67, .invokevirtual 72, 3), (70, .ifCond .eq 7, 3), (73, .iconst 0, 1), (74, .goto 4, 3), (77, .iconst 1, 1), (78, .iadd, 1), (79, .istore_n 2, 1), (80, .iinc 3 1, 3), (83, .goto (-25), 3), (86, .iload_n 2, 1), (87, .ireturn, 1), (88, .aload_n 0, 1), (89, .getfield 25, 3), (92, .iconst 3, 1), (93, .iaload, 1), (94, .ireturn, 1), (95, .aload_n 0, 1), (96, .getfield 25, 3), (99, .iconst 4, 1), (100, .iaload, 1), (101, .ireturn, 1), (102, .aload_n 0, 1), (103, .getfield 25, 3), (106, .iconst 5, 1), (107, .iaload, 1), (108, .ireturn, 1), (109, .aload_n 0, 1), (110, .getfield 25, 3)]
set_option maxRecDepth 100000 in
theorem tk_X8_count_1 : (tb_X8_count_1.all fun q => decide (decode cX8_count q.1 = .ok q.2)) = true := by decide +kernel
theorem dX8_count_0 : decode cX8_count 0 = .ok (.iconst 0, 1) := tb_d tk_X8_count_1 0 (0, .iconst 0, 1) rfl
theorem dX8_count_1 : decode cX8_count 1 = .ok (.istore_n 2, 1) := tb_d tk_X8_count_1 1 (1, .istore_n 2, 1) rfl
theorem dX8_count_2 : decode cX8_count 2 = .ok (.iload_n 1, 1) := tb_d tk_X8_count_1 2 (2, .iload_n 1, 1) rfl
theorem dX8_count_3 : decode cX8_count 3 = .ok (.tableswitch 175 0 9 #[53, 85, 92, 99, 106, 114, 122, 127, 132, 139], 53) := tb_d tk_X8_count_1 3 (3, .tableswitch 175 0 9 #[53, 85, 92, 99, 106, 114, 122, 127, 132, 139], 53) rfl
theorem dX8_count_56 : decode cX8_count 56 = .ok (.iconst 0, 1) := tb_d tk_X8_count_1 4 (56, .iconst 0, 1) rfl
theorem dX8_count_57 : decode cX8_count 57 = .ok (.istore_n 3, 1) := tb_d tk_X8_count_1 5 (57, .istore_n 3, 1) rfl
theorem dX8_count_58 : decode cX8_count 58 = .ok (.iload_n 3, 1) := tb_d tk_X8_count_1 6 (58, .iload_n 3, 1) rfl
theorem dX8_count_59 : decode cX8_count 59 = .ok (.bipush 8, 2) := tb_d tk_X8_count_1 7 (59, .bipush 8, 2) rfl
theorem dX8_count_61 : decode cX8_count 61 = .ok (.if_icmp .ge 25, 3) := tb_d tk_X8_count_1 8 (61, .if_icmp .ge 25, 3) rfl
theorem dX8_count_64 : decode cX8_count 64 = .ok (.iload_n 2, 1) := tb_d tk_X8_count_1 9 (64, .iload_n 2, 1) rfl
theorem dX8_count_65 : decode cX8_count 65 = .ok (.aload_n 0, 1) := tb_d tk_X8_count_1 10 (65, .aload_n 0, 1) rfl
theorem dX8_count_66 : decode cX8_count 66 = .ok (.iload_n 3, 1) := tb_d tk_X8_count_1 11 (66, .iload_n 3, 1) rfl
theorem dX8_count_67 : decode cX8_count 67 = .ok (.invokevirtual 72, 3) := tb_d tk_X8_count_1 12 (67, .invokevirtual 72, 3) rfl
theorem dX8_count_70 : decode cX8_count 70 = .ok (.ifCond .eq 7, 3) := tb_d tk_X8_count_1 13 (70, .ifCond .eq 7, 3) rfl
theorem dX8_count_73 : decode cX8_count 73 = .ok (.iconst 0, 1) := tb_d tk_X8_count_1 14 (73, .iconst 0, 1) rfl
theorem dX8_count_74 : decode cX8_count 74 = .ok (.goto 4, 3) := tb_d tk_X8_count_1 15 (74, .goto 4, 3) rfl
theorem dX8_count_77 : decode cX8_count 77 = .ok (.iconst 1, 1) := tb_d tk_X8_count_1 16 (77, .iconst 1, 1) rfl
theorem dX8_count_78 : decode cX8_count 78 = .ok (.iadd, 1) := tb_d tk_X8_count_1 17 (78, .iadd, 1) rfl
theorem dX8_count_79 : decode cX8_count 79 = .ok (.istore_n 2, 1) := tb_d tk_X8_count_1 18 (79, .istore_n 2, 1) rfl
theorem dX8_count_80 : decode cX8_count 80 = .ok (.iinc 3 1, 3) := tb_d tk_X8_count_1 19 (80, .iinc 3 1, 3) rfl
theorem dX8_count_83 : decode cX8_count 83 = .ok (.goto (-25), 3) := tb_d tk_X8_count_1 20 (83, .goto (-25), 3) rfl
theorem dX8_count_86 : decode cX8_count 86 = .ok (.iload_n 2, 1) := tb_d tk_X8_count_1 21 (86, .iload_n 2, 1) rfl
theorem dX8_count_87 : decode cX8_count 87 = .ok (.ireturn, 1) := tb_d tk_X8_count_1 22 (87, .ireturn, 1) rfl
theorem dX8_count_88 : decode cX8_count 88 = .ok (.aload_n 0, 1) := tb_d tk_X8_count_1 23 (88, .aload_n 0, 1) rfl
theorem dX8_count_89 : decode cX8_count 89 = .ok (.getfield 25, 3) := tb_d tk_X8_count_1 24 (89, .getfield 25, 3) rfl
theorem dX8_count_92 : decode cX8_count 92 = .ok (.iconst 3, 1) := tb_d tk_X8_count_1 25 (92, .iconst 3, 1) rfl
theorem dX8_count_93 : decode cX8_count 93 = .ok (.iaload, 1) := tb_d tk_X8_count_1 26 (93, .iaload, 1) rfl
theorem dX8_count_94 : decode cX8_count 94 = .ok (.ireturn, 1) := tb_d tk_X8_count_1 27 (94, .ireturn, 1) rfl
theorem dX8_count_95 : decode cX8_count 95 = .ok (.aload_n 0, 1) := tb_d tk_X8_count_1 28 (95, .aload_n 0, 1) rfl
theorem dX8_count_96 : decode cX8_count 96 = .ok (.getfield 25, 3) := tb_d tk_X8_count_1 29 (96, .getfield 25, 3) rfl
theorem dX8_count_99 : decode cX8_count 99 = .ok (.iconst 4, 1) := tb_d tk_X8_count_1 30 (99, .iconst 4, 1) rfl
theorem dX8_count_100 : decode cX8_count 100 = .ok (.iaload, 1) := tb_d tk_X8_count_1 31 (100, .iaload, 1) rfl
theorem dX8_count_101 : decode cX8_count 101 = .ok (.ireturn, 1) := tb_d tk_X8_count_1 32 (101, .ireturn, 1) rfl
theorem dX8_count_102 : decode cX8_count 102 = .ok (.aload_n 0, 1) := tb_d tk_X8_count_1 33 (102, .aload_n 0, 1) rfl
theorem dX8_count_103 : decode cX8_count 103 = .ok (.getfield 25, 3) := tb_d tk_X8_count_1 34 (103, .getfield 25, 3) rfl
theorem dX8_count_106 : decode cX8_count 106 = .ok (.iconst 5, 1) := tb_d tk_X8_count_1 35 (106, .iconst 5, 1) rfl
theorem dX8_count_107 : decode cX8_count 107 = .ok (.iaload, 1) := tb_d tk_X8_count_1 36 (107, .iaload, 1) rfl
theorem dX8_count_108 : decode cX8_count 108 = .ok (.ireturn, 1) := tb_d tk_X8_count_1 37 (108, .ireturn, 1) rfl
theorem dX8_count_109 : decode cX8_count 109 = .ok (.aload_n 0, 1) := tb_d tk_X8_count_1 38 (109, .aload_n 0, 1) rfl
theorem dX8_count_110 : decode cX8_count 110 = .ok (.getfield 25, 3) := tb_d tk_X8_count_1 39 (110, .getfield 25, 3) rfl
def tb_X8_count_2 : List (Nat × Instr × Nat) := [(113, .bipush 7, 2), (115, .iaload, 1), (116, .ireturn, 1), (117, .aload_n 0, 1), (118, .getfield 25, 3), (121, .bipush 6, 2), (123, .iaload, 1), (124, .ireturn, 1), (125, .aload_n 0, 1), (126, .getfield 149, 3), (129, .ireturn, 1), (130, .aload_n 0, 1), (131, .getfield 82, 3), (134, .ireturn, 1), (135, .aload_n 0, 1), (136, .getfield 25, 3), (139, .iconst 0, 1), (140, .iaload, 1), (141, .ireturn, 1), (142, .iconst 0, 1), (143, .istore_n 3, 1), (144, .iload_n 3, 1), (145, .aload_n 0, 1), (146, .getfield 25, 3), (149, .iconst 4, 1), (150, .iaload, 1), (151, .if_icmp .ge 25, 3), (154, .iload_n 2, 1), (155, .aload_n 0, 1), (156, .getfield 25, 3), (159, .bipush 26, 2), (161, .iconst 3, 1), (162, .iload_n 3, 1), (163, .imul, 1), (164, .iadd, 1), (165, .iconst 2, 1), (166, .iadd, 1), (167, .iaload, 1), (168, .iadd, 1), (169, .istore_n 2, 1)]
set_option maxRecDepth 100000 in
theorem tk_X8_count_2 : (tb_X8_count_2.all fun q => decide (decode cX8_count q.1 = .ok q.2)) = true := by decide +kernel
theorem dX8_count_113 : decode cX8_count 113 = .ok (.bipush 7, 2) := tb_d tk_X8_count_2 0 (113, .bipush 7, 2) rfl
theorem dX8_count_115 : decode cX8_count 115 = .ok (.iaload, 1) := tb_d tk_X8_count_2 1 (115, .iaload, 1) rfl
theorem dX8_count_116 : decode cX8_count 116 = .ok (.ireturn, 1) := tb_d tk_X8_count_2 2 (116, .ireturn, 1) rfl
theorem dX8_count_117 : decode cX8_count 117 = .ok (.aload_n 0, 1) := tb_d tk_X8_count_2 3 (117, .aload_n 0, 1) rfl
theorem dX8_count_118 : decode cX8_count 118 = .ok (.getfield 25, 3) := tb_d tk_X8_count_2 4 (118, .getfield 25, 3) rfl
theorem dX8_count_121 : decode cX8_count 121 = .ok (.bipush 6, 2) := tb_d tk_X8_count_2 5 (121, .bipush 6, 2) rfl
theorem dX8_count_123 : decode cX8_count 123 = .ok (.iaload, 1) := tb_d tk_X8_count_2 6 (123, .iaload, 1) rfl
theorem dX8_count_124 : decode cX8_count 124 = .ok (.ireturn, 1) := tb_d tk_X8_count_2 7 (124, .ireturn, 1) rfl
theorem dX8_count_125 : decode cX8_count 125 = .ok (.aload_n 0, 1) := tb_d tk_X8_count_2 8 (125, .aload_n 0, 1) rfl
theorem dX8_count_126 : decode cX8_count 126 = .ok (.getfield 149, 3) := tb_d tk_X8_count_2 9 (126, .getfield 149, 3) rfl
theorem dX8_count_129 : decode cX8_count 129 = .ok (.ireturn, 1) := tb_d tk_X8_count_2 10 (129, .ireturn, 1) rfl
theorem dX8_count_130 : decode cX8_count 130 = .ok (.aload_n 0, 1) := tb_d tk_X8_count_2 11 (130, .aload_n 0, 1) rfl
theorem dX8_count_131 : decode cX8_count 131 = .ok (.getfield 82, 3) := tb_d tk_X8_count_2 12 (131, .getfield 82, 3) rfl
theorem dX8_count_134 : decode cX8_count 134 = .ok (.ireturn, 1) := tb_d tk_X8_count_2 13 (134, .ireturn, 1) rfl
theorem dX8_count_135 : decode cX8_count 135 = .ok (.aload_n 0, 1) := tb_d tk_X8_count_2 14 (135, .aload_n 0, 1) rfl
theorem dX8_count_136 : decode cX8_count 136 = .ok (.getfield 25, 3) := tb_d tk_X8_count_2 15 (136, .getfield 25, 3) rfl
theorem dX8_count_139 : decode cX8_count 139 = .ok (.iconst 0, 1) := tb_d tk_X8_count_2 16 (139, .iconst 0, 1) rfl
theorem dX8_count_140 : decode cX8_count 140 = .ok (.iaload, 1) := tb_d tk_X8_count_2 17 (140, .iaload, 1) rfl
theorem dX8_count_141 : decode cX8_count 141 = .ok (.ireturn, 1) := tb_d tk_X8_count_2 18 (141, .ireturn, 1) rfl
theorem dX8_count_142 : decode cX8_count 142 = .ok (.iconst 0, 1) := tb_d tk_X8_count_2 19 (142, .iconst 0, 1) rfl
theorem dX8_count_143 : decode cX8_count 143 = .ok (.istore_n 3, 1) := tb_d tk_X8_count_2 20 (143, .istore_n 3, 1) rfl
theorem dX8_count_144 : decode cX8_count 144 = .ok (.iload_n 3, 1) := tb_d tk_X8_count_2 21 (144, .iload_n 3, 1) rfl
theorem dX8_count_145 : decode cX8_count 145 = .ok (.aload_n 0, 1) := tb_d tk_X8_count_2 22 (145, .aload_n 0, 1) rfl
theorem dX8_count_146 : decode cX8_count 146 = .ok (.getfield 25, 3) := tb_d tk_X8_count_2 23 (146, .getfield 25, 3) rfl
theorem dX8_count_149 : decode cX8_count 149 = .ok (.iconst 4, 1) := tb_d tk_X8_count_2 24 (149, .iconst 4, 1) rfl
theorem dX8_count_150 : decode cX8_count 150 = .ok (.iaload, 1) := tb_d tk_X8_count_2 25 (150, .iaload, 1) rfl
theorem dX8_count_151 : decode cX8_count 151 = .ok (.if_icmp .ge 25, 3) := tb_d tk_X8_count_2 26 (151, .if_icmp .ge 25, 3) rfl
theorem dX8_count_154 : decode cX8_count 154 = .ok (.iload_n 2, 1) := tb_d tk_X8_count_2 27 (154, .iload_n 2, 1) rfl
theorem dX8_count_155 : decode cX8_count 155 = .ok (.aload_n 0, 1) := tb_d tk_X8_count_2 28 (155, .aload_n 0, 1) rfl
theorem dX8_count_156 : decode cX8_count 156 = .ok (.getfield 25, 3) := tb_d tk_X8_count_2 29 (156, .getfield 25, 3) rfl
theorem dX8_count_159 : decode cX8_count 159 = .ok (.bipush 26, 2) := tb_d tk_X8_count_2 30 (159, .bipush 26, 2) rfl
theorem dX8_count_161 : decode cX8_count 161 = .ok (.iconst 3, 1) := tb_d tk_X8_count_2 31 (161, .iconst 3, 1) rfl
theorem dX8_count_162 : decode cX8_count 162 = .ok (.iload_n 3, 1) := tb_d tk_X8_count_2 32 (162, .iload_n 3, 1) rfl
theorem dX8_count_163 : decode cX8_count 163 = .ok (.imul, 1) := tb_d tk_X8_count_2 33 (163, .imul, 1) rfl
theorem dX8_count_164 : decode cX8_count 164 = .ok (.iadd, 1) := tb_d tk_X8_count_2 34 (164, .iadd, 1) rfl
theorem dX8_count_165 : decode cX8_count 165 = .ok (.iconst 2, 1) := tb_d tk_X8_count_2 35 (165, .iconst 2, 1) rfl
theorem dX8_count_166 : decode cX8_count 166 = .ok (.iadd, 1) := tb_d tk_X8_count_2 36 (166, .iadd, 1) rfl
theorem dX8_count_167 : decode cX8_count 167 = .ok (.iaload, 1) := tb_d tk_X8_count_2 37 (167, .iaload, 1) rfl
theorem dX8_count_168 : decode cX8_count 168 = .ok (.iadd, 1) := tb_d tk_X8_count_2 38 (168, .iadd, 1) rfl
theorem dX8_count_169 : decode cX8_count 169 = .ok (.istore_n 2, 1) := tb_d tk_X8_count_2 39 (169, .istore_n 2, 1) rfl
def tb_X8_count_3 : List (Nat × Instr × Nat) := [(170, .iinc 3 1, 3), (173, .goto (-29), 3), (176, .iload_n 2, 1), (177, .ireturn, 1), (178, .ldc 64, 2), (180, .ireturn, 1)]
set_option maxRecDepth 100000 in
theorem tk_X8_count_3 : (tb_X8_count_3.all fun q => decide (decode cX8_count q.1 = .ok q.2)) = true := by decide +kernel
theorem dX8_count_170 : decode cX8_count 170 = .ok (.iinc 3 1, 3) := tb_d tk_X8_count_3 0 (170, .iinc 3 1, 3) rfl
theorem dX8_count_173 : decode cX8_count 173 = .ok (.goto (-29), 3) := tb_d tk_X8_count_3 1 (173, .goto (-29), 3) rfl
theorem dX8_count_176 : decode cX8_count 176 = .ok (.iload_n 2, 1) := tb_d tk_X8_count_3 2 (176, .iload_n 2, 1) rfl
theorem dX8_count_177 : decode cX8_count 177 = .ok (.ireturn, 1) := tb_d tk_X8_count_3 3 (177, .ireturn, 1) rfl
theorem dX8_count_178 : decode cX8_count 178 = .ok (.ldc 64, 2) := tb_d tk_X8_count_3 4 (178, .ldc 64, 2) rfl
theorem dX8_count_180 : decode cX8_count 180 = .ok (.ireturn, 1) := tb_d tk_X8_count_3 5 (180, .ireturn, 1) rfl
def tb_X8_status_1 : List (Nat × Instr × Nat) := [(0, .aload_n 0, 1), (1, .getfield 51, 3), (4, .ireturn, 1)]
set_option maxRecDepth 100000 in
theorem tk_X8_status_1 : (tb_X8_status_1.all fun q => decide (decode cX8_status q.1 = .ok q.2)) = true := by decide +kernel
theorem dX8_status_0 : decode cX8_status 0 = .ok (.aload_n 0, 1) := tb_d tk_X8_status_1 0 (0, .aload_n 0, 1) rfl
theorem dX8_status_1 : decode cX8_status 1 = .ok (.getfield 51, 3) := tb_d tk_X8_status_1 1 (1, .getfield 51, 3) rfl
theorem dX8_status_4 : decode cX8_status 4 = .ok (.ireturn, 1) := tb_d tk_X8_status_1 2 (4, .ireturn, 1) rfl
def tb_J6_bitCount_0f7a4_1 : List (Nat × Instr × Nat) := [(0, .iload_n 0, 1), (1, .iload_n 0, 1), (2, .iconst 1, 1), (3, .iushr, 1), (4, .ldc_w 265, 3), (7, .iand, 1), (8, .isub, 1), (9, .istore_n 0, 1), (10, .iload_n 0, 1), (11, .ldc_w 266, 3), (14, .iand, 1), (15, .iload_n 0, 1), (16, .iconst 2, 1), (17, .iushr, 1), (18, .ldc_w 266, 3), (21, .iand, 1), (22, .iadd, 1), (23, .istore_n 0, 1), (24, .iload_n 0, 1), (25, .iload_n 0, 1), (26, .iconst 4, 1), (27, .iushr, 1), (28, .iadd, 1), (29, .ldc_w 267, 3), (32, .iand, 1), (33, .istore_n 0, 1), (34, .iload_n 0, 1), (35, .iload_n 0, 1), (36, .bipush 8, 2), (38, .iushr, 1), (39, .iadd, 1), (40, .istore_n 0, 1), (41, .iload_n 0, 1), (42, .iload_n 0, 1), (43, .bipush 16, 2), (45, .iushr, 1), (46, .iadd, 1), (47, .istore_n 0, 1), (48, .iload_n 0, 1), (49, .bipush 63, 2)]
set_option maxRecDepth 100000 in
theorem tk_J6_bitCount_0f7a4_1 : (tb_J6_bitCount_0f7a4_1.all fun q => decide (decode cJ6_bitCount_0f7a4 q.1 = .ok q.2)) = true := by decide +kernel
theorem dJ6_bitCount_0f7a4_0 : decode cJ6_bitCount_0f7a4 0 = .ok (.iload_n 0, 1) := tb_d tk_J6_bitCount_0f7a4_1 0 (0, .iload_n 0, 1) rfl
theorem dJ6_bitCount_0f7a4_1 : decode cJ6_bitCount_0f7a4 1 = .ok (.iload_n 0, 1) := tb_d tk_J6_bitCount_0f7a4_1 1 (1, .iload_n 0, 1) rfl
theorem dJ6_bitCount_0f7a4_2 : decode cJ6_bitCount_0f7a4 2 = .ok (.iconst 1, 1) := tb_d tk_J6_bitCount_0f7a4_1 2 (2, .iconst 1, 1) rfl
theorem dJ6_bitCount_0f7a4_3 : decode cJ6_bitCount_0f7a4 3 = .ok (.iushr, 1) := tb_d tk_J6_bitCount_0f7a4_1 3 (3, .iushr, 1) rfl
theorem dJ6_bitCount_0f7a4_4 : decode cJ6_bitCount_0f7a4 4 = .ok (.ldc_w 265, 3) := tb_d tk_J6_bitCount_0f7a4_1 4 (4, .ldc_w 265, 3) rfl
theorem dJ6_bitCount_0f7a4_7 : decode cJ6_bitCount_0f7a4 7 = .ok (.iand, 1) := tb_d tk_J6_bitCount_0f7a4_1 5 (7, .iand, 1) rfl
theorem dJ6_bitCount_0f7a4_8 : decode cJ6_bitCount_0f7a4 8 = .ok (.isub, 1) := tb_d tk_J6_bitCount_0f7a4_1 6 (8, .isub, 1) rfl
theorem dJ6_bitCount_0f7a4_9 : decode cJ6_bitCount_0f7a4 9 = .ok (.istore_n 0, 1) := tb_d tk_J6_bitCount_0f7a4_1 7 (9, .istore_n 0, 1) rfl
theorem dJ6_bitCount_0f7a4_10 : decode cJ6_bitCount_0f7a4 10 = .ok (.iload_n 0, 1) := tb_d tk_J6_bitCount_0f7a4_1 8 (10, .iload_n 0, 1) rfl
theorem dJ6_bitCount_0f7a4_11 : decode cJ6_bitCount_0f7a4 11 = .ok (.ldc_w 266, 3) := tb_d tk_J6_bitCount_0f7a4_1 9 (11, .ldc_w 266, 3) rfl
theorem dJ6_bitCount_0f7a4_14 : decode cJ6_bitCount_0f7a4 14 = .ok (.iand, 1) := tb_d tk_J6_bitCount_0f7a4_1 10 (14, .iand, 1) rfl
theorem dJ6_bitCount_0f7a4_15 : decode cJ6_bitCount_0f7a4 15 = .ok (.iload_n 0, 1) := tb_d tk_J6_bitCount_0f7a4_1 11 (15, .iload_n 0, 1) rfl
theorem dJ6_bitCount_0f7a4_16 : decode cJ6_bitCount_0f7a4 16 = .ok (.iconst 2, 1) := tb_d tk_J6_bitCount_0f7a4_1 12 (16, .iconst 2, 1) rfl
theorem dJ6_bitCount_0f7a4_17 : decode cJ6_bitCount_0f7a4 17 = .ok (.iushr, 1) := tb_d tk_J6_bitCount_0f7a4_1 13 (17, .iushr, 1) rfl
theorem dJ6_bitCount_0f7a4_18 : decode cJ6_bitCount_0f7a4 18 = .ok (.ldc_w 266, 3) := tb_d tk_J6_bitCount_0f7a4_1 14 (18, .ldc_w 266, 3) rfl
theorem dJ6_bitCount_0f7a4_21 : decode cJ6_bitCount_0f7a4 21 = .ok (.iand, 1) := tb_d tk_J6_bitCount_0f7a4_1 15 (21, .iand, 1) rfl
theorem dJ6_bitCount_0f7a4_22 : decode cJ6_bitCount_0f7a4 22 = .ok (.iadd, 1) := tb_d tk_J6_bitCount_0f7a4_1 16 (22, .iadd, 1) rfl
theorem dJ6_bitCount_0f7a4_23 : decode cJ6_bitCount_0f7a4 23 = .ok (.istore_n 0, 1) := tb_d tk_J6_bitCount_0f7a4_1 17 (23, .istore_n 0, 1) rfl
theorem dJ6_bitCount_0f7a4_24 : decode cJ6_bitCount_0f7a4 24 = .ok (.iload_n 0, 1) := tb_d tk_J6_bitCount_0f7a4_1 18 (24, .iload_n 0, 1) rfl
theorem dJ6_bitCount_0f7a4_25 : decode cJ6_bitCount_0f7a4 25 = .ok (.iload_n 0, 1) := tb_d tk_J6_bitCount_0f7a4_1 19 (25, .iload_n 0, 1) rfl
theorem dJ6_bitCount_0f7a4_26 : decode cJ6_bitCount_0f7a4 26 = .ok (.iconst 4, 1) := tb_d tk_J6_bitCount_0f7a4_1 20 (26, .iconst 4, 1) rfl
theorem dJ6_bitCount_0f7a4_27 : decode cJ6_bitCount_0f7a4 27 = .ok (.iushr, 1) := tb_d tk_J6_bitCount_0f7a4_1 21 (27, .iushr, 1) rfl
theorem dJ6_bitCount_0f7a4_28 : decode cJ6_bitCount_0f7a4 28 = .ok (.iadd, 1) := tb_d tk_J6_bitCount_0f7a4_1 22 (28, .iadd, 1) rfl
theorem dJ6_bitCount_0f7a4_29 : decode cJ6_bitCount_0f7a4 29 = .ok (.ldc_w 267, 3) := tb_d tk_J6_bitCount_0f7a4_1 23 (29, .ldc_w 267, 3) rfl
theorem dJ6_bitCount_0f7a4_32 : decode cJ6_bitCount_0f7a4 32 = .ok (.iand, 1) := tb_d tk_J6_bitCount_0f7a4_1 24 (32, .iand, 1) rfl
theorem dJ6_bitCount_0f7a4_33 : decode cJ6_bitCount_0f7a4 33 = .ok (.istore_n 0, 1) := tb_d tk_J6_bitCount_0f7a4_1 25 (33, .istore_n 0, 1) rfl
theorem dJ6_bitCount_0f7a4_34 : decode cJ6_bitCount_0f7a4 34 = .ok (.iload_n 0, 1) := tb_d tk_J6_bitCount_0f7a4_1 26 (34, .iload_n 0, 1) rfl
theorem dJ6_bitCount_0f7a4_35 : decode cJ6_bitCount_0f7a4 35 = .ok (.iload_n 0, 1) := tb_d tk_J6_bitCount_0f7a4_1 27 (35, .iload_n 0, 1) rfl
theorem dJ6_bitCount_0f7a4_36 : decode cJ6_bitCount_0f7a4 36 = .ok (.bipush 8, 2) := tb_d tk_J6_bitCount_0f7a4_1 28 (36, .bipush 8, 2) rfl
theorem dJ6_bitCount_0f7a4_38 : decode cJ6_bitCount_0f7a4 38 = .ok (.iushr, 1) := tb_d tk_J6_bitCount_0f7a4_1 29 (38, .iushr, 1) rfl
theorem dJ6_bitCount_0f7a4_39 : decode cJ6_bitCount_0f7a4 39 = .ok (.iadd, 1) := tb_d tk_J6_bitCount_0f7a4_1 30 (39, .iadd, 1) rfl
theorem dJ6_bitCount_0f7a4_40 : decode cJ6_bitCount_0f7a4 40 = .ok (.istore_n 0, 1) := tb_d tk_J6_bitCount_0f7a4_1 31 (40, .istore_n 0, 1) rfl
theorem dJ6_bitCount_0f7a4_41 : decode cJ6_bitCount_0f7a4 41 = .ok (.iload_n 0, 1) := tb_d tk_J6_bitCount_0f7a4_1 32 (41, .iload_n 0, 1) rfl
theorem dJ6_bitCount_0f7a4_42 : decode cJ6_bitCount_0f7a4 42 = .ok (.iload_n 0, 1) := tb_d tk_J6_bitCount_0f7a4_1 33 (42, .iload_n 0, 1) rfl
theorem dJ6_bitCount_0f7a4_43 : decode cJ6_bitCount_0f7a4 43 = .ok (.bipush 16, 2) := tb_d tk_J6_bitCount_0f7a4_1 34 (43, .bipush 16, 2) rfl
theorem dJ6_bitCount_0f7a4_45 : decode cJ6_bitCount_0f7a4 45 = .ok (.iushr, 1) := tb_d tk_J6_bitCount_0f7a4_1 35 (45, .iushr, 1) rfl
theorem dJ6_bitCount_0f7a4_46 : decode cJ6_bitCount_0f7a4 46 = .ok (.iadd, 1) := tb_d tk_J6_bitCount_0f7a4_1 36 (46, .iadd, 1) rfl
theorem dJ6_bitCount_0f7a4_47 : decode cJ6_bitCount_0f7a4 47 = .ok (.istore_n 0, 1) := tb_d tk_J6_bitCount_0f7a4_1 37 (47, .istore_n 0, 1) rfl
theorem dJ6_bitCount_0f7a4_48 : decode cJ6_bitCount_0f7a4 48 = .ok (.iload_n 0, 1) := tb_d tk_J6_bitCount_0f7a4_1 38 (48, .iload_n 0, 1) rfl
theorem dJ6_bitCount_0f7a4_49 : decode cJ6_bitCount_0f7a4 49 = .ok (.bipush 63, 2) := tb_d tk_J6_bitCount_0f7a4_1 39 (49, .bipush 63, 2) rfl
def tb_J6_bitCount_0f7a4_2 : List (Nat × Instr × Nat) := [(51, .iand, 1), (52, .ireturn, 1)]
set_option maxRecDepth 100000 in
theorem tk_J6_bitCount_0f7a4_2 : (tb_J6_bitCount_0f7a4_2.all fun q => decide (decode cJ6_bitCount_0f7a4 q.1 = .ok q.2)) = true := by decide +kernel
theorem dJ6_bitCount_0f7a4_51 : decode cJ6_bitCount_0f7a4 51 = .ok (.iand, 1) := tb_d tk_J6_bitCount_0f7a4_2 0 (51, .iand, 1) rfl
theorem dJ6_bitCount_0f7a4_52 : decode cJ6_bitCount_0f7a4 52 = .ok (.ireturn, 1) := tb_d tk_J6_bitCount_0f7a4_2 1 (52, .ireturn, 1) rfl
def tb_J9_max_7cf53_1 : List (Nat × Instr × Nat) := [(0, .iload_n 0, 1), (1, .iload_n 1, 1), (2, .if_icmp .lt 7, 3), (5, .iload_n 0, 1), (6, .goto 4, 3), (9, .iload_n 1, 1), (10, .ireturn, 1)]
set_option maxRecDepth 100000 in
theorem tk_J9_max_7cf53_1 : (tb_J9_max_7cf53_1.all fun q => decide (decode cJ9_max_7cf53 q.1 = .ok q.2)) = true := by decide +kernel
theorem dJ9_max_7cf53_0 : decode cJ9_max_7cf53 0 = .ok (.iload_n 0, 1) := tb_d tk_J9_max_7cf53_1 0 (0, .iload_n 0, 1) rfl
theorem dJ9_max_7cf53_1 : decode cJ9_max_7cf53 1 = .ok (.iload_n 1, 1) := tb_d tk_J9_max_7cf53_1 1 (1, .iload_n 1, 1) rfl
theorem dJ9_max_7cf53_2 : decode cJ9_max_7cf53 2 = .ok (.if_icmp .lt 7, 3) := tb_d tk_J9_max_7cf53_1 2 (2, .if_icmp .lt 7, 3) rfl
theorem dJ9_max_7cf53_5 : decode cJ9_max_7cf53 5 = .ok (.iload_n 0, 1) := tb_d tk_J9_max_7cf53_1 3 (5, .iload_n 0, 1) rfl
theorem dJ9_max_7cf53_6 : decode cJ9_max_7cf53 6 = .ok (.goto 4, 3) := tb_d tk_J9_max_7cf53_1 4 (6, .goto 4, 3) rfl
theorem dJ9_max_7cf53_9 : decode cJ9_max_7cf53 9 = .ok (.iload_n 1, 1) := tb_d tk_J9_max_7cf53_1 5 (9, .iload_n 1, 1) rfl
theorem dJ9_max_7cf53_10 : decode cJ9_max_7cf53 10 = .ok (.ireturn, 1) := tb_d tk_J9_max_7cf53_1 6 (10, .ireturn, 1) rfl
def tb_J9_min_7cf53_1 : List (Nat × Instr × Nat) := [(0, .iload_n 0, 1), (1, .iload_n 1, 1), (2, .if_icmp .gt 7, 3), (5, .iload_n 0, 1), (6, .goto 4, 3), (9, .iload_n 1, 1), (10, .ireturn, 1)]
set_option maxRecDepth 100000 in
theorem tk_J9_min_7cf53_1 : (tb_J9_min_7cf53_1.all fun q => decide (decode cJ9_min_7cf53 q.1 = .ok q.2)) = true := by decide +kernel
theorem dJ9_min_7cf53_0 : decode cJ9_min_7cf53 0 = .ok (.iload_n 0, 1) := tb_d tk_J9_min_7cf53_1 0 (0, .iload_n 0, 1) rfl
theorem dJ9_min_7cf53_1 : decode cJ9_min_7cf53 1 = .ok (.iload_n 1, 1) := tb_d tk_J9_min_7cf53_1 1 (1, .iload_n 1, 1) rfl
theorem dJ9_min_7cf53_2 : decode cJ9_min_7cf53 2 = .ok (.if_icmp .gt 7, 3) := tb_d tk_J9_min_7cf53_1 2 (2, .if_icmp .gt 7, 3) rfl
theorem dJ9_min_7cf53_5 : decode cJ9_min_7cf53 5 = .ok (.iload_n 0, 1) := tb_d tk_J9_min_7cf53_1 3 (5, .iload_n 0, 1) rfl
theorem dJ9_min_7cf53_6 : decode cJ9_min_7cf53 6 = .ok (.goto 4, 3) := tb_d tk_J9_min_7cf53_1 4 (6, .goto 4, 3) rfl
theorem dJ9_min_7cf53_9 : decode cJ9_min_7cf53 9 = .ok (.iload_n 1, 1) := tb_d tk_J9_min_7cf53_1 5 (9, .iload_n 1, 1) rfl
theorem dJ9_min_7cf53_10 : decode cJ9_min_7cf53 10 = .ok (.ireturn, 1) := tb_d tk_J9_min_7cf53_1 6 (10, .ireturn, 1) rfl
abbrev vwCl : List vw_C := [(RX0, TX0, 3), (RX1, TX1, 6), (RX2, TX2, 8), (RX3, TX3, 2), (RX4, TX4, 8), (RX5, TX5, 3), (RX6, TX6, 7), (RX7, TX7, 9), (RX8, TX8, 23)]

