theorem dX3_fewestMen_108 : decode cX3_fewestMen 108 = .ok (.iaload, 1) := by decide +kernel
theorem dX3_fewestMen_109 : decode cX3_fewestMen 109 = .ok (.goto 5, 3) := by decide +kernel
theorem dX3_fewestMen_112 : decode cX3_fewestMen 112 = .ok (.ldc 88, 2) := by decide +kernel
theorem dX3_fewestMen_114 : decode cX3_fewestMen 114 = .ok (.ireturn, 1) := by decide +kernel
theorem dX3_menToSplit_0 : decode cX3_menToSplit 0 = .ok (.sipush 1000, 3) := by decide +kernel
theorem dX3_menToSplit_3 : decode cX3_menToSplit 3 = .ok (.istore_n 3, 1) := by decide +kernel
theorem dX3_menToSplit_4 : decode cX3_menToSplit 4 = .ok (.iconst 0, 1) := by decide +kernel
theorem dX3_menToSplit_5 : decode cX3_menToSplit 5 = .ok (.istore 4, 2) := by decide +kernel
theorem dX3_menToSplit_7 : decode cX3_menToSplit 7 = .ok (.iload 4, 2) := by decide +kernel
theorem dX3_menToSplit_9 : decode cX3_menToSplit 9 = .ok (.iload_n 2, 1) := by decide +kernel
theorem dX3_menToSplit_10 : decode cX3_menToSplit 10 = .ok (.if_icmp .ge 57, 3) := by decide +kernel
theorem dX3_menToSplit_13 : decode cX3_menToSplit 13 = .ok (.iload_n 1, 1) := by decide +kernel
theorem dX3_menToSplit_14 : decode cX3_menToSplit 14 = .ok (.aload_n 0, 1) := by decide +kernel
theorem dX3_menToSplit_15 : decode cX3_menToSplit 15 = .ok (.getfield 9, 3) := by decide +kernel
theorem dX3_menToSplit_18 : decode cX3_menToSplit 18 = .ok (.iload 4, 2) := by decide +kernel
theorem dX3_menToSplit_20 : decode cX3_menToSplit 20 = .ok (.iaload, 1) := by decide +kernel
theorem dX3_menToSplit_21 : decode cX3_menToSplit 21 = .ok (.iand, 1) := by decide +kernel
theorem dX3_menToSplit_22 : decode cX3_menToSplit 22 = .ok (.istore 5, 2) := by decide +kernel
theorem dX3_menToSplit_24 : decode cX3_menToSplit 24 = .ok (.iload 5, 2) := by decide +kernel
theorem dX3_menToSplit_26 : decode cX3_menToSplit 26 = .ok (.ifCond .eq 35, 3) := by decide +kernel
theorem dX3_menToSplit_29 : decode cX3_menToSplit 29 = .ok (.iload 5, 2) := by decide +kernel
theorem dX3_menToSplit_31 : decode cX3_menToSplit 31 = .ok (.iload_n 1, 1) := by decide +kernel
theorem dX3_menToSplit_32 : decode cX3_menToSplit 32 = .ok (.if_icmp .eq 29, 3) := by decide +kernel
theorem dX3_menToSplit_35 : decode cX3_menToSplit 35 = .ok (.iload_n 3, 1) := by decide +kernel
theorem dX3_menToSplit_36 : decode cX3_menToSplit 36 = .ok (.iconst 1, 1) := by decide +kernel
theorem dX3_menToSplit_37 : decode cX3_menToSplit 37 = .ok (.aload_n 0, 1) := by decide +kernel
theorem dX3_menToSplit_38 : decode cX3_menToSplit 38 = .ok (.getfield 15, 3) := by decide +kernel
theorem dX3_menToSplit_41 : decode cX3_menToSplit 41 = .ok (.iload 5, 2) := by decide +kernel
theorem dX3_menToSplit_43 : decode cX3_menToSplit 43 = .ok (.iaload, 1) := by decide +kernel
theorem dX3_menToSplit_44 : decode cX3_menToSplit 44 = .ok (.aload_n 0, 1) := by decide +kernel
theorem dX3_menToSplit_45 : decode cX3_menToSplit 45 = .ok (.getfield 15, 3) := by decide +kernel
theorem dX3_menToSplit_48 : decode cX3_menToSplit 48 = .ok (.iload_n 1, 1) := by decide +kernel
theorem dX3_menToSplit_49 : decode cX3_menToSplit 49 = .ok (.iload 5, 2) := by decide +kernel
theorem dX3_menToSplit_51 : decode cX3_menToSplit 51 = .ok (.ixor, 1) := by decide +kernel
theorem dX3_menToSplit_52 : decode cX3_menToSplit 52 = .ok (.iaload, 1) := by decide +kernel
theorem dX3_menToSplit_53 : decode cX3_menToSplit 53 = .ok (.invokestatic 76, 3) := by decide +kernel
theorem dX3_menToSplit_56 : decode cX3_menToSplit 56 = .ok (.iadd, 1) := by decide +kernel
theorem dX3_menToSplit_57 : decode cX3_menToSplit 57 = .ok (.invokestatic 89, 3) := by decide +kernel
theorem dX3_menToSplit_60 : decode cX3_menToSplit 60 = .ok (.istore_n 3, 1) := by decide +kernel
theorem dX3_menToSplit_61 : decode cX3_menToSplit 61 = .ok (.iinc 4 1, 3) := by decide +kernel
theorem dX3_menToSplit_64 : decode cX3_menToSplit 64 = .ok (.goto (-57), 3) := by decide +kernel
theorem dX3_menToSplit_67 : decode cX3_menToSplit 67 = .ok (.iload_n 3, 1) := by decide +kernel
theorem dX3_menToSplit_68 : decode cX3_menToSplit 68 = .ok (.ireturn, 1) := by decide +kernel
theorem dX4_init_0 : decode cX4_init 0 = .ok (.aload_n 0, 1) := by decide +kernel
theorem dX4_init_1 : decode cX4_init 1 = .ok (.invokespecial 3, 3) := by decide +kernel
theorem dX4_init_4 : decode cX4_init 4 = .ok (.aload_n 0, 1) := by decide +kernel
theorem dX4_init_5 : decode cX4_init 5 = .ok (.iconst 4, 1) := by decide +kernel
theorem dX4_init_6 : decode cX4_init 6 = .ok (.newarray .int, 2) := by decide +kernel
theorem dX4_init_8 : decode cX4_init 8 = .ok (.putfield 9, 3) := by decide +kernel
theorem dX4_init_11 : decode cX4_init 11 = .ok (.aload_n 0, 1) := by decide +kernel
theorem dX4_init_12 : decode cX4_init 12 = .ok (.bipush 9, 2) := by decide +kernel
theorem dX4_init_14 : decode cX4_init 14 = .ok (.newarray .int, 2) := by decide +kernel
theorem dX4_init_16 : decode cX4_init 16 = .ok (.putfield 15, 3) := by decide +kernel
theorem dX4_init_19 : decode cX4_init 19 = .ok (.aload_n 0, 1) := by decide +kernel
theorem dX4_init_20 : decode cX4_init 20 = .ok (.bipush 9, 2) := by decide +kernel
theorem dX4_init_22 : decode cX4_init 22 = .ok (.newarray .int, 2) := by decide +kernel
theorem dX4_init_24 : decode cX4_init 24 = .ok (.putfield 18, 3) := by decide +kernel
theorem dX4_init_27 : decode cX4_init 27 = .ok (.aload_n 0, 1) := by decide +kernel
theorem dX4_init_28 : decode cX4_init 28 = .ok (.bipush 9, 2) := by decide +kernel
theorem dX4_init_30 : decode cX4_init 30 = .ok (.newarray .int, 2) := by decide +kernel
theorem dX4_init_32 : decode cX4_init 32 = .ok (.putfield 21, 3) := by decide +kernel
theorem dX4_init_35 : decode cX4_init 35 = .ok (.return_, 1) := by decide +kernel
theorem dX4_begin_0 : decode cX4_begin 0 = .ok (.aload_n 0, 1) := by decide +kernel
theorem dX4_begin_1 : decode cX4_begin 1 = .ok (.iconst 0, 1) := by decide +kernel
theorem dX4_begin_2 : decode cX4_begin 2 = .ok (.putfield 24, 3) := by decide +kernel
theorem dX4_begin_5 : decode cX4_begin 5 = .ok (.aload_n 0, 1) := by decide +kernel
theorem dX4_begin_6 : decode cX4_begin 6 = .ok (.iconst 1, 1) := by decide +kernel
theorem dX4_begin_7 : decode cX4_begin 7 = .ok (.iload_n 1, 1) := by decide +kernel
theorem dX4_begin_8 : decode cX4_begin 8 = .ok (.ishl, 1) := by decide +kernel
theorem dX4_begin_9 : decode cX4_begin 9 = .ok (.iconst 1, 1) := by decide +kernel
theorem dX4_begin_10 : decode cX4_begin 10 = .ok (.isub, 1) := by decide +kernel
theorem dX4_begin_11 : decode cX4_begin 11 = .ok (.putfield 28, 3) := by decide +kernel
theorem dX4_begin_14 : decode cX4_begin 14 = .ok (.aload_n 0, 1) := by decide +kernel
theorem dX4_begin_15 : decode cX4_begin 15 = .ok (.iconst 0, 1) := by decide +kernel
theorem dX4_begin_16 : decode cX4_begin 16 = .ok (.putfield 31, 3) := by decide +kernel
theorem dX4_begin_19 : decode cX4_begin 19 = .ok (.iconst 0, 1) := by decide +kernel
theorem dX4_begin_20 : decode cX4_begin 20 = .ok (.istore_n 2, 1) := by decide +kernel
theorem dX4_begin_21 : decode cX4_begin 21 = .ok (.iload_n 2, 1) := by decide +kernel
theorem dX4_begin_22 : decode cX4_begin 22 = .ok (.iconst 4, 1) := by decide +kernel
theorem dX4_begin_23 : decode cX4_begin 23 = .ok (.if_icmp .ge 16, 3) := by decide +kernel
theorem dX4_begin_26 : decode cX4_begin 26 = .ok (.aload_n 0, 1) := by decide +kernel
theorem dX4_begin_27 : decode cX4_begin 27 = .ok (.getfield 9, 3) := by decide +kernel
theorem dX4_begin_30 : decode cX4_begin 30 = .ok (.iload_n 2, 1) := by decide +kernel
theorem dX4_begin_31 : decode cX4_begin 31 = .ok (.iconst 0, 1) := by decide +kernel
theorem dX4_begin_32 : decode cX4_begin 32 = .ok (.iastore, 1) := by decide +kernel
theorem dX4_begin_33 : decode cX4_begin 33 = .ok (.iinc 2 1, 3) := by decide +kernel
theorem dX4_begin_36 : decode cX4_begin 36 = .ok (.goto (-15), 3) := by decide +kernel
theorem dX4_begin_39 : decode cX4_begin 39 = .ok (.return_, 1) := by decide +kernel
theorem dX4_become_0 : decode cX4_become 0 = .ok (.aload_n 0, 1) := by decide +kernel
theorem dX4_become_1 : decode cX4_become 1 = .ok (.aload_n 1, 1) := by decide +kernel
theorem dX4_become_2 : decode cX4_become 2 = .ok (.getfield 24, 3) := by decide +kernel
theorem dX4_become_5 : decode cX4_become 5 = .ok (.putfield 24, 3) := by decide +kernel
theorem dX4_become_8 : decode cX4_become 8 = .ok (.aload_n 0, 1) := by decide +kernel
theorem dX4_become_9 : decode cX4_become 9 = .ok (.aload_n 1, 1) := by decide +kernel
theorem dX4_become_10 : decode cX4_become 10 = .ok (.getfield 34, 3) := by decide +kernel
theorem dX4_become_13 : decode cX4_become 13 = .ok (.putfield 34, 3) := by decide +kernel
theorem dX4_become_16 : decode cX4_become 16 = .ok (.aload_n 0, 1) := by decide +kernel
theorem dX4_become_17 : decode cX4_become 17 = .ok (.aload_n 1, 1) := by decide +kernel
theorem dX4_become_18 : decode cX4_become 18 = .ok (.getfield 28, 3) := by decide +kernel
theorem dX4_become_21 : decode cX4_become 21 = .ok (.putfield 28, 3) := by decide +kernel
theorem dX4_become_24 : decode cX4_become 24 = .ok (.aload_n 0, 1) := by decide +kernel
theorem dX4_become_25 : decode cX4_become 25 = .ok (.aload_n 1, 1) := by decide +kernel
theorem dX4_become_26 : decode cX4_become 26 = .ok (.getfield 31, 3) := by decide +kernel
theorem dX4_become_29 : decode cX4_become 29 = .ok (.putfield 31, 3) := by decide +kernel
theorem dX4_become_32 : decode cX4_become 32 = .ok (.aload_n 1, 1) := by decide +kernel
theorem dX4_become_33 : decode cX4_become 33 = .ok (.getfield 9, 3) := by decide +kernel
theorem dX4_become_36 : decode cX4_become 36 = .ok (.iconst 0, 1) := by decide +kernel
theorem dX4_become_37 : decode cX4_become 37 = .ok (.aload_n 0, 1) := by decide +kernel
theorem dX4_become_38 : decode cX4_become 38 = .ok (.getfield 9, 3) := by decide +kernel
theorem dX4_become_41 : decode cX4_become 41 = .ok (.iconst 0, 1) := by decide +kernel
theorem dX4_become_42 : decode cX4_become 42 = .ok (.iconst 4, 1) := by decide +kernel
theorem dX4_become_43 : decode cX4_become 43 = .ok (.invokestatic 37, 3) := by decide +kernel
theorem dX4_become_46 : decode cX4_become 46 = .ok (.aload_n 1, 1) := by decide +kernel
theorem dX4_become_47 : decode cX4_become 47 = .ok (.getfield 15, 3) := by decide +kernel
theorem dX4_become_50 : decode cX4_become 50 = .ok (.iconst 0, 1) := by decide +kernel
theorem dX4_become_51 : decode cX4_become 51 = .ok (.aload_n 0, 1) := by decide +kernel
theorem dX4_become_52 : decode cX4_become 52 = .ok (.getfield 15, 3) := by decide +kernel
theorem dX4_become_55 : decode cX4_become 55 = .ok (.iconst 0, 1) := by decide +kernel
theorem dX4_become_56 : decode cX4_become 56 = .ok (.bipush 9, 2) := by decide +kernel
theorem dX4_become_58 : decode cX4_become 58 = .ok (.invokestatic 37, 3) := by decide +kernel
theorem dX4_become_61 : decode cX4_become 61 = .ok (.aload_n 1, 1) := by decide +kernel
theorem dX4_become_62 : decode cX4_become 62 = .ok (.getfield 18, 3) := by decide +kernel
theorem dX4_become_65 : decode cX4_become 65 = .ok (.iconst 0, 1) := by decide +kernel
theorem dX4_become_66 : decode cX4_become 66 = .ok (.aload_n 0, 1) := by decide +kernel
theorem dX4_become_67 : decode cX4_become 67 = .ok (.getfield 18, 3) := by decide +kernel
theorem dX4_become_70 : decode cX4_become 70 = .ok (.iconst 0, 1) := by decide +kernel
theorem dX4_become_71 : decode cX4_become 71 = .ok (.bipush 9, 2) := by decide +kernel
theorem dX4_become_73 : decode cX4_become 73 = .ok (.invokestatic 37, 3) := by decide +kernel
theorem dX4_become_76 : decode cX4_become 76 = .ok (.aload_n 1, 1) := by decide +kernel
theorem dX4_become_77 : decode cX4_become 77 = .ok (.getfield 21, 3) := by decide +kernel
theorem dX4_become_80 : decode cX4_become 80 = .ok (.iconst 0, 1) := by decide +kernel
theorem dX4_become_81 : decode cX4_become 81 = .ok (.aload_n 0, 1) := by decide +kernel
theorem dX4_become_82 : decode cX4_become 82 = .ok (.getfield 21, 3) := by decide +kernel
theorem dX4_become_85 : decode cX4_become 85 = .ok (.iconst 0, 1) := by decide +kernel
theorem dX4_become_86 : decode cX4_become 86 = .ok (.bipush 9, 2) := by decide +kernel
theorem dX4_become_88 : decode cX4_become 88 = .ok (.invokestatic 37, 3) := by decide +kernel
theorem dX4_become_91 : decode cX4_become 91 = .ok (.return_, 1) := by decide +kernel
theorem dX4_goBy_0 : decode cX4_goBy 0 = .ok (.aload_n 0, 1) := by decide +kernel
theorem dX4_goBy_1 : decode cX4_goBy 1 = .ok (.dup, 1) := by decide +kernel
theorem dX4_goBy_2 : decode cX4_goBy 2 = .ok (.getfield 24, 3) := by decide +kernel
theorem dX4_goBy_5 : decode cX4_goBy 5 = .ok (.iconst 1, 1) := by decide +kernel
theorem dX4_goBy_6 : decode cX4_goBy 6 = .ok (.iadd, 1) := by decide +kernel
theorem dX4_goBy_7 : decode cX4_goBy 7 = .ok (.putfield 24, 3) := by decide +kernel
theorem dX4_goBy_10 : decode cX4_goBy 10 = .ok (.aload_n 0, 1) := by decide +kernel
theorem dX4_goBy_11 : decode cX4_goBy 11 = .ok (.iconst 0, 1) := by decide +kernel
theorem dX4_goBy_12 : decode cX4_goBy 12 = .ok (.putfield 31, 3) := by decide +kernel
theorem dX4_goBy_15 : decode cX4_goBy 15 = .ok (.return_, 1) := by decide +kernel
set_option maxRecDepth 20000 in
theorem ggX4_addTry_X7_bit : GoodIn wsX4_addTry wsX7_bit := goodIn_r _ [8] (by decide +kernel) (by decide +kernel)
set_option maxRecDepth 20000 in
theorem gX4_addTry_X7_bit_n43 : GoodIn wsX4_addTry (wsX7_bit) := ggX4_addTry_X7_bit
theorem dX4_addTry_0 : decode cX4_addTry 0 = .ok (.aload_n 0, 1) := by decide +kernel
theorem dX4_addTry_1 : decode cX4_addTry 1 = .ok (.getfield 31, 3) := by decide +kernel
theorem dX4_addTry_4 : decode cX4_addTry 4 = .ok (.bipush 9, 2) := by decide +kernel
theorem dX4_addTry_6 : decode cX4_addTry 6 = .ok (.if_icmp .lt 4, 3) := by decide +kernel
theorem dX4_addTry_9 : decode cX4_addTry 9 = .ok (.return_, 1) := by decide +kernel
theorem dX4_addTry_10 : decode cX4_addTry 10 = .ok (.aload_n 0, 1) := by decide +kernel
theorem dX4_addTry_11 : decode cX4_addTry 11 = .ok (.getfield 15, 3) := by decide +kernel
theorem dX4_addTry_14 : decode cX4_addTry 14 = .ok (.aload_n 0, 1) := by decide +kernel
theorem dX4_addTry_15 : decode cX4_addTry 15 = .ok (.getfield 31, 3) := by decide +kernel
theorem dX4_addTry_18 : decode cX4_addTry 18 = .ok (.iload_n 1, 1) := by decide +kernel
theorem dX4_addTry_19 : decode cX4_addTry 19 = .ok (.iastore, 1) := by decide +kernel
theorem dX4_addTry_20 : decode cX4_addTry 20 = .ok (.aload_n 0, 1) := by decide +kernel
theorem dX4_addTry_21 : decode cX4_addTry 21 = .ok (.getfield 18, 3) := by decide +kernel
theorem dX4_addTry_24 : decode cX4_addTry 24 = .ok (.aload_n 0, 1) := by decide +kernel
theorem dX4_addTry_25 : decode cX4_addTry 25 = .ok (.getfield 31, 3) := by decide +kernel
theorem dX4_addTry_28 : decode cX4_addTry 28 = .ok (.iload_n 2, 1) := by decide +kernel
theorem dX4_addTry_29 : decode cX4_addTry 29 = .ok (.iastore, 1) := by decide +kernel
theorem dX4_addTry_30 : decode cX4_addTry 30 = .ok (.aload_n 0, 1) := by decide +kernel
theorem dX4_addTry_31 : decode cX4_addTry 31 = .ok (.getfield 21, 3) := by decide +kernel
theorem dX4_addTry_34 : decode cX4_addTry 34 = .ok (.aload_n 0, 1) := by decide +kernel
theorem dX4_addTry_35 : decode cX4_addTry 35 = .ok (.getfield 31, 3) := by decide +kernel
theorem dX4_addTry_38 : decode cX4_addTry 38 = .ok (.iload_n 3, 1) := by decide +kernel
theorem dX4_addTry_39 : decode cX4_addTry 39 = .ok (.invokestatic 43, 3) := by decide +kernel
theorem dX4_addTry_42 : decode cX4_addTry 42 = .ok (.iastore, 1) := by decide +kernel
theorem dX4_addTry_43 : decode cX4_addTry 43 = .ok (.aload_n 0, 1) := by decide +kernel
theorem dX4_addTry_44 : decode cX4_addTry 44 = .ok (.dup, 1) := by decide +kernel
theorem dX4_addTry_45 : decode cX4_addTry 45 = .ok (.getfield 31, 3) := by decide +kernel
theorem dX4_addTry_48 : decode cX4_addTry 48 = .ok (.iconst 1, 1) := by decide +kernel
theorem dX4_addTry_49 : decode cX4_addTry 49 = .ok (.iadd, 1) := by decide +kernel
theorem dX4_addTry_50 : decode cX4_addTry 50 = .ok (.putfield 31, 3) := by decide +kernel
theorem dX4_addTry_53 : decode cX4_addTry 53 = .ok (.iload_n 3, 1) := by decide +kernel
theorem dX4_addTry_54 : decode cX4_addTry 54 = .ok (.ifCond .eq 22, 3) := by decide +kernel
theorem dX4_addTry_57 : decode cX4_addTry 57 = .ok (.iload_n 2, 1) := by decide +kernel
theorem dX4_addTry_58 : decode cX4_addTry 58 = .ok (.ifCond .lt 18, 3) := by decide +kernel
theorem dX4_addTry_61 : decode cX4_addTry 61 = .ok (.iload_n 2, 1) := by decide +kernel
theorem dX4_addTry_62 : decode cX4_addTry 62 = .ok (.iconst 4, 1) := by decide +kernel
theorem dX4_addTry_63 : decode cX4_addTry 63 = .ok (.if_icmp .ge 13, 3) := by decide +kernel
theorem dX4_addTry_66 : decode cX4_addTry 66 = .ok (.aload_n 0, 1) := by decide +kernel
theorem dX4_addTry_67 : decode cX4_addTry 67 = .ok (.getfield 9, 3) := by decide +kernel
theorem dX4_addTry_70 : decode cX4_addTry 70 = .ok (.iload_n 2, 1) := by decide +kernel
theorem dX4_addTry_71 : decode cX4_addTry 71 = .ok (.dup2, 1) := by decide +kernel
theorem dX4_addTry_72 : decode cX4_addTry 72 = .ok (.iaload, 1) := by decide +kernel
theorem dX4_addTry_73 : decode cX4_addTry 73 = .ok (.iconst 1, 1) := by decide +kernel
theorem dX4_addTry_74 : decode cX4_addTry 74 = .ok (.iadd, 1) := by decide +kernel
theorem dX4_addTry_75 : decode cX4_addTry 75 = .ok (.iastore, 1) := by decide +kernel
theorem dX4_addTry_76 : decode cX4_addTry 76 = .ok (.return_, 1) := by decide +kernel
theorem dX4_tookInAll_0 : decode cX4_tookInAll 0 = .ok (.iconst 0, 1) := by decide +kernel
theorem dX4_tookInAll_1 : decode cX4_tookInAll 1 = .ok (.istore_n 1, 1) := by decide +kernel
theorem dX4_tookInAll_2 : decode cX4_tookInAll 2 = .ok (.iconst 0, 1) := by decide +kernel
theorem dX4_tookInAll_3 : decode cX4_tookInAll 3 = .ok (.istore_n 2, 1) := by decide +kernel
theorem dX4_tookInAll_4 : decode cX4_tookInAll 4 = .ok (.iload_n 2, 1) := by decide +kernel
theorem dX4_tookInAll_5 : decode cX4_tookInAll 5 = .ok (.iconst 4, 1) := by decide +kernel
theorem dX4_tookInAll_6 : decode cX4_tookInAll 6 = .ok (.if_icmp .ge 18, 3) := by decide +kernel
theorem dX4_tookInAll_9 : decode cX4_tookInAll 9 = .ok (.iload_n 1, 1) := by decide +kernel
theorem dX4_tookInAll_10 : decode cX4_tookInAll 10 = .ok (.aload_n 0, 1) := by decide +kernel
theorem dX4_tookInAll_11 : decode cX4_tookInAll 11 = .ok (.getfield 9, 3) := by decide +kernel
theorem dX4_tookInAll_14 : decode cX4_tookInAll 14 = .ok (.iload_n 2, 1) := by decide +kernel
theorem dX4_tookInAll_15 : decode cX4_tookInAll 15 = .ok (.iaload, 1) := by decide +kernel
theorem dX4_tookInAll_16 : decode cX4_tookInAll 16 = .ok (.iadd, 1) := by decide +kernel
theorem dX4_tookInAll_17 : decode cX4_tookInAll 17 = .ok (.istore_n 1, 1) := by decide +kernel
theorem dX4_tookInAll_18 : decode cX4_tookInAll 18 = .ok (.iinc 2 1, 3) := by decide +kernel
theorem dX4_tookInAll_21 : decode cX4_tookInAll 21 = .ok (.goto (-17), 3) := by decide +kernel
theorem dX4_tookInAll_24 : decode cX4_tookInAll 24 = .ok (.iload_n 1, 1) := by decide +kernel
theorem dX4_tookInAll_25 : decode cX4_tookInAll 25 = .ok (.ireturn, 1) := by decide +kernel
theorem dX5_init_0 : decode cX5_init 0 = .ok (.aload_n 0, 1) := by decide +kernel
theorem dX5_init_1 : decode cX5_init 1 = .ok (.invokespecial 3, 3) := by decide +kernel
theorem dX5_init_4 : decode cX5_init 4 = .ok (.aload_n 0, 1) := by decide +kernel
theorem dX5_init_5 : decode cX5_init 5 = .ok (.bipush 40, 2) := by decide +kernel
theorem dX5_init_7 : decode cX5_init 7 = .ok (.newarray .int, 2) := by decide +kernel
theorem dX5_init_9 : decode cX5_init 9 = .ok (.putfield 9, 3) := by decide +kernel
theorem dX5_init_12 : decode cX5_init 12 = .ok (.aload_n 0, 1) := by decide +kernel
theorem dX5_init_13 : decode cX5_init 13 = .ok (.iconst (-1), 1) := by decide +kernel
theorem dX5_init_14 : decode cX5_init 14 = .ok (.putfield 15, 3) := by decide +kernel
theorem dX5_init_17 : decode cX5_init 17 = .ok (.return_, 1) := by decide +kernel
theorem dX5_make_0 : decode cX5_make 0 = .ok (.aload_n 0, 1) := by decide +kernel
theorem dX5_make_1 : decode cX5_make 1 = .ok (.iload_n 1, 1) := by decide +kernel
theorem dX5_make_2 : decode cX5_make 2 = .ok (.putfield 15, 3) := by decide +kernel
theorem dX5_make_5 : decode cX5_make 5 = .ok (.aload_n 0, 1) := by decide +kernel
theorem dX5_make_6 : decode cX5_make 6 = .ok (.iload_n 2, 1) := by decide +kernel
theorem dX5_make_7 : decode cX5_make 7 = .ok (.putfield 19, 3) := by decide +kernel
theorem dX5_make_10 : decode cX5_make 10 = .ok (.iconst 0, 1) := by decide +kernel
theorem dX5_make_11 : decode cX5_make 11 = .ok (.istore_n 3, 1) := by decide +kernel
theorem dX5_make_12 : decode cX5_make 12 = .ok (.iload_n 3, 1) := by decide +kernel
theorem dX5_make_13 : decode cX5_make 13 = .ok (.bipush 40, 2) := by decide +kernel
theorem dX5_make_15 : decode cX5_make 15 = .ok (.if_icmp .ge 16, 3) := by decide +kernel
theorem dX5_make_18 : decode cX5_make 18 = .ok (.aload_n 0, 1) := by decide +kernel
theorem dX5_make_19 : decode cX5_make 19 = .ok (.getfield 9, 3) := by decide +kernel
theorem dX5_make_22 : decode cX5_make 22 = .ok (.iload_n 3, 1) := by decide +kernel
theorem dX5_make_23 : decode cX5_make 23 = .ok (.iconst 0, 1) := by decide +kernel
theorem dX5_make_24 : decode cX5_make 24 = .ok (.iastore, 1) := by decide +kernel
theorem dX5_make_25 : decode cX5_make 25 = .ok (.iinc 3 1, 3) := by decide +kernel
theorem dX5_make_28 : decode cX5_make 28 = .ok (.goto (-16), 3) := by decide +kernel
theorem dX5_make_31 : decode cX5_make 31 = .ok (.return_, 1) := by decide +kernel
theorem dX5_reaches_0 : decode cX5_reaches 0 = .ok (.iload_n 1, 1) := by decide +kernel
theorem dX5_reaches_1 : decode cX5_reaches 1 = .ok (.ifCond .lt 21, 3) := by decide +kernel
theorem dX5_reaches_4 : decode cX5_reaches 4 = .ok (.iload_n 2, 1) := by decide +kernel
theorem dX5_reaches_5 : decode cX5_reaches 5 = .ok (.ifCond .lt 17, 3) := by decide +kernel
theorem dX5_reaches_8 : decode cX5_reaches 8 = .ok (.iload_n 1, 1) := by decide +kernel
theorem dX5_reaches_9 : decode cX5_reaches 9 = .ok (.aload_n 0, 1) := by decide +kernel
theorem dX5_reaches_10 : decode cX5_reaches 10 = .ok (.getfield 19, 3) := by decide +kernel
theorem dX5_reaches_13 : decode cX5_reaches 13 = .ok (.iload_n 2, 1) := by decide +kernel
theorem dX5_reaches_14 : decode cX5_reaches 14 = .ok (.isub, 1) := by decide +kernel
theorem dX5_reaches_15 : decode cX5_reaches 15 = .ok (.if_icmp .gt 7, 3) := by decide +kernel
theorem dX5_reaches_18 : decode cX5_reaches 18 = .ok (.iconst 1, 1) := by decide +kernel
theorem dX5_reaches_19 : decode cX5_reaches 19 = .ok (.goto 4, 3) := by decide +kernel
theorem dX5_reaches_22 : decode cX5_reaches 22 = .ok (.iconst 0, 1) := by decide +kernel
theorem dX5_reaches_23 : decode cX5_reaches 23 = .ok (.ireturn, 1) := by decide +kernel
set_option maxRecDepth 20000 in
theorem ggX5_findingOf_X5_reaches : GoodIn wsX5_findingOf wsX5_reaches := goodIn_r _ [6, 7, 8, 9, 10] (by decide +kernel) (by decide +kernel)
set_option maxRecDepth 20000 in
theorem gX5_findingOf_X5_reaches : GoodIn wsX5_findingOf (wsV RX5 22 RX5 yX5_reaches wsX5_reaches) := goodIn_app (goodIn_of _ (by decide +kernel)) ggX5_findingOf_X5_reaches
theorem dX5_findingOf_0 : decode cX5_findingOf 0 = .ok (.aload_n 0, 1) := by decide +kernel
theorem dX5_findingOf_1 : decode cX5_findingOf 1 = .ok (.getfield 15, 3) := by decide +kernel
theorem dX5_findingOf_4 : decode cX5_findingOf 4 = .ok (.iconst (-1), 1) := by decide +kernel
theorem dX5_findingOf_5 : decode cX5_findingOf 5 = .ok (.if_icmp .ne 5, 3) := by decide +kernel
theorem dX5_findingOf_8 : decode cX5_findingOf 8 = .ok (.iconst 1, 1) := by decide +kernel
theorem dX5_findingOf_9 : decode cX5_findingOf 9 = .ok (.ireturn, 1) := by decide +kernel
theorem dX5_findingOf_10 : decode cX5_findingOf 10 = .ok (.aload_n 0, 1) := by decide +kernel
theorem dX5_findingOf_11 : decode cX5_findingOf 11 = .ok (.iload_n 1, 1) := by decide +kernel
theorem dX5_findingOf_12 : decode cX5_findingOf 12 = .ok (.iload_n 2, 1) := by decide +kernel
theorem dX5_findingOf_13 : decode cX5_findingOf 13 = .ok (.invokevirtual 22, 3) := by decide +kernel
theorem dX5_findingOf_16 : decode cX5_findingOf 16 = .ok (.ifCond .eq 7, 3) := by decide +kernel
theorem dX5_findingOf_19 : decode cX5_findingOf 19 = .ok (.iconst 0, 1) := by decide +kernel
theorem dX5_findingOf_20 : decode cX5_findingOf 20 = .ok (.goto 4, 3) := by decide +kernel
theorem dX5_findingOf_23 : decode cX5_findingOf 23 = .ok (.iconst 2, 1) := by decide +kernel
theorem dX5_findingOf_24 : decode cX5_findingOf 24 = .ok (.ireturn, 1) := by decide +kernel
theorem dX5_put_0 : decode cX5_put 0 = .ok (.aload_n 0, 1) := by decide +kernel
theorem dX5_put_1 : decode cX5_put 1 = .ok (.getfield 9, 3) := by decide +kernel
theorem dX5_put_4 : decode cX5_put 4 = .ok (.iload_n 1, 1) := by decide +kernel
theorem dX5_put_5 : decode cX5_put 5 = .ok (.aload_n 0, 1) := by decide +kernel
theorem dX5_put_6 : decode cX5_put 6 = .ok (.getfield 15, 3) := by decide +kernel
theorem dX5_put_9 : decode cX5_put 9 = .ok (.ifCond .ne 8, 3) := by decide +kernel
theorem dX5_put_12 : decode cX5_put 12 = .ok (.iload_n 2, 1) := by decide +kernel
theorem dX5_put_13 : decode cX5_put 13 = .ok (.i2b, 1) := by decide +kernel
theorem dX5_put_14 : decode cX5_put 14 = .ok (.goto 17, 3) := by decide +kernel
theorem dX5_put_17 : decode cX5_put 17 = .ok (.aload_n 0, 1) := by decide +kernel
theorem dX5_put_18 : decode cX5_put 18 = .ok (.getfield 15, 3) := by decide +kernel
theorem dX5_put_21 : decode cX5_put 21 = .ok (.iconst 1, 1) := by decide +kernel
theorem dX5_put_22 : decode cX5_put 22 = .ok (.if_icmp .ne 8, 3) := by decide +kernel
theorem dX5_put_25 : decode cX5_put 25 = .ok (.iload_n 2, 1) := by decide +kernel
theorem dX5_put_26 : decode cX5_put 26 = .ok (.i2s, 1) := by decide +kernel
theorem dX5_put_27 : decode cX5_put 27 = .ok (.goto 4, 3) := by decide +kernel
theorem dX5_put_30 : decode cX5_put 30 = .ok (.iload_n 2, 1) := by decide +kernel
theorem dX5_put_31 : decode cX5_put 31 = .ok (.iastore, 1) := by decide +kernel
theorem dX5_put_32 : decode cX5_put 32 = .ok (.aload_n 0, 1) := by decide +kernel
theorem dX5_put_33 : decode cX5_put 33 = .ok (.getfield 9, 3) := by decide +kernel
theorem dX5_put_36 : decode cX5_put 36 = .ok (.iload_n 1, 1) := by decide +kernel
theorem dX5_put_37 : decode cX5_put 37 = .ok (.iaload, 1) := by decide +kernel
theorem dX5_put_38 : decode cX5_put 38 = .ok (.ireturn, 1) := by decide +kernel
set_option maxRecDepth 20000 in
theorem ggX6_init_X2_init : GoodIn wsX6_init wsX2_init := goodIn_r _ [11, 12, 2, 3, 4, 13, 14, 15, 16, 17, 18, 19, 20, 21, 22, 23, 24, 25, 26, 34, 35, 36, 37, 38, 39, 40, 41, 42, 43, 44, 45, 46, 47, 48, 49] (by decide +kernel) (by decide +kernel)
set_option maxRecDepth 20000 in
theorem gX6_init_X2_init_n17 : GoodIn wsX6_init (wsX2_init) := ggX6_init_X2_init
theorem dX6_init_0 : decode cX6_init 0 = .ok (.aload_n 0, 1) := by decide +kernel
theorem dX6_init_1 : decode cX6_init 1 = .ok (.invokespecial 3, 3) := by decide +kernel
theorem dX6_init_4 : decode cX6_init 4 = .ok (.aload_n 0, 1) := by decide +kernel
theorem dX6_init_5 : decode cX6_init 5 = .ok (.bipush 100, 2) := by decide +kernel
theorem dX6_init_7 : decode cX6_init 7 = .ok (.newarray .int, 2) := by decide +kernel
theorem dX6_init_9 : decode cX6_init 9 = .ok (.putfield 9, 3) := by decide +kernel
theorem dX6_init_12 : decode cX6_init 12 = .ok (.aload_n 0, 1) := by decide +kernel
theorem dX6_init_13 : decode cX6_init 13 = .ok (.new 15, 3) := by decide +kernel
theorem dX6_init_16 : decode cX6_init 16 = .ok (.dup, 1) := by decide +kernel
theorem dX6_init_17 : decode cX6_init 17 = .ok (.invokespecial 17, 3) := by decide +kernel
theorem dX6_init_20 : decode cX6_init 20 = .ok (.putfield 18, 3) := by decide +kernel
theorem dX6_init_23 : decode cX6_init 23 = .ok (.return_, 1) := by decide +kernel
theorem dX6_append_0 : decode cX6_append 0 = .ok (.aload_n 0, 1) := by decide +kernel
theorem dX6_append_1 : decode cX6_append 1 = .ok (.getfield 22, 3) := by decide +kernel
theorem dX6_append_4 : decode cX6_append 4 = .ok (.bipush 100, 2) := by decide +kernel
theorem dX6_append_6 : decode cX6_append 6 = .ok (.if_icmp .lt 5, 3) := by decide +kernel
theorem dX6_append_9 : decode cX6_append 9 = .ok (.iconst 0, 1) := by decide +kernel
theorem dX6_append_10 : decode cX6_append 10 = .ok (.ireturn, 1) := by decide +kernel
theorem dX6_append_11 : decode cX6_append 11 = .ok (.aload_n 0, 1) := by decide +kernel
theorem dX6_append_12 : decode cX6_append 12 = .ok (.getfield 9, 3) := by decide +kernel
theorem dX6_append_15 : decode cX6_append 15 = .ok (.aload_n 0, 1) := by decide +kernel
theorem dX6_append_16 : decode cX6_append 16 = .ok (.getfield 22, 3) := by decide +kernel
theorem dX6_append_19 : decode cX6_append 19 = .ok (.iload_n 1, 1) := by decide +kernel
theorem dX6_append_20 : decode cX6_append 20 = .ok (.iastore, 1) := by decide +kernel
theorem dX6_append_21 : decode cX6_append 21 = .ok (.aload_n 0, 1) := by decide +kernel
theorem dX6_append_22 : decode cX6_append 22 = .ok (.dup, 1) := by decide +kernel
theorem dX6_append_23 : decode cX6_append 23 = .ok (.getfield 22, 3) := by decide +kernel
theorem dX6_append_26 : decode cX6_append 26 = .ok (.iconst 1, 1) := by decide +kernel
theorem dX6_append_27 : decode cX6_append 27 = .ok (.iadd, 1) := by decide +kernel
theorem dX6_append_28 : decode cX6_append 28 = .ok (.putfield 22, 3) := by decide +kernel
theorem dX6_append_31 : decode cX6_append 31 = .ok (.iconst 1, 1) := by decide +kernel
theorem dX6_append_32 : decode cX6_append 32 = .ok (.ireturn, 1) := by decide +kernel
set_option maxRecDepth 20000 in
theorem ggX6_read_X6_readLaw : GoodIn wsX6_read wsX6_readLaw := goodIn_r _ [10, 2, 5, 11, 12, 13, 14, 15, 16, 17, 9, 18, 1, 19, 20, 21, 22, 23, 24, 25, 26, 27, 28, 29, 30, 31, 32, 33, 34, 35, 36, 37, 72, 73, 74, 75, 76, 77, 78, 79, 80, 81, 82, 83, 84, 85, 86, 87, 88, 89, 90, 91, 92, 93, 94] (by decide +kernel) (by decide +kernel)
set_option maxRecDepth 20000 in
theorem gX6_read_X6_readLaw : GoodIn wsX6_read (wsV RX6 35 RX6 yX6_readLaw wsX6_readLaw) := goodIn_app (goodIn_of _ (by decide +kernel)) ggX6_read_X6_readLaw
set_option maxRecDepth 20000 in
theorem ggX6_read_X6_readWord : GoodIn wsX6_read wsX6_readWord := goodIn_r _ [41, 2, 3, 42, 1, 19, 20, 21, 9, 22, 23, 24, 25, 26, 27, 28, 29, 30, 15, 16, 17, 18, 43, 44, 45, 46, 47, 48, 49, 50, 51, 52, 72, 73, 74, 75, 76, 77, 78, 79, 80, 81, 82, 83, 84, 85, 86] (by decide +kernel) (by decide +kernel)
set_option maxRecDepth 20000 in
theorem gX6_read_X6_readWord : GoodIn wsX6_read (wsV RX6 39 RX6 yX6_readWord wsX6_readWord) := goodIn_app (goodIn_of _ (by decide +kernel)) ggX6_read_X6_readWord
set_option maxRecDepth 20000 in
theorem ggX6_read_X6_here : GoodIn wsX6_read wsX6_here := goodIn_r _ [22, 1, 23, 24, 72, 73, 74, 75, 76, 77, 78] (by decide +kernel) (by decide +kernel)
set_option maxRecDepth 20000 in
theorem gX6_read_X6_here : GoodIn wsX6_read (wsV RX6 42 RX6 yX6_here wsX6_here) := goodIn_app (goodIn_of _ (by decide +kernel)) ggX6_read_X6_here
set_option maxRecDepth 20000 in
theorem ggX6_read_X6_readGuard : GoodIn wsX6_read wsX6_readGuard := goodIn_r _ [56, 57, 2, 4, 1, 58, 59, 11, 19, 20, 21, 9, 22, 23, 24, 60, 61, 62, 25, 26, 27, 28, 29, 30, 31, 32, 33, 34, 35, 36, 37, 15, 16, 17, 18, 72, 73, 74, 75, 76, 77, 78, 79, 80, 81, 82, 83, 84, 85, 86] (by decide +kernel) (by decide +kernel)
set_option maxRecDepth 20000 in
theorem gX6_read_X6_readGuard : GoodIn wsX6_read (wsV RX6 46 RX6 yX6_readGuard wsX6_readGuard) := goodIn_app (goodIn_of _ (by decide +kernel)) ggX6_read_X6_readGuard
set_option maxRecDepth 20000 in
theorem ggX6_read_X4_begin : GoodIn wsX6_read wsX4_begin := goodIn_r _ [67, 68, 69, 70, 71, 87, 88, 89, 90, 91, 92, 93, 94] (by decide +kernel) (by decide +kernel)
set_option maxRecDepth 20000 in
theorem gX6_read_X4_begin : GoodIn wsX6_read (wsV RX6 53 RX4 yX4_begin wsX4_begin) := goodIn_app (goodIn_of _ (by decide +kernel)) ggX6_read_X4_begin
theorem dX6_read_0 : decode cX6_read 0 = .ok (.aload_n 0, 1) := by decide +kernel
theorem dX6_read_1 : decode cX6_read 1 = .ok (.iconst 0, 1) := by decide +kernel
theorem dX6_read_2 : decode cX6_read 2 = .ok (.putfield 26, 3) := by decide +kernel
theorem dX6_read_5 : decode cX6_read 5 = .ok (.aload_n 0, 1) := by decide +kernel
theorem dX6_read_6 : decode cX6_read 6 = .ok (.getfield 18, 3) := by decide +kernel
theorem dX6_read_9 : decode cX6_read 9 = .ok (.iconst 0, 1) := by decide +kernel
theorem dX6_read_10 : decode cX6_read 10 = .ok (.putfield 29, 3) := by decide +kernel
theorem dX6_read_13 : decode cX6_read 13 = .ok (.aload_n 0, 1) := by decide +kernel
theorem dX6_read_14 : decode cX6_read 14 = .ok (.getfield 18, 3) := by decide +kernel
theorem dX6_read_17 : decode cX6_read 17 = .ok (.iconst 0, 1) := by decide +kernel
theorem dX6_read_18 : decode cX6_read 18 = .ok (.putfield 32, 3) := by decide +kernel
theorem dX6_read_21 : decode cX6_read 21 = .ok (.aload_n 0, 1) := by decide +kernel
theorem dX6_read_22 : decode cX6_read 22 = .ok (.invokevirtual 35, 3) := by decide +kernel
theorem dX6_read_25 : decode cX6_read 25 = .ok (.ifCond .eq 10, 3) := by decide +kernel
theorem dX6_read_28 : decode cX6_read 28 = .ok (.aload_n 0, 1) := by decide +kernel
theorem dX6_read_29 : decode cX6_read 29 = .ok (.invokevirtual 39, 3) := by decide +kernel
theorem dX6_read_32 : decode cX6_read 32 = .ok (.ifCond .ne 5, 3) := by decide +kernel
theorem dX6_read_35 : decode cX6_read 35 = .ok (.iconst 0, 1) := by decide +kernel
theorem dX6_read_36 : decode cX6_read 36 = .ok (.ireturn, 1) := by decide +kernel
theorem dX6_read_37 : decode cX6_read 37 = .ok (.iconst 0, 1) := by decide +kernel
theorem dX6_read_38 : decode cX6_read 38 = .ok (.istore_n 1, 1) := by decide +kernel
theorem dX6_read_39 : decode cX6_read 39 = .ok (.iload_n 1, 1) := by decide +kernel
theorem dX6_read_40 : decode cX6_read 40 = .ok (.bipush 6, 2) := by decide +kernel
theorem dX6_read_42 : decode cX6_read 42 = .ok (.if_icmp .ge 27, 3) := by decide +kernel
theorem dX6_read_45 : decode cX6_read 45 = .ok (.aload_n 0, 1) := by decide +kernel
theorem dX6_read_46 : decode cX6_read 46 = .ok (.invokevirtual 42, 3) := by decide +kernel
theorem dX6_read_49 : decode cX6_read 49 = .ok (.bipush 119, 2) := by decide +kernel
theorem dX6_read_51 : decode cX6_read 51 = .ok (.if_icmp .ne 18, 3) := by decide +kernel
theorem dX6_read_54 : decode cX6_read 54 = .ok (.aload_n 0, 1) := by decide +kernel
theorem dX6_read_55 : decode cX6_read 55 = .ok (.invokevirtual 39, 3) := by decide +kernel
theorem dX6_read_58 : decode cX6_read 58 = .ok (.ifCond .ne 5, 3) := by decide +kernel
theorem dX6_read_61 : decode cX6_read 61 = .ok (.iconst 0, 1) := by decide +kernel
theorem dX6_read_62 : decode cX6_read 62 = .ok (.ireturn, 1) := by decide +kernel
theorem dX6_read_63 : decode cX6_read 63 = .ok (.iinc 1 1, 3) := by decide +kernel
theorem dX6_read_66 : decode cX6_read 66 = .ok (.goto (-27), 3) := by decide +kernel
theorem dX6_read_69 : decode cX6_read 69 = .ok (.aload_n 0, 1) := by decide +kernel
theorem dX6_read_70 : decode cX6_read 70 = .ok (.invokevirtual 46, 3) := by decide +kernel
theorem dX6_read_73 : decode cX6_read 73 = .ok (.ifCond .ne 5, 3) := by decide +kernel
theorem dX6_read_76 : decode cX6_read 76 = .ok (.iconst 0, 1) := by decide +kernel
theorem dX6_read_77 : decode cX6_read 77 = .ok (.ireturn, 1) := by decide +kernel
theorem dX6_read_78 : decode cX6_read 78 = .ok (.iconst 0, 1) := by decide +kernel
theorem dX6_read_79 : decode cX6_read 79 = .ok (.istore_n 1, 1) := by decide +kernel
theorem dX6_read_80 : decode cX6_read 80 = .ok (.iload_n 1, 1) := by decide +kernel
theorem dX6_read_81 : decode cX6_read 81 = .ok (.iconst 4, 1) := by decide +kernel
theorem dX6_read_82 : decode cX6_read 82 = .ok (.if_icmp .ge 26, 3) := by decide +kernel
theorem dX6_read_85 : decode cX6_read 85 = .ok (.aload_n 0, 1) := by decide +kernel
theorem dX6_read_86 : decode cX6_read 86 = .ok (.invokevirtual 42, 3) := by decide +kernel
theorem dX6_read_89 : decode cX6_read 89 = .ok (.iconst (-1), 1) := by decide +kernel
theorem dX6_read_90 : decode cX6_read 90 = .ok (.if_icmp .eq 18, 3) := by decide +kernel
theorem dX6_read_93 : decode cX6_read 93 = .ok (.aload_n 0, 1) := by decide +kernel
theorem dX6_read_94 : decode cX6_read 94 = .ok (.invokevirtual 46, 3) := by decide +kernel
theorem dX6_read_97 : decode cX6_read 97 = .ok (.ifCond .ne 5, 3) := by decide +kernel
theorem dX6_read_100 : decode cX6_read 100 = .ok (.iconst 0, 1) := by decide +kernel
theorem dX6_read_101 : decode cX6_read 101 = .ok (.ireturn, 1) := by decide +kernel
theorem dX6_read_102 : decode cX6_read 102 = .ok (.iinc 1 1, 3) := by decide +kernel
theorem dX6_read_105 : decode cX6_read 105 = .ok (.goto (-25), 3) := by decide +kernel
theorem dX6_read_108 : decode cX6_read 108 = .ok (.aload_n 0, 1) := by decide +kernel
theorem dX6_read_109 : decode cX6_read 109 = .ok (.getfield 18, 3) := by decide +kernel
theorem dX6_read_112 : decode cX6_read 112 = .ok (.getfield 49, 3) := by decide +kernel
theorem dX6_read_115 : decode cX6_read 115 = .ok (.aload_n 0, 1) := by decide +kernel
theorem dX6_read_116 : decode cX6_read 116 = .ok (.getfield 18, 3) := by decide +kernel
theorem dX6_read_119 : decode cX6_read 119 = .ok (.getfield 32, 3) := by decide +kernel
theorem dX6_read_122 : decode cX6_read 122 = .ok (.invokevirtual 53, 3) := by decide +kernel
theorem dX6_read_125 : decode cX6_read 125 = .ok (.iconst 1, 1) := by decide +kernel
theorem dX6_read_126 : decode cX6_read 126 = .ok (.ireturn, 1) := by decide +kernel
set_option maxRecDepth 20000 in
theorem ggX6_readLaw_X6_readSign : GoodIn wsX6_readLaw wsX6_readSign := goodIn_r _ [11, 12, 13, 14, 15, 10, 16, 17, 18, 19, 20, 21, 22, 23, 24, 32, 33, 34, 35, 36, 37, 38] (by decide +kernel) (by decide +kernel)
set_option maxRecDepth 20000 in
theorem gX6_readLaw_X6_readSign : GoodIn wsX6_readLaw (wsV RX6 59 RX6 yX6_readSign wsX6_readSign) := goodIn_app (goodIn_of _ (by decide +kernel)) ggX6_readLaw_X6_readSign
set_option maxRecDepth 20000 in
theorem ggX6_readLaw_X6_readNumber : GoodIn wsX6_readLaw wsX6_readNumber := goodIn_r _ [28, 3, 12, 17, 18, 29, 30, 10, 31, 19, 20, 21, 22, 23, 24, 32, 33, 34, 35, 36, 37, 38] (by decide +kernel) (by decide +kernel)
set_option maxRecDepth 20000 in
theorem gX6_readLaw_X6_readNumber : GoodIn wsX6_readLaw (wsV RX6 63 RX6 yX6_readNumber wsX6_readNumber) := goodIn_app (goodIn_of _ (by decide +kernel)) ggX6_readLaw_X6_readNumber
theorem dX6_readLaw_0 : decode cX6_readLaw 0 = .ok (.aload_n 0, 1) := by decide +kernel
theorem dX6_readLaw_1 : decode cX6_readLaw 1 = .ok (.bipush 113, 2) := by decide +kernel
theorem dX6_readLaw_3 : decode cX6_readLaw 3 = .ok (.invokevirtual 59, 3) := by decide +kernel
theorem dX6_readLaw_6 : decode cX6_readLaw 6 = .ok (.ifCond .eq 12, 3) := by decide +kernel
theorem dX6_readLaw_9 : decode cX6_readLaw 9 = .ok (.aload_n 0, 1) := by decide +kernel
theorem dX6_readLaw_10 : decode cX6_readLaw 10 = .ok (.bipush 9, 2) := by decide +kernel
theorem dX6_readLaw_12 : decode cX6_readLaw 12 = .ok (.invokevirtual 63, 3) := by decide +kernel
theorem dX6_readLaw_15 : decode cX6_readLaw 15 = .ok (.ifCond .ne 5, 3) := by decide +kernel
theorem dX6_readLaw_18 : decode cX6_readLaw 18 = .ok (.iconst 0, 1) := by decide +kernel
theorem dX6_readLaw_19 : decode cX6_readLaw 19 = .ok (.ireturn, 1) := by decide +kernel
theorem dX6_readLaw_20 : decode cX6_readLaw 20 = .ok (.aload_n 0, 1) := by decide +kernel
theorem dX6_readLaw_21 : decode cX6_readLaw 21 = .ok (.getfield 18, 3) := by decide +kernel
theorem dX6_readLaw_24 : decode cX6_readLaw 24 = .ok (.getfield 49, 3) := by decide +kernel
theorem dX6_readLaw_27 : decode cX6_readLaw 27 = .ok (.aload_n 0, 1) := by decide +kernel
theorem dX6_readLaw_28 : decode cX6_readLaw 28 = .ok (.getfield 66, 3) := by decide +kernel
theorem dX6_readLaw_31 : decode cX6_readLaw 31 = .ok (.putfield 69, 3) := by decide +kernel
theorem dX6_readLaw_34 : decode cX6_readLaw 34 = .ok (.aload_n 0, 1) := by decide +kernel
theorem dX6_readLaw_35 : decode cX6_readLaw 35 = .ok (.bipush 44, 2) := by decide +kernel
theorem dX6_readLaw_37 : decode cX6_readLaw 37 = .ok (.invokevirtual 59, 3) := by decide +kernel
theorem dX6_readLaw_40 : decode cX6_readLaw 40 = .ok (.ifCond .eq 12, 3) := by decide +kernel
theorem dX6_readLaw_43 : decode cX6_readLaw 43 = .ok (.aload_n 0, 1) := by decide +kernel
theorem dX6_readLaw_44 : decode cX6_readLaw 44 = .ok (.bipush 9, 2) := by decide +kernel
theorem dX6_readLaw_46 : decode cX6_readLaw 46 = .ok (.invokevirtual 63, 3) := by decide +kernel
theorem dX6_readLaw_49 : decode cX6_readLaw 49 = .ok (.ifCond .ne 5, 3) := by decide +kernel
theorem dX6_readLaw_52 : decode cX6_readLaw 52 = .ok (.iconst 0, 1) := by decide +kernel
theorem dX6_readLaw_53 : decode cX6_readLaw 53 = .ok (.ireturn, 1) := by decide +kernel
theorem dX6_readLaw_54 : decode cX6_readLaw 54 = .ok (.aload_n 0, 1) := by decide +kernel
theorem dX6_readLaw_55 : decode cX6_readLaw 55 = .ok (.getfield 18, 3) := by decide +kernel
theorem dX6_readLaw_58 : decode cX6_readLaw 58 = .ok (.aload_n 0, 1) := by decide +kernel
theorem dX6_readLaw_59 : decode cX6_readLaw 59 = .ok (.getfield 66, 3) := by decide +kernel
theorem dX6_readLaw_62 : decode cX6_readLaw 62 = .ok (.putfield 72, 3) := by decide +kernel
theorem dX6_readLaw_65 : decode cX6_readLaw 65 = .ok (.aload_n 0, 1) := by decide +kernel
theorem dX6_readLaw_66 : decode cX6_readLaw 66 = .ok (.bipush 44, 2) := by decide +kernel
theorem dX6_readLaw_68 : decode cX6_readLaw 68 = .ok (.invokevirtual 59, 3) := by decide +kernel
theorem dX6_readLaw_71 : decode cX6_readLaw 71 = .ok (.ifCond .eq 12, 3) := by decide +kernel
theorem dX6_readLaw_74 : decode cX6_readLaw 74 = .ok (.aload_n 0, 1) := by decide +kernel
theorem dX6_readLaw_75 : decode cX6_readLaw 75 = .ok (.bipush 6, 2) := by decide +kernel
theorem dX6_readLaw_77 : decode cX6_readLaw 77 = .ok (.invokevirtual 63, 3) := by decide +kernel
theorem dX6_readLaw_80 : decode cX6_readLaw 80 = .ok (.ifCond .ne 5, 3) := by decide +kernel
theorem dX6_readLaw_83 : decode cX6_readLaw 83 = .ok (.iconst 0, 1) := by decide +kernel
theorem dX6_readLaw_84 : decode cX6_readLaw 84 = .ok (.ireturn, 1) := by decide +kernel
theorem dX6_readLaw_85 : decode cX6_readLaw 85 = .ok (.aload_n 0, 1) := by decide +kernel
theorem dX6_readLaw_86 : decode cX6_readLaw 86 = .ok (.getfield 18, 3) := by decide +kernel
theorem dX6_readLaw_89 : decode cX6_readLaw 89 = .ok (.aload_n 0, 1) := by decide +kernel
theorem dX6_readLaw_90 : decode cX6_readLaw 90 = .ok (.getfield 66, 3) := by decide +kernel
theorem dX6_readLaw_93 : decode cX6_readLaw 93 = .ok (.putfield 75, 3) := by decide +kernel
theorem dX6_readLaw_96 : decode cX6_readLaw 96 = .ok (.aload_n 0, 1) := by decide +kernel
theorem dX6_readLaw_97 : decode cX6_readLaw 97 = .ok (.bipush 59, 2) := by decide +kernel
theorem dX6_readLaw_99 : decode cX6_readLaw 99 = .ok (.invokevirtual 59, 3) := by decide +kernel
theorem dX6_readLaw_102 : decode cX6_readLaw 102 = .ok (.ireturn, 1) := by decide +kernel
set_option maxRecDepth 20000 in
theorem ggX6_readWord_X6_here : GoodIn wsX6_readWord wsX6_here := goodIn_r _ [9, 4, 10, 11, 32, 33, 34, 35, 36, 37, 38] (by decide +kernel) (by decide +kernel)
set_option maxRecDepth 20000 in
theorem gX6_readWord_X6_here : GoodIn wsX6_readWord (wsV RX6 42 RX6 yX6_here wsX6_here) := goodIn_app (goodIn_of _ (by decide +kernel)) ggX6_readWord_X6_here
set_option maxRecDepth 20000 in
theorem ggX6_readWord_X6_faulty : GoodIn wsX6_readWord wsX6_faulty := goodIn_r _ [15, 16, 4, 17, 32, 33, 34, 35, 36, 37, 38] (by decide +kernel) (by decide +kernel)
set_option maxRecDepth 20000 in
theorem gX6_readWord_X6_faulty : GoodIn wsX6_readWord (wsV RX6 78 RX6 yX6_faulty wsX6_faulty) := goodIn_app (goodIn_of _ (by decide +kernel)) ggX6_readWord_X6_faulty
set_option maxRecDepth 20000 in
theorem ggX6_readWord_X6_readSign : GoodIn wsX6_readWord wsX6_readSign := goodIn_r _ [21, 4, 5, 6, 7, 8, 9, 10, 11, 12, 13, 14, 15, 16, 17, 32, 33, 34, 35, 36, 37, 38] (by decide +kernel) (by decide +kernel)
set_option maxRecDepth 20000 in
theorem gX6_readWord_X6_readSign : GoodIn wsX6_readWord (wsV RX6 59 RX6 yX6_readSign wsX6_readSign) := goodIn_app (goodIn_of _ (by decide +kernel)) ggX6_readWord_X6_readSign
set_option maxRecDepth 20000 in
theorem ggX6_readWord_X6_wasTold : GoodIn wsX6_readWord wsX6_wasTold := goodIn_r _ [25, 1, 26, 27, 28, 29, 30, 31, 32, 33, 34, 35, 36, 37, 38, 39, 40, 41, 42, 43, 44, 45, 46] (by decide +kernel) (by decide +kernel)
set_option maxRecDepth 20000 in
theorem gX6_readWord_X6_wasTold : GoodIn wsX6_readWord (wsV RX6 84 RX6 yX6_wasTold wsX6_wasTold) := goodIn_app (goodIn_of _ (by decide +kernel)) ggX6_readWord_X6_wasTold
theorem dX6_readWord_0 : decode cX6_readWord 0 = .ok (.aload_n 0, 1) := by decide +kernel
theorem dX6_readWord_1 : decode cX6_readWord 1 = .ok (.invokevirtual 42, 3) := by decide +kernel
theorem dX6_readWord_4 : decode cX6_readWord 4 = .ok (.bipush 119, 2) := by decide +kernel
theorem dX6_readWord_6 : decode cX6_readWord 6 = .ok (.if_icmp .ne 21, 3) := by decide +kernel
theorem dX6_readWord_9 : decode cX6_readWord 9 = .ok (.aload_n 0, 1) := by decide +kernel
theorem dX6_readWord_10 : decode cX6_readWord 10 = .ok (.getfield 18, 3) := by decide +kernel
theorem dX6_readWord_13 : decode cX6_readWord 13 = .ok (.getfield 29, 3) := by decide +kernel
theorem dX6_readWord_16 : decode cX6_readWord 16 = .ok (.bipush 6, 2) := by decide +kernel
theorem dX6_readWord_18 : decode cX6_readWord 18 = .ok (.if_icmp .lt 9, 3) := by decide +kernel
theorem dX6_readWord_21 : decode cX6_readWord 21 = .ok (.aload_n 0, 1) := by decide +kernel
theorem dX6_readWord_22 : decode cX6_readWord 22 = .ok (.iconst 3, 1) := by decide +kernel
theorem dX6_readWord_23 : decode cX6_readWord 23 = .ok (.invokevirtual 78, 3) := by decide +kernel
theorem dX6_readWord_26 : decode cX6_readWord 26 = .ok (.ireturn, 1) := by decide +kernel
theorem dX6_readWord_27 : decode cX6_readWord 27 = .ok (.aload_n 0, 1) := by decide +kernel
theorem dX6_readWord_28 : decode cX6_readWord 28 = .ok (.bipush 119, 2) := by decide +kernel
theorem dX6_readWord_30 : decode cX6_readWord 30 = .ok (.invokevirtual 59, 3) := by decide +kernel
theorem dX6_readWord_33 : decode cX6_readWord 33 = .ok (.ifCond .ne 5, 3) := by decide +kernel
theorem dX6_readWord_36 : decode cX6_readWord 36 = .ok (.iconst 0, 1) := by decide +kernel
theorem dX6_readWord_37 : decode cX6_readWord 37 = .ok (.ireturn, 1) := by decide +kernel
theorem dX6_readWord_38 : decode cX6_readWord 38 = .ok (.iconst 0, 1) := by decide +kernel
theorem dX6_readWord_39 : decode cX6_readWord 39 = .ok (.istore_n 1, 1) := by decide +kernel
theorem dX6_readWord_40 : decode cX6_readWord 40 = .ok (.iload_n 1, 1) := by decide +kernel
theorem dX6_readWord_41 : decode cX6_readWord 41 = .ok (.iconst 3, 1) := by decide +kernel
theorem dX6_readWord_42 : decode cX6_readWord 42 = .ok (.if_icmp .ge 88, 3) := by decide +kernel
theorem dX6_readWord_45 : decode cX6_readWord 45 = .ok (.aload_n 0, 1) := by decide +kernel
theorem dX6_readWord_46 : decode cX6_readWord 46 = .ok (.invokevirtual 42, 3) := by decide +kernel
theorem dX6_readWord_49 : decode cX6_readWord 49 = .ok (.bipush 97, 2) := by decide +kernel
theorem dX6_readWord_51 : decode cX6_readWord 51 = .ok (.isub, 1) := by decide +kernel
theorem dX6_readWord_52 : decode cX6_readWord 52 = .ok (.istore_n 2, 1) := by decide +kernel
theorem dX6_readWord_53 : decode cX6_readWord 53 = .ok (.iload_n 2, 1) := by decide +kernel
theorem dX6_readWord_54 : decode cX6_readWord 54 = .ok (.ifCond .lt 9, 3) := by decide +kernel
theorem dX6_readWord_57 : decode cX6_readWord 57 = .ok (.iload_n 2, 1) := by decide +kernel
theorem dX6_readWord_58 : decode cX6_readWord 58 = .ok (.bipush 25, 2) := by decide +kernel
theorem dX6_readWord_60 : decode cX6_readWord 60 = .ok (.if_icmp .le 9, 3) := by decide +kernel
theorem dX6_readWord_63 : decode cX6_readWord 63 = .ok (.aload_n 0, 1) := by decide +kernel
theorem dX6_readWord_64 : decode cX6_readWord 64 = .ok (.iconst 1, 1) := by decide +kernel
theorem dX6_readWord_65 : decode cX6_readWord 65 = .ok (.invokevirtual 78, 3) := by decide +kernel
theorem dX6_readWord_68 : decode cX6_readWord 68 = .ok (.ireturn, 1) := by decide +kernel
theorem dX6_readWord_69 : decode cX6_readWord 69 = .ok (.aload_n 0, 1) := by decide +kernel
theorem dX6_readWord_70 : decode cX6_readWord 70 = .ok (.getfield 18, 3) := by decide +kernel
theorem dX6_readWord_73 : decode cX6_readWord 73 = .ok (.getfield 81, 3) := by decide +kernel
theorem dX6_readWord_76 : decode cX6_readWord 76 = .ok (.aload_n 0, 1) := by decide +kernel
theorem dX6_readWord_77 : decode cX6_readWord 77 = .ok (.getfield 18, 3) := by decide +kernel
theorem dX6_readWord_80 : decode cX6_readWord 80 = .ok (.getfield 29, 3) := by decide +kernel
theorem dX6_readWord_83 : decode cX6_readWord 83 = .ok (.iconst 3, 1) := by decide +kernel
theorem dX6_readWord_84 : decode cX6_readWord 84 = .ok (.imul, 1) := by decide +kernel
theorem dX6_readWord_85 : decode cX6_readWord 85 = .ok (.iload_n 1, 1) := by decide +kernel
theorem dX6_readWord_86 : decode cX6_readWord 86 = .ok (.iadd, 1) := by decide +kernel
theorem dX6_readWord_87 : decode cX6_readWord 87 = .ok (.iload_n 2, 1) := by decide +kernel
theorem dX6_readWord_88 : decode cX6_readWord 88 = .ok (.iastore, 1) := by decide +kernel
theorem dX6_readWord_89 : decode cX6_readWord 89 = .ok (.iload_n 1, 1) := by decide +kernel
theorem dX6_readWord_90 : decode cX6_readWord 90 = .ok (.iconst 2, 1) := by decide +kernel
theorem dX6_readWord_91 : decode cX6_readWord 91 = .ok (.if_icmp .ne 23, 3) := by decide +kernel
theorem dX6_readWord_94 : decode cX6_readWord 94 = .ok (.aload_n 0, 1) := by decide +kernel
theorem dX6_readWord_95 : decode cX6_readWord 95 = .ok (.aload_n 0, 1) := by decide +kernel
theorem dX6_readWord_96 : decode cX6_readWord 96 = .ok (.getfield 18, 3) := by decide +kernel
theorem dX6_readWord_99 : decode cX6_readWord 99 = .ok (.getfield 29, 3) := by decide +kernel
theorem dX6_readWord_102 : decode cX6_readWord 102 = .ok (.invokevirtual 84, 3) := by decide +kernel
theorem dX6_readWord_105 : decode cX6_readWord 105 = .ok (.ifCond .eq 9, 3) := by decide +kernel
theorem dX6_readWord_108 : decode cX6_readWord 108 = .ok (.aload_n 0, 1) := by decide +kernel
theorem dX6_readWord_109 : decode cX6_readWord 109 = .ok (.iconst 2, 1) := by decide +kernel
theorem dX6_readWord_110 : decode cX6_readWord 110 = .ok (.invokevirtual 78, 3) := by decide +kernel
theorem dX6_readWord_113 : decode cX6_readWord 113 = .ok (.ireturn, 1) := by decide +kernel
theorem dX6_readWord_114 : decode cX6_readWord 114 = .ok (.aload_n 0, 1) := by decide +kernel
theorem dX6_readWord_115 : decode cX6_readWord 115 = .ok (.dup, 1) := by decide +kernel
theorem dX6_readWord_116 : decode cX6_readWord 116 = .ok (.getfield 26, 3) := by decide +kernel
theorem dX6_readWord_119 : decode cX6_readWord 119 = .ok (.iconst 1, 1) := by decide +kernel
theorem dX6_readWord_120 : decode cX6_readWord 120 = .ok (.iadd, 1) := by decide +kernel
theorem dX6_readWord_121 : decode cX6_readWord 121 = .ok (.putfield 26, 3) := by decide +kernel
theorem dX6_readWord_124 : decode cX6_readWord 124 = .ok (.iinc 1 1, 3) := by decide +kernel
theorem dX6_readWord_127 : decode cX6_readWord 127 = .ok (.goto (-87), 3) := by decide +kernel
theorem dX6_readWord_130 : decode cX6_readWord 130 = .ok (.aload_n 0, 1) := by decide +kernel
theorem dX6_readWord_131 : decode cX6_readWord 131 = .ok (.getfield 18, 3) := by decide +kernel
theorem dX6_readWord_134 : decode cX6_readWord 134 = .ok (.dup, 1) := by decide +kernel
theorem dX6_readWord_135 : decode cX6_readWord 135 = .ok (.getfield 29, 3) := by decide +kernel
theorem dX6_readWord_138 : decode cX6_readWord 138 = .ok (.iconst 1, 1) := by decide +kernel
theorem dX6_readWord_139 : decode cX6_readWord 139 = .ok (.iadd, 1) := by decide +kernel
theorem dX6_readWord_140 : decode cX6_readWord 140 = .ok (.putfield 29, 3) := by decide +kernel
theorem dX6_readWord_143 : decode cX6_readWord 143 = .ok (.aload_n 0, 1) := by decide +kernel
theorem dX6_readWord_144 : decode cX6_readWord 144 = .ok (.bipush 59, 2) := by decide +kernel
theorem dX6_readWord_146 : decode cX6_readWord 146 = .ok (.invokevirtual 59, 3) := by decide +kernel
theorem dX6_readWord_149 : decode cX6_readWord 149 = .ok (.ireturn, 1) := by decide +kernel
set_option maxRecDepth 20000 in
theorem ggX6_wasTold_X2_distance : GoodIn wsX6_wasTold wsX2_distance := goodIn_r _ [6, 7, 15, 16, 17, 18, 19, 20, 21, 22] (by decide +kernel) (by decide +kernel)
set_option maxRecDepth 20000 in
theorem gX6_wasTold_X2_distance : GoodIn wsX6_wasTold (wsV RX6 87 RX2 yX2_distance wsX2_distance) := goodIn_app (goodIn_of _ (by decide +kernel)) ggX6_wasTold_X2_distance
theorem dX6_wasTold_0 : decode cX6_wasTold 0 = .ok (.iconst 0, 1) := by decide +kernel
theorem dX6_wasTold_1 : decode cX6_wasTold 1 = .ok (.istore_n 2, 1) := by decide +kernel
theorem dX6_wasTold_2 : decode cX6_wasTold 2 = .ok (.iload_n 2, 1) := by decide +kernel
theorem dX6_wasTold_3 : decode cX6_wasTold 3 = .ok (.iload_n 1, 1) := by decide +kernel
theorem dX6_wasTold_4 : decode cX6_wasTold 4 = .ok (.if_icmp .ge 23, 3) := by decide +kernel
theorem dX6_wasTold_7 : decode cX6_wasTold 7 = .ok (.aload_n 0, 1) := by decide +kernel
theorem dX6_wasTold_8 : decode cX6_wasTold 8 = .ok (.getfield 18, 3) := by decide +kernel
theorem dX6_wasTold_11 : decode cX6_wasTold 11 = .ok (.iload_n 1, 1) := by decide +kernel
theorem dX6_wasTold_12 : decode cX6_wasTold 12 = .ok (.iload_n 2, 1) := by decide +kernel
theorem dX6_wasTold_13 : decode cX6_wasTold 13 = .ok (.invokevirtual 87, 3) := by decide +kernel
theorem dX6_wasTold_16 : decode cX6_wasTold 16 = .ok (.ifCond .ne 5, 3) := by decide +kernel
theorem dX6_wasTold_19 : decode cX6_wasTold 19 = .ok (.iconst 1, 1) := by decide +kernel
theorem dX6_wasTold_20 : decode cX6_wasTold 20 = .ok (.ireturn, 1) := by decide +kernel
theorem dX6_wasTold_21 : decode cX6_wasTold 21 = .ok (.iinc 2 1, 3) := by decide +kernel
theorem dX6_wasTold_24 : decode cX6_wasTold 24 = .ok (.goto (-22), 3) := by decide +kernel
theorem dX6_wasTold_27 : decode cX6_wasTold 27 = .ok (.iconst 0, 1) := by decide +kernel
theorem dX6_wasTold_28 : decode cX6_wasTold 28 = .ok (.ireturn, 1) := by decide +kernel
set_option maxRecDepth 20000 in
theorem ggX6_readGuard_X6_here : GoodIn wsX6_readGuard wsX6_here := goodIn_r _ [12, 4, 13, 14, 35, 36, 37, 38, 39, 40, 41] (by decide +kernel) (by decide +kernel)
set_option maxRecDepth 20000 in
theorem gX6_readGuard_X6_here : GoodIn wsX6_readGuard (wsV RX6 42 RX6 yX6_here wsX6_here) := goodIn_app (goodIn_of _ (by decide +kernel)) ggX6_readGuard_X6_here
set_option maxRecDepth 20000 in
theorem ggX6_readGuard_X6_kindOf : GoodIn wsX6_readGuard wsX6_kindOf := goodIn_r _ [17, 1] (by decide +kernel) (by decide +kernel)
set_option maxRecDepth 20000 in
theorem gX6_readGuard_X6_kindOf : GoodIn wsX6_readGuard (va_wsS RX6 91 yX6_kindOf wsX6_kindOf) := goodIn_app (goodIn_of _ (by decide +kernel)) ggX6_readGuard_X6_kindOf
set_option maxRecDepth 20000 in
theorem ggX6_readGuard_X6_faulty : GoodIn wsX6_readGuard wsX6_faulty := goodIn_r _ [21, 22, 4, 23, 35, 36, 37, 38, 39, 40, 41] (by decide +kernel) (by decide +kernel)
set_option maxRecDepth 20000 in
theorem gX6_readGuard_X6_faulty : GoodIn wsX6_readGuard (wsV RX6 78 RX6 yX6_faulty wsX6_faulty) := goodIn_app (goodIn_of _ (by decide +kernel)) ggX6_readGuard_X6_faulty
set_option maxRecDepth 20000 in
theorem ggX6_readGuard_X6_readNumber : GoodIn wsX6_readGuard wsX6_readNumber := goodIn_r _ [27, 7, 4, 13, 14, 28, 29, 11, 30, 18, 19, 20, 21, 22, 23, 35, 36, 37, 38, 39, 40, 41] (by decide +kernel) (by decide +kernel)
set_option maxRecDepth 20000 in
theorem gX6_readGuard_X6_readNumber : GoodIn wsX6_readGuard (wsV RX6 63 RX6 yX6_readNumber wsX6_readNumber) := goodIn_app (goodIn_of _ (by decide +kernel)) ggX6_readGuard_X6_readNumber
set_option maxRecDepth 20000 in
theorem ggX6_readGuard_X6_readSign : GoodIn wsX6_readGuard wsX6_readSign := goodIn_r _ [34, 4, 8, 9, 10, 11, 12, 13, 14, 18, 19, 20, 21, 22, 23, 35, 36, 37, 38, 39, 40, 41] (by decide +kernel) (by decide +kernel)
set_option maxRecDepth 20000 in
theorem gX6_readGuard_X6_readSign : GoodIn wsX6_readGuard (wsV RX6 59 RX6 yX6_readSign wsX6_readSign) := goodIn_app (goodIn_of _ (by decide +kernel)) ggX6_readGuard_X6_readSign
theorem dX6_readGuard_0 : decode cX6_readGuard 0 = .ok (.aload_n 0, 1) := by decide +kernel
theorem dX6_readGuard_1 : decode cX6_readGuard 1 = .ok (.invokevirtual 42, 3) := by decide +kernel
theorem dX6_readGuard_4 : decode cX6_readGuard 4 = .ok (.invokestatic 91, 3) := by decide +kernel
theorem dX6_readGuard_7 : decode cX6_readGuard 7 = .ok (.istore_n 1, 1) := by decide +kernel
theorem dX6_readGuard_8 : decode cX6_readGuard 8 = .ok (.iload_n 1, 1) := by decide +kernel
theorem dX6_readGuard_9 : decode cX6_readGuard 9 = .ok (.ldc 95, 2) := by decide +kernel
theorem dX6_readGuard_11 : decode cX6_readGuard 11 = .ok (.if_icmp .ne 9, 3) := by decide +kernel
theorem dX6_readGuard_14 : decode cX6_readGuard 14 = .ok (.aload_n 0, 1) := by decide +kernel
theorem dX6_readGuard_15 : decode cX6_readGuard 15 = .ok (.iconst 1, 1) := by decide +kernel
theorem dX6_readGuard_16 : decode cX6_readGuard 16 = .ok (.invokevirtual 78, 3) := by decide +kernel
theorem dX6_readGuard_19 : decode cX6_readGuard 19 = .ok (.ireturn, 1) := by decide +kernel
theorem dX6_readGuard_20 : decode cX6_readGuard 20 = .ok (.aload_n 0, 1) := by decide +kernel
theorem dX6_readGuard_21 : decode cX6_readGuard 21 = .ok (.getfield 18, 3) := by decide +kernel
theorem dX6_readGuard_24 : decode cX6_readGuard 24 = .ok (.getfield 32, 3) := by decide +kernel
theorem dX6_readGuard_27 : decode cX6_readGuard 27 = .ok (.iconst 4, 1) := by decide +kernel
theorem dX6_readGuard_28 : decode cX6_readGuard 28 = .ok (.if_icmp .lt 9, 3) := by decide +kernel
theorem dX6_readGuard_31 : decode cX6_readGuard 31 = .ok (.aload_n 0, 1) := by decide +kernel
theorem dX6_readGuard_32 : decode cX6_readGuard 32 = .ok (.iconst 3, 1) := by decide +kernel
theorem dX6_readGuard_33 : decode cX6_readGuard 33 = .ok (.invokevirtual 78, 3) := by decide +kernel
theorem dX6_readGuard_36 : decode cX6_readGuard 36 = .ok (.ireturn, 1) := by decide +kernel
theorem dX6_readGuard_37 : decode cX6_readGuard 37 = .ok (.aload_n 0, 1) := by decide +kernel
theorem dX6_readGuard_38 : decode cX6_readGuard 38 = .ok (.dup, 1) := by decide +kernel
theorem dX6_readGuard_39 : decode cX6_readGuard 39 = .ok (.getfield 26, 3) := by decide +kernel
theorem dX6_readGuard_42 : decode cX6_readGuard 42 = .ok (.iconst 1, 1) := by decide +kernel
theorem dX6_readGuard_43 : decode cX6_readGuard 43 = .ok (.iadd, 1) := by decide +kernel
theorem dX6_readGuard_44 : decode cX6_readGuard 44 = .ok (.putfield 26, 3) := by decide +kernel
theorem dX6_readGuard_47 : decode cX6_readGuard 47 = .ok (.aload_n 0, 1) := by decide +kernel
theorem dX6_readGuard_48 : decode cX6_readGuard 48 = .ok (.bipush 9, 2) := by decide +kernel
theorem dX6_readGuard_50 : decode cX6_readGuard 50 = .ok (.invokevirtual 63, 3) := by decide +kernel
theorem dX6_readGuard_53 : decode cX6_readGuard 53 = .ok (.ifCond .ne 5, 3) := by decide +kernel
theorem dX6_readGuard_56 : decode cX6_readGuard 56 = .ok (.iconst 0, 1) := by decide +kernel
theorem dX6_readGuard_57 : decode cX6_readGuard 57 = .ok (.ireturn, 1) := by decide +kernel
theorem dX6_readGuard_58 : decode cX6_readGuard 58 = .ok (.aload_n 0, 1) := by decide +kernel
theorem dX6_readGuard_59 : decode cX6_readGuard 59 = .ok (.getfield 18, 3) := by decide +kernel
theorem dX6_readGuard_62 : decode cX6_readGuard 62 = .ok (.getfield 96, 3) := by decide +kernel
theorem dX6_readGuard_65 : decode cX6_readGuard 65 = .ok (.aload_n 0, 1) := by decide +kernel
theorem dX6_readGuard_66 : decode cX6_readGuard 66 = .ok (.getfield 18, 3) := by decide +kernel
theorem dX6_readGuard_69 : decode cX6_readGuard 69 = .ok (.getfield 32, 3) := by decide +kernel
theorem dX6_readGuard_72 : decode cX6_readGuard 72 = .ok (.iload_n 1, 1) := by decide +kernel
theorem dX6_readGuard_73 : decode cX6_readGuard 73 = .ok (.iastore, 1) := by decide +kernel
theorem dX6_readGuard_74 : decode cX6_readGuard 74 = .ok (.aload_n 0, 1) := by decide +kernel
theorem dX6_readGuard_75 : decode cX6_readGuard 75 = .ok (.getfield 18, 3) := by decide +kernel
theorem dX6_readGuard_78 : decode cX6_readGuard 78 = .ok (.getfield 99, 3) := by decide +kernel
theorem dX6_readGuard_81 : decode cX6_readGuard 81 = .ok (.aload_n 0, 1) := by decide +kernel
theorem dX6_readGuard_82 : decode cX6_readGuard 82 = .ok (.getfield 18, 3) := by decide +kernel
theorem dX6_readGuard_85 : decode cX6_readGuard 85 = .ok (.getfield 32, 3) := by decide +kernel
theorem dX6_readGuard_88 : decode cX6_readGuard 88 = .ok (.aload_n 0, 1) := by decide +kernel
theorem dX6_readGuard_89 : decode cX6_readGuard 89 = .ok (.getfield 66, 3) := by decide +kernel
theorem dX6_readGuard_92 : decode cX6_readGuard 92 = .ok (.iastore, 1) := by decide +kernel
theorem dX6_readGuard_93 : decode cX6_readGuard 93 = .ok (.aload_n 0, 1) := by decide +kernel
theorem dX6_readGuard_94 : decode cX6_readGuard 94 = .ok (.getfield 18, 3) := by decide +kernel
theorem dX6_readGuard_97 : decode cX6_readGuard 97 = .ok (.dup, 1) := by decide +kernel
theorem dX6_readGuard_98 : decode cX6_readGuard 98 = .ok (.getfield 32, 3) := by decide +kernel
theorem dX6_readGuard_101 : decode cX6_readGuard 101 = .ok (.iconst 1, 1) := by decide +kernel
theorem dX6_readGuard_102 : decode cX6_readGuard 102 = .ok (.iadd, 1) := by decide +kernel
theorem dX6_readGuard_103 : decode cX6_readGuard 103 = .ok (.putfield 32, 3) := by decide +kernel
theorem dX6_readGuard_106 : decode cX6_readGuard 106 = .ok (.aload_n 0, 1) := by decide +kernel
theorem dX6_readGuard_107 : decode cX6_readGuard 107 = .ok (.bipush 59, 2) := by decide +kernel
theorem dX6_readGuard_109 : decode cX6_readGuard 109 = .ok (.invokevirtual 59, 3) := by decide +kernel
theorem dX6_readGuard_112 : decode cX6_readGuard 112 = .ok (.ireturn, 1) := by decide +kernel
theorem dX6_kindOf_0 : decode cX6_kindOf 0 = .ok (.iload_n 0, 1) := by decide +kernel
theorem dX6_kindOf_1 : decode cX6_kindOf 1 = .ok (.lookupswitch 61 #[(100, 57), (101, 55), (103, 59), (107, 51), (115, 53)], 51) := by decide +kernel
theorem dX6_kindOf_52 : decode cX6_kindOf 52 = .ok (.iconst 1, 1) := by decide +kernel
theorem dX6_kindOf_53 : decode cX6_kindOf 53 = .ok (.ireturn, 1) := by decide +kernel
theorem dX6_kindOf_54 : decode cX6_kindOf 54 = .ok (.iconst 2, 1) := by decide +kernel
theorem dX6_kindOf_55 : decode cX6_kindOf 55 = .ok (.ireturn, 1) := by decide +kernel
theorem dX6_kindOf_56 : decode cX6_kindOf 56 = .ok (.iconst 3, 1) := by decide +kernel
theorem dX6_kindOf_57 : decode cX6_kindOf 57 = .ok (.ireturn, 1) := by decide +kernel
theorem dX6_kindOf_58 : decode cX6_kindOf 58 = .ok (.iconst 4, 1) := by decide +kernel
theorem dX6_kindOf_59 : decode cX6_kindOf 59 = .ok (.ireturn, 1) := by decide +kernel
theorem dX6_kindOf_60 : decode cX6_kindOf 60 = .ok (.iconst 5, 1) := by decide +kernel
theorem dX6_kindOf_61 : decode cX6_kindOf 61 = .ok (.ireturn, 1) := by decide +kernel
theorem dX6_kindOf_62 : decode cX6_kindOf 62 = .ok (.ldc 95, 2) := by decide +kernel
theorem dX6_kindOf_64 : decode cX6_kindOf 64 = .ok (.ireturn, 1) := by decide +kernel
set_option maxRecDepth 20000 in
theorem ggX6_readSign_X6_here : GoodIn wsX6_readSign wsX6_here := goodIn_r _ [6, 1, 7, 8, 15, 16, 17, 18, 19, 20, 21] (by decide +kernel) (by decide +kernel)
set_option maxRecDepth 20000 in
theorem gX6_readSign_X6_here : GoodIn wsX6_readSign (wsV RX6 42 RX6 yX6_here wsX6_here) := goodIn_app (goodIn_of _ (by decide +kernel)) ggX6_readSign_X6_here
set_option maxRecDepth 20000 in
theorem ggX6_readSign_X6_faulty : GoodIn wsX6_readSign wsX6_faulty := goodIn_r _ [12, 13, 1, 14, 15, 16, 17, 18, 19, 20, 21] (by decide +kernel) (by decide +kernel)
set_option maxRecDepth 20000 in
theorem gX6_readSign_X6_faulty : GoodIn wsX6_readSign (wsV RX6 78 RX6 yX6_faulty wsX6_faulty) := goodIn_app (goodIn_of _ (by decide +kernel)) ggX6_readSign_X6_faulty
theorem dX6_readSign_0 : decode cX6_readSign 0 = .ok (.aload_n 0, 1) := by decide +kernel
theorem dX6_readSign_1 : decode cX6_readSign 1 = .ok (.invokevirtual 42, 3) := by decide +kernel
theorem dX6_readSign_4 : decode cX6_readSign 4 = .ok (.iload_n 1, 1) := by decide +kernel
theorem dX6_readSign_5 : decode cX6_readSign 5 = .ok (.if_icmp .eq 9, 3) := by decide +kernel
theorem dX6_readSign_8 : decode cX6_readSign 8 = .ok (.aload_n 0, 1) := by decide +kernel
theorem dX6_readSign_9 : decode cX6_readSign 9 = .ok (.iconst 1, 1) := by decide +kernel
theorem dX6_readSign_10 : decode cX6_readSign 10 = .ok (.invokevirtual 78, 3) := by decide +kernel
theorem dX6_readSign_13 : decode cX6_readSign 13 = .ok (.ireturn, 1) := by decide +kernel
theorem dX6_readSign_14 : decode cX6_readSign 14 = .ok (.aload_n 0, 1) := by decide +kernel
theorem dX6_readSign_15 : decode cX6_readSign 15 = .ok (.dup, 1) := by decide +kernel
theorem dX6_readSign_16 : decode cX6_readSign 16 = .ok (.getfield 26, 3) := by decide +kernel
theorem dX6_readSign_19 : decode cX6_readSign 19 = .ok (.iconst 1, 1) := by decide +kernel
theorem dX6_readSign_20 : decode cX6_readSign 20 = .ok (.iadd, 1) := by decide +kernel
theorem dX6_readSign_21 : decode cX6_readSign 21 = .ok (.putfield 26, 3) := by decide +kernel
theorem dX6_readSign_24 : decode cX6_readSign 24 = .ok (.iconst 1, 1) := by decide +kernel
theorem dX6_readSign_25 : decode cX6_readSign 25 = .ok (.ireturn, 1) := by decide +kernel
set_option maxRecDepth 20000 in
theorem ggX6_readNumber_X6_isFigure : GoodIn wsX6_readNumber wsX6_isFigure := goodIn_r _ [8] (by decide +kernel) (by decide +kernel)
set_option maxRecDepth 20000 in
theorem gX6_readNumber_X6_isFigure : GoodIn wsX6_readNumber (va_wsS RX6 102 yX6_isFigure wsX6_isFigure) := goodIn_app (goodIn_of _ (by decide +kernel)) ggX6_readNumber_X6_isFigure
set_option maxRecDepth 20000 in
theorem ggX6_readNumber_X6_faulty : GoodIn wsX6_readNumber wsX6_faulty := goodIn_r _ [12, 13, 2, 14, 15, 16, 17, 18, 19, 20, 21] (by decide +kernel) (by decide +kernel)
set_option maxRecDepth 20000 in
theorem gX6_readNumber_X6_faulty : GoodIn wsX6_readNumber (wsV RX6 78 RX6 yX6_faulty wsX6_faulty) := goodIn_app (goodIn_of _ (by decide +kernel)) ggX6_readNumber_X6_faulty
theorem dX6_readNumber_0 : decode cX6_readNumber 0 = .ok (.iconst 0, 1) := by decide +kernel
theorem dX6_readNumber_1 : decode cX6_readNumber 1 = .ok (.istore_n 2, 1) := by decide +kernel
theorem dX6_readNumber_2 : decode cX6_readNumber 2 = .ok (.aload_n 0, 1) := by decide +kernel
theorem dX6_readNumber_3 : decode cX6_readNumber 3 = .ok (.iconst 0, 1) := by decide +kernel
theorem dX6_readNumber_4 : decode cX6_readNumber 4 = .ok (.putfield 66, 3) := by decide +kernel
theorem dX6_readNumber_7 : decode cX6_readNumber 7 = .ok (.aload_n 0, 1) := by decide +kernel
theorem dX6_readNumber_8 : decode cX6_readNumber 8 = .ok (.getfield 26, 3) := by decide +kernel
theorem dX6_readNumber_11 : decode cX6_readNumber 11 = .ok (.istore_n 3, 1) := by decide +kernel
theorem dX6_readNumber_12 : decode cX6_readNumber 12 = .ok (.iload_n 3, 1) := by decide +kernel
theorem dX6_readNumber_13 : decode cX6_readNumber 13 = .ok (.aload_n 0, 1) := by decide +kernel
theorem dX6_readNumber_14 : decode cX6_readNumber 14 = .ok (.getfield 22, 3) := by decide +kernel
theorem dX6_readNumber_17 : decode cX6_readNumber 17 = .ok (.if_icmp .ge 50, 3) := by decide +kernel
theorem dX6_readNumber_20 : decode cX6_readNumber 20 = .ok (.iload_n 2, 1) := by decide +kernel
theorem dX6_readNumber_21 : decode cX6_readNumber 21 = .ok (.iconst 3, 1) := by decide +kernel
theorem dX6_readNumber_22 : decode cX6_readNumber 22 = .ok (.if_icmp .ge 45, 3) := by decide +kernel
theorem dX6_readNumber_25 : decode cX6_readNumber 25 = .ok (.aload_n 0, 1) := by decide +kernel
theorem dX6_readNumber_26 : decode cX6_readNumber 26 = .ok (.getfield 9, 3) := by decide +kernel
theorem dX6_readNumber_29 : decode cX6_readNumber 29 = .ok (.iload_n 3, 1) := by decide +kernel
theorem dX6_readNumber_30 : decode cX6_readNumber 30 = .ok (.iaload, 1) := by decide +kernel
theorem dX6_readNumber_31 : decode cX6_readNumber 31 = .ok (.invokestatic 102, 3) := by decide +kernel
theorem dX6_readNumber_34 : decode cX6_readNumber 34 = .ok (.ifCond .eq 33, 3) := by decide +kernel
theorem dX6_readNumber_37 : decode cX6_readNumber 37 = .ok (.aload_n 0, 1) := by decide +kernel
theorem dX6_readNumber_38 : decode cX6_readNumber 38 = .ok (.aload_n 0, 1) := by decide +kernel
theorem dX6_readNumber_39 : decode cX6_readNumber 39 = .ok (.getfield 66, 3) := by decide +kernel
theorem dX6_readNumber_42 : decode cX6_readNumber 42 = .ok (.bipush 10, 2) := by decide +kernel
theorem dX6_readNumber_44 : decode cX6_readNumber 44 = .ok (.imul, 1) := by decide +kernel
theorem dX6_readNumber_45 : decode cX6_readNumber 45 = .ok (.aload_n 0, 1) := by decide +kernel
theorem dX6_readNumber_46 : decode cX6_readNumber 46 = .ok (.getfield 9, 3) := by decide +kernel
theorem dX6_readNumber_49 : decode cX6_readNumber 49 = .ok (.iload_n 3, 1) := by decide +kernel
theorem dX6_readNumber_50 : decode cX6_readNumber 50 = .ok (.iaload, 1) := by decide +kernel
theorem dX6_readNumber_51 : decode cX6_readNumber 51 = .ok (.iadd, 1) := by decide +kernel
theorem dX6_readNumber_52 : decode cX6_readNumber 52 = .ok (.bipush 48, 2) := by decide +kernel
theorem dX6_readNumber_54 : decode cX6_readNumber 54 = .ok (.isub, 1) := by decide +kernel
theorem dX6_readNumber_55 : decode cX6_readNumber 55 = .ok (.putfield 66, 3) := by decide +kernel
theorem dX6_readNumber_58 : decode cX6_readNumber 58 = .ok (.iinc 2 1, 3) := by decide +kernel
theorem dX6_readNumber_61 : decode cX6_readNumber 61 = .ok (.iinc 3 1, 3) := by decide +kernel
theorem dX6_readNumber_64 : decode cX6_readNumber 64 = .ok (.goto (-52), 3) := by decide +kernel
theorem dX6_readNumber_67 : decode cX6_readNumber 67 = .ok (.iload_n 2, 1) := by decide +kernel
theorem dX6_readNumber_68 : decode cX6_readNumber 68 = .ok (.ifCond .eq 8, 3) := by decide +kernel
theorem dX6_readNumber_71 : decode cX6_readNumber 71 = .ok (.iload_n 2, 1) := by decide +kernel
theorem dX6_readNumber_72 : decode cX6_readNumber 72 = .ok (.iconst 2, 1) := by decide +kernel
theorem dX6_readNumber_73 : decode cX6_readNumber 73 = .ok (.if_icmp .le 9, 3) := by decide +kernel
theorem dX6_readNumber_76 : decode cX6_readNumber 76 = .ok (.aload_n 0, 1) := by decide +kernel
theorem dX6_readNumber_77 : decode cX6_readNumber 77 = .ok (.iconst 1, 1) := by decide +kernel
theorem dX6_readNumber_78 : decode cX6_readNumber 78 = .ok (.invokevirtual 78, 3) := by decide +kernel
theorem dX6_readNumber_81 : decode cX6_readNumber 81 = .ok (.ireturn, 1) := by decide +kernel
theorem dX6_readNumber_82 : decode cX6_readNumber 82 = .ok (.aload_n 0, 1) := by decide +kernel
theorem dX6_readNumber_83 : decode cX6_readNumber 83 = .ok (.getfield 66, 3) := by decide +kernel
theorem dX6_readNumber_86 : decode cX6_readNumber 86 = .ok (.iload_n 1, 1) := by decide +kernel
theorem dX6_readNumber_87 : decode cX6_readNumber 87 = .ok (.if_icmp .le 9, 3) := by decide +kernel
theorem dX6_readNumber_90 : decode cX6_readNumber 90 = .ok (.aload_n 0, 1) := by decide +kernel
theorem dX6_readNumber_91 : decode cX6_readNumber 91 = .ok (.iconst 2, 1) := by decide +kernel
theorem dX6_readNumber_92 : decode cX6_readNumber 92 = .ok (.invokevirtual 78, 3) := by decide +kernel
theorem dX6_readNumber_95 : decode cX6_readNumber 95 = .ok (.ireturn, 1) := by decide +kernel
theorem dX6_readNumber_96 : decode cX6_readNumber 96 = .ok (.aload_n 0, 1) := by decide +kernel
theorem dX6_readNumber_97 : decode cX6_readNumber 97 = .ok (.dup, 1) := by decide +kernel
theorem dX6_readNumber_98 : decode cX6_readNumber 98 = .ok (.getfield 26, 3) := by decide +kernel
theorem dX6_readNumber_101 : decode cX6_readNumber 101 = .ok (.iload_n 2, 1) := by decide +kernel
theorem dX6_readNumber_102 : decode cX6_readNumber 102 = .ok (.iadd, 1) := by decide +kernel
theorem dX6_readNumber_103 : decode cX6_readNumber 103 = .ok (.putfield 26, 3) := by decide +kernel
theorem dX6_readNumber_106 : decode cX6_readNumber 106 = .ok (.iconst 1, 1) := by decide +kernel
theorem dX6_readNumber_107 : decode cX6_readNumber 107 = .ok (.ireturn, 1) := by decide +kernel
theorem dX6_isFigure_0 : decode cX6_isFigure 0 = .ok (.iload_n 0, 1) := by decide +kernel
theorem dX6_isFigure_1 : decode cX6_isFigure 1 = .ok (.bipush 48, 2) := by decide +kernel
theorem dX6_isFigure_3 : decode cX6_isFigure 3 = .ok (.if_icmp .lt 13, 3) := by decide +kernel
theorem dX6_isFigure_6 : decode cX6_isFigure 6 = .ok (.iload_n 0, 1) := by decide +kernel
theorem dX6_isFigure_7 : decode cX6_isFigure 7 = .ok (.bipush 57, 2) := by decide +kernel
theorem dX6_isFigure_9 : decode cX6_isFigure 9 = .ok (.if_icmp .gt 7, 3) := by decide +kernel
theorem dX6_isFigure_12 : decode cX6_isFigure 12 = .ok (.iconst 1, 1) := by decide +kernel
theorem dX6_isFigure_13 : decode cX6_isFigure 13 = .ok (.goto 4, 3) := by decide +kernel
theorem dX6_isFigure_16 : decode cX6_isFigure 16 = .ok (.iconst 0, 1) := by decide +kernel
theorem dX6_isFigure_17 : decode cX6_isFigure 17 = .ok (.ireturn, 1) := by decide +kernel
theorem dX6_here_0 : decode cX6_here 0 = .ok (.aload_n 0, 1) := by decide +kernel
theorem dX6_here_1 : decode cX6_here 1 = .ok (.getfield 26, 3) := by decide +kernel
theorem dX6_here_4 : decode cX6_here 4 = .ok (.aload_n 0, 1) := by decide +kernel
theorem dX6_here_5 : decode cX6_here 5 = .ok (.getfield 22, 3) := by decide +kernel
theorem dX6_here_8 : decode cX6_here 8 = .ok (.if_icmp .ge 15, 3) := by decide +kernel
theorem dX6_here_11 : decode cX6_here 11 = .ok (.aload_n 0, 1) := by decide +kernel
theorem dX6_here_12 : decode cX6_here 12 = .ok (.getfield 9, 3) := by decide +kernel
theorem dX6_here_15 : decode cX6_here 15 = .ok (.aload_n 0, 1) := by decide +kernel
theorem dX6_here_16 : decode cX6_here 16 = .ok (.getfield 26, 3) := by decide +kernel
theorem dX6_here_19 : decode cX6_here 19 = .ok (.iaload, 1) := by decide +kernel
theorem dX6_here_20 : decode cX6_here 20 = .ok (.goto 4, 3) := by decide +kernel
theorem dX6_here_23 : decode cX6_here 23 = .ok (.iconst (-1), 1) := by decide +kernel
theorem dX6_here_24 : decode cX6_here 24 = .ok (.ireturn, 1) := by decide +kernel
theorem dX6_faulty_0 : decode cX6_faulty 0 = .ok (.aload_n 0, 1) := by decide +kernel
theorem dX6_faulty_1 : decode cX6_faulty 1 = .ok (.iload_n 1, 1) := by decide +kernel
theorem dX6_faulty_2 : decode cX6_faulty 2 = .ok (.putfield 105, 3) := by decide +kernel
theorem dX6_faulty_5 : decode cX6_faulty 5 = .ok (.aload_n 0, 1) := by decide +kernel
theorem dX6_faulty_6 : decode cX6_faulty 6 = .ok (.aload_n 0, 1) := by decide +kernel
theorem dX6_faulty_7 : decode cX6_faulty 7 = .ok (.getfield 26, 3) := by decide +kernel
theorem dX6_faulty_10 : decode cX6_faulty 10 = .ok (.putfield 108, 3) := by decide +kernel
theorem dX6_faulty_13 : decode cX6_faulty 13 = .ok (.iconst 0, 1) := by decide +kernel
theorem dX6_faulty_14 : decode cX6_faulty 14 = .ok (.ireturn, 1) := by decide +kernel
set_option maxRecDepth 20000 in
theorem ggX7_init_X6_init : GoodIn wsX7_init wsX6_init := goodIn_r _ [30, 31, 2, 3, 32, 33, 34, 11, 12, 35, 36, 37, 38, 39, 40, 41, 42, 43, 44, 45, 46, 47, 48, 49, 50, 51, 52, 82, 83, 84, 85, 86, 87, 88, 89, 90, 91, 92, 93, 94, 95, 96, 111, 112, 113, 114, 115, 116, 117, 118] (by decide +kernel) (by decide +kernel)
set_option maxRecDepth 20000 in
theorem gX7_init_X6_init_n17 : GoodIn wsX7_init (wsX6_init) := ggX7_init_X6_init
set_option maxRecDepth 20000 in
theorem ggX7_init_X2_init : GoodIn wsX7_init wsX2_init := goodIn_r _ [37, 38, 2, 3, 32, 39, 40, 41, 42, 43, 44, 45, 46, 47, 48, 49, 50, 51, 52, 89, 90, 91, 92, 93, 94, 95, 96, 111, 112, 113, 114, 115, 116, 117, 118] (by decide +kernel) (by decide +kernel)
set_option maxRecDepth 20000 in
theorem gX7_init_X2_init_n24 : GoodIn wsX7_init (wsX2_init) := ggX7_init_X2_init
set_option maxRecDepth 20000 in
theorem ggX7_init_X0_init : GoodIn wsX7_init wsX0_init := goodIn_r _ [55, 56, 2, 3, 57, 58, 43, 44, 46, 47, 48, 32, 49, 50, 51, 52, 97, 98, 99, 111, 112, 113, 114, 115, 116, 117, 118] (by decide +kernel) (by decide +kernel)
set_option maxRecDepth 20000 in
theorem gX7_init_X0_init : GoodIn wsX7_init (wsX0_init) := ggX7_init_X0_init
set_option maxRecDepth 20000 in
theorem ggX7_init_X3_init : GoodIn wsX7_init wsX3_init := goodIn_r _ [60, 61, 2, 3, 32, 62, 63, 100, 101] (by decide +kernel) (by decide +kernel)
set_option maxRecDepth 20000 in
theorem gX7_init_X3_init_n42 : GoodIn wsX7_init (wsX3_init) := ggX7_init_X3_init
set_option maxRecDepth 20000 in
theorem ggX7_init_X1_init : GoodIn wsX7_init wsX1_init := goodIn_r _ [65, 66, 2, 3, 32, 67, 102, 103, 104, 105, 106, 107] (by decide +kernel) (by decide +kernel)
set_option maxRecDepth 20000 in
theorem gX7_init_X1_init_n49 : GoodIn wsX7_init (wsX1_init) := ggX7_init_X1_init
set_option maxRecDepth 20000 in
theorem ggX7_init_X5_init : GoodIn wsX7_init wsX5_init := goodIn_r _ [69, 70, 2, 3, 32, 71, 72, 108, 109, 110] (by decide +kernel) (by decide +kernel)
set_option maxRecDepth 20000 in
theorem gX7_init_X5_init_n54 : GoodIn wsX7_init (wsX5_init) := ggX7_init_X5_init
theorem dX7_init_0 : decode cX7_init 0 = .ok (.aload_n 0, 1) := by decide +kernel
theorem dX7_init_1 : decode cX7_init 1 = .ok (.invokespecial 1, 3) := by decide +kernel
theorem dX7_init_4 : decode cX7_init 4 = .ok (.aload_n 0, 1) := by decide +kernel
theorem dX7_init_5 : decode cX7_init 5 = .ok (.bipush 8, 2) := by decide +kernel
theorem dX7_init_7 : decode cX7_init 7 = .ok (.anewarray 9, 3) := by decide +kernel
theorem dX7_init_10 : decode cX7_init 10 = .ok (.putfield 11, 3) := by decide +kernel
theorem dX7_init_13 : decode cX7_init 13 = .ok (.aload_n 0, 1) := by decide +kernel
theorem dX7_init_14 : decode cX7_init 14 = .ok (.new 15, 3) := by decide +kernel
theorem dX7_init_17 : decode cX7_init 17 = .ok (.dup, 1) := by decide +kernel
theorem dX7_init_18 : decode cX7_init 18 = .ok (.invokespecial 17, 3) := by decide +kernel
theorem dX7_init_21 : decode cX7_init 21 = .ok (.putfield 18, 3) := by decide +kernel
theorem dX7_init_24 : decode cX7_init 24 = .ok (.aload_n 0, 1) := by decide +kernel
theorem dX7_init_25 : decode cX7_init 25 = .ok (.new 22, 3) := by decide +kernel
theorem dX7_init_28 : decode cX7_init 28 = .ok (.dup, 1) := by decide +kernel
theorem dX7_init_29 : decode cX7_init 29 = .ok (.invokespecial 24, 3) := by decide +kernel
theorem dX7_init_32 : decode cX7_init 32 = .ok (.putfield 25, 3) := by decide +kernel
theorem dX7_init_35 : decode cX7_init 35 = .ok (.aload_n 0, 1) := by decide +kernel
theorem dX7_init_36 : decode cX7_init 36 = .ok (.new 29, 3) := by decide +kernel
theorem dX7_init_39 : decode cX7_init 39 = .ok (.dup, 1) := by decide +kernel
theorem dX7_init_40 : decode cX7_init 40 = .ok (.invokespecial 31, 3) := by decide +kernel
theorem dX7_init_43 : decode cX7_init 43 = .ok (.putfield 32, 3) := by decide +kernel
theorem dX7_init_46 : decode cX7_init 46 = .ok (.aload_n 0, 1) := by decide +kernel
theorem dX7_init_47 : decode cX7_init 47 = .ok (.iconst 2, 1) := by decide +kernel
theorem dX7_init_48 : decode cX7_init 48 = .ok (.anewarray 22, 3) := by decide +kernel
theorem dX7_init_51 : decode cX7_init 51 = .ok (.putfield 36, 3) := by decide +kernel
theorem dX7_init_54 : decode cX7_init 54 = .ok (.aload_n 0, 1) := by decide +kernel
theorem dX7_init_55 : decode cX7_init 55 = .ok (.new 40, 3) := by decide +kernel
theorem dX7_init_58 : decode cX7_init 58 = .ok (.dup, 1) := by decide +kernel
theorem dX7_init_59 : decode cX7_init 59 = .ok (.invokespecial 42, 3) := by decide +kernel
theorem dX7_init_62 : decode cX7_init 62 = .ok (.putfield 43, 3) := by decide +kernel
theorem dX7_init_65 : decode cX7_init 65 = .ok (.aload_n 0, 1) := by decide +kernel
theorem dX7_init_66 : decode cX7_init 66 = .ok (.new 47, 3) := by decide +kernel
theorem dX7_init_69 : decode cX7_init 69 = .ok (.dup, 1) := by decide +kernel
theorem dX7_init_70 : decode cX7_init 70 = .ok (.invokespecial 49, 3) := by decide +kernel
theorem dX7_init_73 : decode cX7_init 73 = .ok (.putfield 50, 3) := by decide +kernel
theorem dX7_init_76 : decode cX7_init 76 = .ok (.iconst 0, 1) := by decide +kernel
theorem dX7_init_77 : decode cX7_init 77 = .ok (.istore_n 1, 1) := by decide +kernel
theorem dX7_init_78 : decode cX7_init 78 = .ok (.iload_n 1, 1) := by decide +kernel
theorem dX7_init_79 : decode cX7_init 79 = .ok (.bipush 8, 2) := by decide +kernel
theorem dX7_init_81 : decode cX7_init 81 = .ok (.if_icmp .ge 22, 3) := by decide +kernel
theorem dX7_init_84 : decode cX7_init 84 = .ok (.aload_n 0, 1) := by decide +kernel
theorem dX7_init_85 : decode cX7_init 85 = .ok (.getfield 11, 3) := by decide +kernel
theorem dX7_init_88 : decode cX7_init 88 = .ok (.iload_n 1, 1) := by decide +kernel
theorem dX7_init_89 : decode cX7_init 89 = .ok (.new 9, 3) := by decide +kernel
theorem dX7_init_92 : decode cX7_init 92 = .ok (.dup, 1) := by decide +kernel
theorem dX7_init_93 : decode cX7_init 93 = .ok (.invokespecial 54, 3) := by decide +kernel
theorem dX7_init_96 : decode cX7_init 96 = .ok (.aastore, 1) := by decide +kernel
theorem dX7_init_97 : decode cX7_init 97 = .ok (.iinc 1 1, 3) := by decide +kernel
theorem dX7_init_100 : decode cX7_init 100 = .ok (.goto (-22), 3) := by decide +kernel
theorem dX7_init_103 : decode cX7_init 103 = .ok (.iconst 0, 1) := by decide +kernel
theorem dX7_init_104 : decode cX7_init 104 = .ok (.istore_n 1, 1) := by decide +kernel
theorem dX7_init_105 : decode cX7_init 105 = .ok (.iload_n 1, 1) := by decide +kernel
theorem dX7_init_106 : decode cX7_init 106 = .ok (.iconst 2, 1) := by decide +kernel
theorem dX7_init_107 : decode cX7_init 107 = .ok (.if_icmp .ge 22, 3) := by decide +kernel
theorem dX7_init_110 : decode cX7_init 110 = .ok (.aload_n 0, 1) := by decide +kernel
theorem dX7_init_111 : decode cX7_init 111 = .ok (.getfield 36, 3) := by decide +kernel
theorem dX7_init_114 : decode cX7_init 114 = .ok (.iload_n 1, 1) := by decide +kernel
theorem dX7_init_115 : decode cX7_init 115 = .ok (.new 22, 3) := by decide +kernel
theorem dX7_init_118 : decode cX7_init 118 = .ok (.dup, 1) := by decide +kernel
theorem dX7_init_119 : decode cX7_init 119 = .ok (.invokespecial 24, 3) := by decide +kernel
theorem dX7_init_122 : decode cX7_init 122 = .ok (.aastore, 1) := by decide +kernel
theorem dX7_init_123 : decode cX7_init 123 = .ok (.iinc 1 1, 3) := by decide +kernel
theorem dX7_init_126 : decode cX7_init 126 = .ok (.goto (-21), 3) := by decide +kernel
theorem dX7_init_129 : decode cX7_init 129 = .ok (.return_, 1) := by decide +kernel
set_option maxRecDepth 20000 in
theorem ggX7_row_X7_isRow : GoodIn wsX7_row wsX7_isRow := goodIn_r _ [7] (by decide +kernel) (by decide +kernel)
set_option maxRecDepth 20000 in
theorem gX7_row_X7_isRow : GoodIn wsX7_row (wsV RX7 55 RX7 yX7_isRow wsX7_isRow) := goodIn_app (goodIn_of _ (by decide +kernel)) ggX7_row_X7_isRow
set_option maxRecDepth 20000 in
theorem ggX7_row_X7_found : GoodIn wsX7_row wsX7_found := goodIn_r _ [11, 12, 13, 26, 27, 28, 29, 30, 31, 32, 33, 34] (by decide +kernel) (by decide +kernel)
set_option maxRecDepth 20000 in
theorem gX7_row_X7_found : GoodIn wsX7_row (wsV RX7 60 RX7 yX7_found wsX7_found) := goodIn_app (goodIn_of _ (by decide +kernel)) ggX7_row_X7_found
set_option maxRecDepth 20000 in
theorem ggX7_row_X5_make : GoodIn wsX7_row wsX5_make := goodIn_r _ [18, 19, 20, 21, 35, 36, 37] (by decide +kernel) (by decide +kernel)
set_option maxRecDepth 20000 in
theorem gX7_row_X5_make : GoodIn wsX7_row (wsV RX7 64 RX5 yX5_make wsX5_make) := goodIn_app (goodIn_of _ (by decide +kernel)) ggX7_row_X5_make
set_option maxRecDepth 20000 in
theorem ggX7_row_X7_unfound : GoodIn wsX7_row wsX7_unfound := goodIn_r _ [25, 12, 26, 27, 28, 29, 30, 31, 32, 33, 34] (by decide +kernel) (by decide +kernel)
set_option maxRecDepth 20000 in
theorem gX7_row_X7_unfound : GoodIn wsX7_row (wsV RX7 68 RX7 yX7_unfound wsX7_unfound) := goodIn_app (goodIn_of _ (by decide +kernel)) ggX7_row_X7_unfound
theorem dX7_row_0 : decode cX7_row 0 = .ok (.aload_n 0, 1) := by decide +kernel
theorem dX7_row_1 : decode cX7_row 1 = .ok (.iload_n 1, 1) := by decide +kernel
theorem dX7_row_2 : decode cX7_row 2 = .ok (.invokevirtual 55, 3) := by decide +kernel
theorem dX7_row_5 : decode cX7_row 5 = .ok (.ifCond .eq 18, 3) := by decide +kernel
theorem dX7_row_8 : decode cX7_row 8 = .ok (.iload_n 2, 1) := by decide +kernel
theorem dX7_row_9 : decode cX7_row 9 = .ok (.ifCond .lt 14, 3) := by decide +kernel
theorem dX7_row_12 : decode cX7_row 12 = .ok (.iload_n 2, 1) := by decide +kernel
theorem dX7_row_13 : decode cX7_row 13 = .ok (.iconst 2, 1) := by decide +kernel
theorem dX7_row_14 : decode cX7_row 14 = .ok (.if_icmp .gt 9, 3) := by decide +kernel
theorem dX7_row_17 : decode cX7_row 17 = .ok (.iload_n 3, 1) := by decide +kernel
theorem dX7_row_18 : decode cX7_row 18 = .ok (.bipush 40, 2) := by decide +kernel
theorem dX7_row_20 : decode cX7_row 20 = .ok (.if_icmp .le 6, 3) := by decide +kernel
theorem dX7_row_23 : decode cX7_row 23 = .ok (.ldc 59, 2) := by decide +kernel
theorem dX7_row_25 : decode cX7_row 25 = .ok (.ireturn, 1) := by decide +kernel
theorem dX7_row_26 : decode cX7_row 26 = .ok (.iload_n 3, 1) := by decide +kernel
theorem dX7_row_27 : decode cX7_row 27 = .ok (.ifCond .ge 9, 3) := by decide +kernel
theorem dX7_row_30 : decode cX7_row 30 = .ok (.aload_n 0, 1) := by decide +kernel
theorem dX7_row_31 : decode cX7_row 31 = .ok (.iconst 4, 1) := by decide +kernel
theorem dX7_row_32 : decode cX7_row 32 = .ok (.invokevirtual 60, 3) := by decide +kernel
theorem dX7_row_35 : decode cX7_row 35 = .ok (.ireturn, 1) := by decide +kernel
theorem dX7_row_36 : decode cX7_row 36 = .ok (.aload_n 0, 1) := by decide +kernel
theorem dX7_row_37 : decode cX7_row 37 = .ok (.getfield 11, 3) := by decide +kernel
theorem dX7_row_40 : decode cX7_row 40 = .ok (.iload_n 1, 1) := by decide +kernel
theorem dX7_row_41 : decode cX7_row 41 = .ok (.aaload, 1) := by decide +kernel
theorem dX7_row_42 : decode cX7_row 42 = .ok (.iload_n 2, 1) := by decide +kernel
theorem dX7_row_43 : decode cX7_row 43 = .ok (.iload_n 3, 1) := by decide +kernel
theorem dX7_row_44 : decode cX7_row 44 = .ok (.invokevirtual 64, 3) := by decide +kernel
theorem dX7_row_47 : decode cX7_row 47 = .ok (.aload_n 0, 1) := by decide +kernel
theorem dX7_row_48 : decode cX7_row 48 = .ok (.iload_n 3, 1) := by decide +kernel
theorem dX7_row_49 : decode cX7_row 49 = .ok (.invokevirtual 68, 3) := by decide +kernel
theorem dX7_row_52 : decode cX7_row 52 = .ok (.ireturn, 1) := by decide +kernel
set_option maxRecDepth 20000 in
theorem ggX7_set_X7_isRow : GoodIn wsX7_set wsX7_isRow := goodIn_r _ [7] (by decide +kernel) (by decide +kernel)
set_option maxRecDepth 20000 in
theorem gX7_set_X7_isRow : GoodIn wsX7_set (wsV RX7 55 RX7 yX7_isRow wsX7_isRow) := goodIn_app (goodIn_of _ (by decide +kernel)) ggX7_set_X7_isRow
set_option maxRecDepth 20000 in
theorem ggX7_set_X5_findingOf : GoodIn wsX7_set wsX5_findingOf := goodIn_r _ [12, 13, 14, 15, 16, 11, 17, 18, 43, 44, 45] (by decide +kernel) (by decide +kernel)
set_option maxRecDepth 20000 in
theorem gX7_set_X5_findingOf : GoodIn wsX7_set (wsV RX7 71 RX5 yX5_findingOf wsX5_findingOf) := goodIn_app (goodIn_of _ (by decide +kernel)) ggX7_set_X5_findingOf
set_option maxRecDepth 20000 in
theorem ggX7_set_X7_found : GoodIn wsX7_set wsX7_found := goodIn_r _ [22, 23, 24, 34, 35, 36, 37, 38, 39, 40, 41, 42] (by decide +kernel) (by decide +kernel)
set_option maxRecDepth 20000 in
theorem gX7_set_X7_found : GoodIn wsX7_set (wsV RX7 60 RX7 yX7_found wsX7_found) := goodIn_app (goodIn_of _ (by decide +kernel)) ggX7_set_X7_found
set_option maxRecDepth 20000 in
theorem ggX7_set_X5_put : GoodIn wsX7_set wsX5_put := goodIn_r _ [28, 29, 13, 43, 44, 45] (by decide +kernel) (by decide +kernel)
set_option maxRecDepth 20000 in
theorem gX7_set_X5_put : GoodIn wsX7_set (wsV RX7 75 RX5 yX5_put wsX5_put) := goodIn_app (goodIn_of _ (by decide +kernel)) ggX7_set_X5_put
set_option maxRecDepth 20000 in
theorem ggX7_set_X7_unfound : GoodIn wsX7_set wsX7_unfound := goodIn_r _ [33, 23, 34, 35, 36, 37, 38, 39, 40, 41, 42] (by decide +kernel) (by decide +kernel)
set_option maxRecDepth 20000 in
theorem gX7_set_X7_unfound : GoodIn wsX7_set (wsV RX7 68 RX7 yX7_unfound wsX7_unfound) := goodIn_app (goodIn_of _ (by decide +kernel)) ggX7_set_X7_unfound
theorem dX7_set_0 : decode cX7_set 0 = .ok (.aload_n 0, 1) := by decide +kernel
theorem dX7_set_1 : decode cX7_set 1 = .ok (.iload_n 1, 1) := by decide +kernel
theorem dX7_set_2 : decode cX7_set 2 = .ok (.invokevirtual 55, 3) := by decide +kernel
theorem dX7_set_5 : decode cX7_set 5 = .ok (.ifCond .ne 6, 3) := by decide +kernel
theorem dX7_set_8 : decode cX7_set 8 = .ok (.ldc 59, 2) := by decide +kernel
theorem dX7_set_10 : decode cX7_set 10 = .ok (.ireturn, 1) := by decide +kernel
theorem dX7_set_11 : decode cX7_set 11 = .ok (.aload_n 0, 1) := by decide +kernel
theorem dX7_set_12 : decode cX7_set 12 = .ok (.getfield 11, 3) := by decide +kernel
theorem dX7_set_15 : decode cX7_set 15 = .ok (.iload_n 1, 1) := by decide +kernel
theorem dX7_set_16 : decode cX7_set 16 = .ok (.aaload, 1) := by decide +kernel
theorem dX7_set_17 : decode cX7_set 17 = .ok (.iload_n 2, 1) := by decide +kernel
theorem dX7_set_18 : decode cX7_set 18 = .ok (.iconst 1, 1) := by decide +kernel
theorem dX7_set_19 : decode cX7_set 19 = .ok (.invokevirtual 71, 3) := by decide +kernel
theorem dX7_set_22 : decode cX7_set 22 = .ok (.istore 4, 2) := by decide +kernel
theorem dX7_set_24 : decode cX7_set 24 = .ok (.iload 4, 2) := by decide +kernel
theorem dX7_set_26 : decode cX7_set 26 = .ok (.ifCond .eq 12, 3) := by decide +kernel
theorem dX7_set_29 : decode cX7_set 29 = .ok (.aload_n 0, 1) := by decide +kernel
theorem dX7_set_30 : decode cX7_set 30 = .ok (.iload 4, 2) := by decide +kernel
theorem dX7_set_32 : decode cX7_set 32 = .ok (.invokevirtual 60, 3) := by decide +kernel
theorem dX7_set_35 : decode cX7_set 35 = .ok (.goto 18, 3) := by decide +kernel
theorem dX7_set_38 : decode cX7_set 38 = .ok (.aload_n 0, 1) := by decide +kernel
theorem dX7_set_39 : decode cX7_set 39 = .ok (.aload_n 0, 1) := by decide +kernel
theorem dX7_set_40 : decode cX7_set 40 = .ok (.getfield 11, 3) := by decide +kernel
theorem dX7_set_43 : decode cX7_set 43 = .ok (.iload_n 1, 1) := by decide +kernel
theorem dX7_set_44 : decode cX7_set 44 = .ok (.aaload, 1) := by decide +kernel
theorem dX7_set_45 : decode cX7_set 45 = .ok (.iload_n 2, 1) := by decide +kernel
theorem dX7_set_46 : decode cX7_set 46 = .ok (.iload_n 3, 1) := by decide +kernel
theorem dX7_set_47 : decode cX7_set 47 = .ok (.invokevirtual 75, 3) := by decide +kernel
theorem dX7_set_50 : decode cX7_set 50 = .ok (.invokevirtual 68, 3) := by decide +kernel
theorem dX7_set_53 : decode cX7_set 53 = .ok (.ireturn, 1) := by decide +kernel
set_option maxRecDepth 20000 in
theorem ggX7_copy_X7_isRow : GoodIn wsX7_copy wsX7_isRow := goodIn_r _ [13] (by decide +kernel) (by decide +kernel)
set_option maxRecDepth 20000 in
theorem gX7_copy_X7_isRow : GoodIn wsX7_copy (wsV RX7 55 RX7 yX7_isRow wsX7_isRow) := goodIn_app (goodIn_of _ (by decide +kernel)) ggX7_copy_X7_isRow
set_option maxRecDepth 20000 in
theorem ggX7_copy_X7_found : GoodIn wsX7_copy wsX7_found := goodIn_r _ [17, 18, 19, 30, 31, 32, 33, 34, 35, 36, 37, 38] (by decide +kernel) (by decide +kernel)
set_option maxRecDepth 20000 in
theorem gX7_copy_X7_found : GoodIn wsX7_copy (wsV RX7 60 RX7 yX7_found wsX7_found) := goodIn_app (goodIn_of _ (by decide +kernel)) ggX7_copy_X7_found
set_option maxRecDepth 20000 in
theorem ggX7_copy_X5_reaches : GoodIn wsX7_copy wsX5_reaches := goodIn_r _ [24, 25, 39, 40, 41] (by decide +kernel) (by decide +kernel)
set_option maxRecDepth 20000 in
theorem gX7_copy_X5_reaches : GoodIn wsX7_copy (wsV RX7 82 RX5 yX5_reaches wsX5_reaches) := goodIn_app (goodIn_of _ (by decide +kernel)) ggX7_copy_X5_reaches
set_option maxRecDepth 20000 in
theorem ggX7_copy_X7_unfound : GoodIn wsX7_copy wsX7_unfound := goodIn_r _ [29, 18, 30, 31, 32, 33, 34, 35, 36, 37, 38] (by decide +kernel) (by decide +kernel)
set_option maxRecDepth 20000 in
theorem gX7_copy_X7_unfound : GoodIn wsX7_copy (wsV RX7 68 RX7 yX7_unfound wsX7_unfound) := goodIn_app (goodIn_of _ (by decide +kernel)) ggX7_copy_X7_unfound
theorem dX7_copy_0 : decode cX7_copy 0 = .ok (.aload_n 0, 1) := by decide +kernel
theorem dX7_copy_1 : decode cX7_copy 1 = .ok (.iload_n 1, 1) := by decide +kernel
theorem dX7_copy_2 : decode cX7_copy 2 = .ok (.invokevirtual 55, 3) := by decide +kernel
theorem dX7_copy_5 : decode cX7_copy 5 = .ok (.ifCond .eq 11, 3) := by decide +kernel
theorem dX7_copy_8 : decode cX7_copy 8 = .ok (.aload_n 0, 1) := by decide +kernel
theorem dX7_copy_9 : decode cX7_copy 9 = .ok (.iload_n 3, 1) := by decide +kernel
theorem dX7_copy_10 : decode cX7_copy 10 = .ok (.invokevirtual 55, 3) := by decide +kernel
theorem dX7_copy_13 : decode cX7_copy 13 = .ok (.ifCond .ne 6, 3) := by decide +kernel
theorem dX7_copy_16 : decode cX7_copy 16 = .ok (.ldc 59, 2) := by decide +kernel
theorem dX7_copy_18 : decode cX7_copy 18 = .ok (.ireturn, 1) := by decide +kernel
theorem dX7_copy_19 : decode cX7_copy 19 = .ok (.aload_n 0, 1) := by decide +kernel
theorem dX7_copy_20 : decode cX7_copy 20 = .ok (.getfield 11, 3) := by decide +kernel
theorem dX7_copy_23 : decode cX7_copy 23 = .ok (.iload_n 1, 1) := by decide +kernel
theorem dX7_copy_24 : decode cX7_copy 24 = .ok (.aaload, 1) := by decide +kernel
theorem dX7_copy_25 : decode cX7_copy 25 = .ok (.astore 6, 2) := by decide +kernel
theorem dX7_copy_27 : decode cX7_copy 27 = .ok (.aload_n 0, 1) := by decide +kernel
theorem dX7_copy_28 : decode cX7_copy 28 = .ok (.getfield 11, 3) := by decide +kernel
theorem dX7_copy_31 : decode cX7_copy 31 = .ok (.iload_n 3, 1) := by decide +kernel
theorem dX7_copy_32 : decode cX7_copy 32 = .ok (.aaload, 1) := by decide +kernel
theorem dX7_copy_33 : decode cX7_copy 33 = .ok (.astore 7, 2) := by decide +kernel
theorem dX7_copy_35 : decode cX7_copy 35 = .ok (.aload 6, 2) := by decide +kernel
theorem dX7_copy_37 : decode cX7_copy 37 = .ok (.getfield 78, 3) := by decide +kernel
theorem dX7_copy_40 : decode cX7_copy 40 = .ok (.iconst (-1), 1) := by decide +kernel
theorem dX7_copy_41 : decode cX7_copy 41 = .ok (.if_icmp .eq 12, 3) := by decide +kernel
theorem dX7_copy_44 : decode cX7_copy 44 = .ok (.aload 7, 2) := by decide +kernel
theorem dX7_copy_46 : decode cX7_copy 46 = .ok (.getfield 78, 3) := by decide +kernel
theorem dX7_copy_49 : decode cX7_copy 49 = .ok (.iconst (-1), 1) := by decide +kernel
theorem dX7_copy_50 : decode cX7_copy 50 = .ok (.if_icmp .ne 9, 3) := by decide +kernel
theorem dX7_copy_53 : decode cX7_copy 53 = .ok (.aload_n 0, 1) := by decide +kernel
theorem dX7_copy_54 : decode cX7_copy 54 = .ok (.iconst 1, 1) := by decide +kernel
theorem dX7_copy_55 : decode cX7_copy 55 = .ok (.invokevirtual 60, 3) := by decide +kernel
theorem dX7_copy_58 : decode cX7_copy 58 = .ok (.ireturn, 1) := by decide +kernel
theorem dX7_copy_59 : decode cX7_copy 59 = .ok (.aload 6, 2) := by decide +kernel
theorem dX7_copy_61 : decode cX7_copy 61 = .ok (.getfield 78, 3) := by decide +kernel
theorem dX7_copy_64 : decode cX7_copy 64 = .ok (.aload 7, 2) := by decide +kernel
theorem dX7_copy_66 : decode cX7_copy 66 = .ok (.getfield 78, 3) := by decide +kernel
theorem dX7_copy_69 : decode cX7_copy 69 = .ok (.if_icmp .eq 9, 3) := by decide +kernel
theorem dX7_copy_72 : decode cX7_copy 72 = .ok (.aload_n 0, 1) := by decide +kernel
theorem dX7_copy_73 : decode cX7_copy 73 = .ok (.iconst 5, 1) := by decide +kernel
theorem dX7_copy_74 : decode cX7_copy 74 = .ok (.invokevirtual 60, 3) := by decide +kernel
theorem dX7_copy_77 : decode cX7_copy 77 = .ok (.ireturn, 1) := by decide +kernel
theorem dX7_copy_78 : decode cX7_copy 78 = .ok (.aload 6, 2) := by decide +kernel
theorem dX7_copy_80 : decode cX7_copy 80 = .ok (.iload_n 2, 1) := by decide +kernel
theorem dX7_copy_81 : decode cX7_copy 81 = .ok (.iload 5, 2) := by decide +kernel
theorem dX7_copy_83 : decode cX7_copy 83 = .ok (.invokevirtual 82, 3) := by decide +kernel
theorem dX7_copy_86 : decode cX7_copy 86 = .ok (.ifCond .eq 15, 3) := by decide +kernel
theorem dX7_copy_89 : decode cX7_copy 89 = .ok (.aload 7, 2) := by decide +kernel
theorem dX7_copy_91 : decode cX7_copy 91 = .ok (.iload 4, 2) := by decide +kernel
theorem dX7_copy_93 : decode cX7_copy 93 = .ok (.iload 5, 2) := by decide +kernel
theorem dX7_copy_95 : decode cX7_copy 95 = .ok (.invokevirtual 82, 3) := by decide +kernel
theorem dX7_copy_98 : decode cX7_copy 98 = .ok (.ifCond .ne 9, 3) := by decide +kernel
theorem dX7_copy_101 : decode cX7_copy 101 = .ok (.aload_n 0, 1) := by decide +kernel
theorem dX7_copy_102 : decode cX7_copy 102 = .ok (.iconst 2, 1) := by decide +kernel
theorem dX7_copy_103 : decode cX7_copy 103 = .ok (.invokevirtual 60, 3) := by decide +kernel
theorem dX7_copy_106 : decode cX7_copy 106 = .ok (.ireturn, 1) := by decide +kernel
theorem dX7_copy_107 : decode cX7_copy 107 = .ok (.aload 6, 2) := by decide +kernel
theorem dX7_copy_109 : decode cX7_copy 109 = .ok (.getfield 86, 3) := by decide +kernel
theorem dX7_copy_112 : decode cX7_copy 112 = .ok (.iload_n 2, 1) := by decide +kernel
theorem dX7_copy_113 : decode cX7_copy 113 = .ok (.aload 7, 2) := by decide +kernel
theorem dX7_copy_115 : decode cX7_copy 115 = .ok (.getfield 86, 3) := by decide +kernel
theorem dX7_copy_118 : decode cX7_copy 118 = .ok (.iload 4, 2) := by decide +kernel
theorem dX7_copy_120 : decode cX7_copy 120 = .ok (.iload 5, 2) := by decide +kernel
theorem dX7_copy_122 : decode cX7_copy 122 = .ok (.invokestatic 90, 3) := by decide +kernel
theorem dX7_copy_125 : decode cX7_copy 125 = .ok (.aload_n 0, 1) := by decide +kernel
theorem dX7_copy_126 : decode cX7_copy 126 = .ok (.iload 5, 2) := by decide +kernel
theorem dX7_copy_128 : decode cX7_copy 128 = .ok (.invokevirtual 68, 3) := by decide +kernel
theorem dX7_copy_131 : decode cX7_copy 131 = .ok (.ireturn, 1) := by decide +kernel
set_option maxRecDepth 20000 in
theorem ggX7_drop_X7_isRow : GoodIn wsX7_drop wsX7_isRow := goodIn_r _ [9] (by decide +kernel) (by decide +kernel)
set_option maxRecDepth 20000 in
theorem gX7_drop_X7_isRow : GoodIn wsX7_drop (wsV RX7 55 RX7 yX7_isRow wsX7_isRow) := goodIn_app (goodIn_of _ (by decide +kernel)) ggX7_drop_X7_isRow
set_option maxRecDepth 20000 in
theorem ggX7_drop_X7_found : GoodIn wsX7_drop wsX7_found := goodIn_r _ [13, 14, 15, 20, 21, 22, 23, 24, 25, 26, 27, 28] (by decide +kernel) (by decide +kernel)
set_option maxRecDepth 20000 in
theorem gX7_drop_X7_found : GoodIn wsX7_drop (wsV RX7 60 RX7 yX7_found wsX7_found) := goodIn_app (goodIn_of _ (by decide +kernel)) ggX7_drop_X7_found
set_option maxRecDepth 20000 in
theorem ggX7_drop_X7_unfound : GoodIn wsX7_drop wsX7_unfound := goodIn_r _ [19, 14, 20, 21, 22, 23, 24, 25, 26, 27, 28] (by decide +kernel) (by decide +kernel)
set_option maxRecDepth 20000 in
theorem gX7_drop_X7_unfound : GoodIn wsX7_drop (wsV RX7 68 RX7 yX7_unfound wsX7_unfound) := goodIn_app (goodIn_of _ (by decide +kernel)) ggX7_drop_X7_unfound
theorem dX7_drop_0 : decode cX7_drop 0 = .ok (.aload_n 0, 1) := by decide +kernel
theorem dX7_drop_1 : decode cX7_drop 1 = .ok (.iload_n 1, 1) := by decide +kernel
theorem dX7_drop_2 : decode cX7_drop 2 = .ok (.invokevirtual 55, 3) := by decide +kernel
theorem dX7_drop_5 : decode cX7_drop 5 = .ok (.ifCond .ne 6, 3) := by decide +kernel
theorem dX7_drop_8 : decode cX7_drop 8 = .ok (.ldc 59, 2) := by decide +kernel
theorem dX7_drop_10 : decode cX7_drop 10 = .ok (.ireturn, 1) := by decide +kernel
theorem dX7_drop_11 : decode cX7_drop 11 = .ok (.aload_n 0, 1) := by decide +kernel
theorem dX7_drop_12 : decode cX7_drop 12 = .ok (.getfield 11, 3) := by decide +kernel
theorem dX7_drop_15 : decode cX7_drop 15 = .ok (.iload_n 1, 1) := by decide +kernel
theorem dX7_drop_16 : decode cX7_drop 16 = .ok (.aaload, 1) := by decide +kernel
theorem dX7_drop_17 : decode cX7_drop 17 = .ok (.getfield 78, 3) := by decide +kernel
theorem dX7_drop_20 : decode cX7_drop 20 = .ok (.iconst (-1), 1) := by decide +kernel
theorem dX7_drop_21 : decode cX7_drop 21 = .ok (.if_icmp .ne 9, 3) := by decide +kernel
theorem dX7_drop_24 : decode cX7_drop 24 = .ok (.aload_n 0, 1) := by decide +kernel
theorem dX7_drop_25 : decode cX7_drop 25 = .ok (.iconst 1, 1) := by decide +kernel
theorem dX7_drop_26 : decode cX7_drop 26 = .ok (.invokevirtual 60, 3) := by decide +kernel
theorem dX7_drop_29 : decode cX7_drop 29 = .ok (.ireturn, 1) := by decide +kernel
theorem dX7_drop_30 : decode cX7_drop 30 = .ok (.aload_n 0, 1) := by decide +kernel
theorem dX7_drop_31 : decode cX7_drop 31 = .ok (.getfield 11, 3) := by decide +kernel
theorem dX7_drop_34 : decode cX7_drop 34 = .ok (.iload_n 1, 1) := by decide +kernel
theorem dX7_drop_35 : decode cX7_drop 35 = .ok (.aaload, 1) := by decide +kernel
theorem dX7_drop_36 : decode cX7_drop 36 = .ok (.iconst (-1), 1) := by decide +kernel
theorem dX7_drop_37 : decode cX7_drop 37 = .ok (.putfield 78, 3) := by decide +kernel
theorem dX7_drop_40 : decode cX7_drop 40 = .ok (.aload_n 0, 1) := by decide +kernel
theorem dX7_drop_41 : decode cX7_drop 41 = .ok (.aload_n 0, 1) := by decide +kernel
theorem dX7_drop_42 : decode cX7_drop 42 = .ok (.getfield 11, 3) := by decide +kernel
theorem dX7_drop_45 : decode cX7_drop 45 = .ok (.iload_n 1, 1) := by decide +kernel
theorem dX7_drop_46 : decode cX7_drop 46 = .ok (.aaload, 1) := by decide +kernel
theorem dX7_drop_47 : decode cX7_drop 47 = .ok (.getfield 96, 3) := by decide +kernel
theorem dX7_drop_50 : decode cX7_drop 50 = .ok (.invokevirtual 68, 3) := by decide +kernel
theorem dX7_drop_53 : decode cX7_drop 53 = .ok (.ireturn, 1) := by decide +kernel
set_option maxRecDepth 20000 in
theorem ggX7_feed_X6_append : GoodIn wsX7_feed wsX6_append := goodIn_r _ [9, 10, 11, 21, 22, 23, 24, 25, 26, 27] (by decide +kernel) (by decide +kernel)
set_option maxRecDepth 20000 in
theorem gX7_feed_X6_append : GoodIn wsX7_feed (wsV RX7 99 RX6 yX6_append wsX6_append) := goodIn_app (goodIn_of _ (by decide +kernel)) ggX7_feed_X6_append
theorem dX7_feed_0 : decode cX7_feed 0 = .ok (.iload_n 1, 1) := by decide +kernel
theorem dX7_feed_1 : decode cX7_feed 1 = .ok (.ifCond .lt 10, 3) := by decide +kernel
theorem dX7_feed_4 : decode cX7_feed 4 = .ok (.iload_n 1, 1) := by decide +kernel
theorem dX7_feed_5 : decode cX7_feed 5 = .ok (.sipush 255, 3) := by decide +kernel
theorem dX7_feed_8 : decode cX7_feed 8 = .ok (.if_icmp .le 6, 3) := by decide +kernel
theorem dX7_feed_11 : decode cX7_feed 11 = .ok (.ldc 59, 2) := by decide +kernel
theorem dX7_feed_13 : decode cX7_feed 13 = .ok (.ireturn, 1) := by decide +kernel
theorem dX7_feed_14 : decode cX7_feed 14 = .ok (.aload_n 0, 1) := by decide +kernel
theorem dX7_feed_15 : decode cX7_feed 15 = .ok (.getfield 18, 3) := by decide +kernel
theorem dX7_feed_18 : decode cX7_feed 18 = .ok (.iload_n 1, 1) := by decide +kernel
theorem dX7_feed_19 : decode cX7_feed 19 = .ok (.invokevirtual 99, 3) := by decide +kernel
theorem dX7_feed_22 : decode cX7_feed 22 = .ok (.ifCond .eq 13, 3) := by decide +kernel
theorem dX7_feed_25 : decode cX7_feed 25 = .ok (.aload_n 0, 1) := by decide +kernel
theorem dX7_feed_26 : decode cX7_feed 26 = .ok (.getfield 18, 3) := by decide +kernel
theorem dX7_feed_29 : decode cX7_feed 29 = .ok (.getfield 102, 3) := by decide +kernel
theorem dX7_feed_32 : decode cX7_feed 32 = .ok (.goto 5, 3) := by decide +kernel
theorem dX7_feed_35 : decode cX7_feed 35 = .ok (.ldc 105, 2) := by decide +kernel
theorem dX7_feed_37 : decode cX7_feed 37 = .ok (.ireturn, 1) := by decide +kernel
set_option maxRecDepth 20000 in
theorem ggX7_gate_X6_read : GoodIn wsX7_gate wsX6_read := goodIn_r _ [15, 16, 17, 18, 19, 20, 21, 22, 23, 14, 24, 25, 26, 27, 28, 29, 30, 31, 32, 33, 34, 35, 36, 37, 38, 39, 40, 41, 42, 43, 44, 45, 46, 47, 48, 49, 50, 51, 52, 53, 54, 55, 56, 57, 58, 59, 60, 61, 62, 63, 64, 65, 66, 67, 68, 69, 70, 71, 72, 73, 74, 75, 76, 77, 78, 79, 80, 81, 82, 83, 84, 85, 125, 126, 127, 128, 129, 130, 131, 132, 133, 134, 135, 136, 137, 138, 139, 140, 141, 142, 143, 144, 145, 146, 147] (by decide +kernel) (by decide +kernel)
set_option maxRecDepth 20000 in
theorem gX7_gate_X6_read : GoodIn wsX7_gate (wsV RX7 106 RX6 yX6_read wsX6_read) := goodIn_app (goodIn_of _ (by decide +kernel)) ggX7_gate_X6_read
set_option maxRecDepth 20000 in
theorem ggX7_gate_X2_become : GoodIn wsX7_gate wsX2_become := goodIn_r _ [89, 66, 90, 91, 92, 93, 94, 95, 96, 97, 98, 99, 100, 101, 102, 103, 80, 104, 82, 105, 83, 84, 85, 106, 107, 108, 109, 132, 133, 134, 135, 136, 137, 138, 139, 140, 141, 142, 143, 144, 145, 146, 147] (by decide +kernel) (by decide +kernel)
set_option maxRecDepth 20000 in
theorem gX7_gate_X2_become : GoodIn wsX7_gate (wsV RX7 123 RX2 yX2_become wsX2_become) := goodIn_app (goodIn_of _ (by decide +kernel)) ggX7_gate_X2_become
set_option maxRecDepth 20000 in
theorem ggX7_gate_X0_forget : GoodIn wsX7_gate wsX0_forget := goodIn_r _ [114, 115, 148, 149, 150] (by decide +kernel) (by decide +kernel)
set_option maxRecDepth 20000 in
theorem gX7_gate_X0_forget : GoodIn wsX7_gate (wsV RX7 127 RX0 yX0_forget wsX0_forget) := goodIn_app (goodIn_of _ (by decide +kernel)) ggX7_gate_X0_forget
theorem dX7_gate_0 : decode cX7_gate 0 = .ok (.aload_n 0, 1) := by decide +kernel
theorem dX7_gate_1 : decode cX7_gate 1 = .ok (.getfield 18, 3) := by decide +kernel
theorem dX7_gate_4 : decode cX7_gate 4 = .ok (.invokevirtual 106, 3) := by decide +kernel
theorem dX7_gate_7 : decode cX7_gate 7 = .ok (.istore_n 1, 1) := by decide +kernel
theorem dX7_gate_8 : decode cX7_gate 8 = .ok (.aload_n 0, 1) := by decide +kernel
theorem dX7_gate_9 : decode cX7_gate 9 = .ok (.getfield 18, 3) := by decide +kernel
theorem dX7_gate_12 : decode cX7_gate 12 = .ok (.iconst 0, 1) := by decide +kernel
theorem dX7_gate_13 : decode cX7_gate 13 = .ok (.putfield 102, 3) := by decide +kernel
theorem dX7_gate_16 : decode cX7_gate 16 = .ok (.iload_n 1, 1) := by decide +kernel
theorem dX7_gate_17 : decode cX7_gate 17 = .ok (.ifCond .ne 25, 3) := by decide +kernel
theorem dX7_gate_20 : decode cX7_gate 20 = .ok (.aload_n 0, 1) := by decide +kernel
theorem dX7_gate_21 : decode cX7_gate 21 = .ok (.aload_n 0, 1) := by decide +kernel
theorem dX7_gate_22 : decode cX7_gate 22 = .ok (.getfield 18, 3) := by decide +kernel
theorem dX7_gate_25 : decode cX7_gate 25 = .ok (.getfield 110, 3) := by decide +kernel
theorem dX7_gate_28 : decode cX7_gate 28 = .ok (.putfield 113, 3) := by decide +kernel
theorem dX7_gate_31 : decode cX7_gate 31 = .ok (.ldc 116, 2) := by decide +kernel
theorem dX7_gate_33 : decode cX7_gate 33 = .ok (.aload_n 0, 1) := by decide +kernel
theorem dX7_gate_34 : decode cX7_gate 34 = .ok (.getfield 18, 3) := by decide +kernel
theorem dX7_gate_37 : decode cX7_gate 37 = .ok (.getfield 117, 3) := by decide +kernel
theorem dX7_gate_40 : decode cX7_gate 40 = .ok (.isub, 1) := by decide +kernel
theorem dX7_gate_41 : decode cX7_gate 41 = .ok (.ireturn, 1) := by decide +kernel
theorem dX7_gate_42 : decode cX7_gate 42 = .ok (.aload_n 0, 1) := by decide +kernel
theorem dX7_gate_43 : decode cX7_gate 43 = .ok (.getfield 25, 3) := by decide +kernel
theorem dX7_gate_46 : decode cX7_gate 46 = .ok (.aload_n 0, 1) := by decide +kernel
theorem dX7_gate_47 : decode cX7_gate 47 = .ok (.getfield 18, 3) := by decide +kernel
theorem dX7_gate_50 : decode cX7_gate 50 = .ok (.getfield 120, 3) := by decide +kernel
theorem dX7_gate_53 : decode cX7_gate 53 = .ok (.invokevirtual 123, 3) := by decide +kernel
theorem dX7_gate_56 : decode cX7_gate 56 = .ok (.aload_n 0, 1) := by decide +kernel
theorem dX7_gate_57 : decode cX7_gate 57 = .ok (.getfield 32, 3) := by decide +kernel
theorem dX7_gate_60 : decode cX7_gate 60 = .ok (.invokevirtual 127, 3) := by decide +kernel
theorem dX7_gate_63 : decode cX7_gate 63 = .ok (.aload_n 0, 1) := by decide +kernel
theorem dX7_gate_64 : decode cX7_gate 64 = .ok (.getfield 25, 3) := by decide +kernel
theorem dX7_gate_67 : decode cX7_gate 67 = .ok (.getfield 130, 3) := by decide +kernel
theorem dX7_gate_70 : decode cX7_gate 70 = .ok (.ireturn, 1) := by decide +kernel
theorem dX7_fault_0 : decode cX7_fault 0 = .ok (.aload_n 0, 1) := by decide +kernel
theorem dX7_fault_1 : decode cX7_fault 1 = .ok (.getfield 113, 3) := by decide +kernel
theorem dX7_fault_4 : decode cX7_fault 4 = .ok (.ireturn, 1) := by decide +kernel
set_option maxRecDepth 20000 in
theorem ggX7_nights_X7_noGate : GoodIn wsX7_nights wsX7_noGate := goodIn_r _ [12, 3, 13, 64, 65, 66, 67, 68, 69, 70, 71, 72, 73, 74, 75, 76, 77, 78, 79, 80] (by decide +kernel) (by decide +kernel)
set_option maxRecDepth 20000 in
theorem gX7_nights_X7_noGate : GoodIn wsX7_nights (wsV RX7 133 RX7 yX7_noGate wsX7_noGate) := goodIn_app (goodIn_of _ (by decide +kernel)) ggX7_nights_X7_noGate
set_option maxRecDepth 20000 in
theorem ggX7_nights_X0_keep : GoodIn wsX7_nights wsX0_keep := goodIn_r _ [18, 19, 20, 21, 22, 23, 24, 25, 26, 27, 28, 29, 30, 31, 32, 33, 34, 35, 36, 37, 38, 39, 40, 41, 42, 89, 90, 91, 81, 82, 83, 84, 85, 86, 87, 88] (by decide +kernel) (by decide +kernel)
set_option maxRecDepth 20000 in
theorem gX7_nights_X0_keep : GoodIn wsX7_nights (wsV RX7 146 RX0 yX0_keep wsX0_keep) := goodIn_app (goodIn_of _ (by decide +kernel)) ggX7_nights_X0_keep
set_option maxRecDepth 20000 in
theorem ggX7_nights_X4_goBy : GoodIn wsX7_nights wsX4_goBy := goodIn_r _ [46, 31, 34, 81, 82, 83, 84, 85, 86, 87, 88] (by decide +kernel) (by decide +kernel)
set_option maxRecDepth 20000 in
theorem gX7_nights_X4_goBy : GoodIn wsX7_nights (wsV RX7 150 RX4 yX4_goBy wsX4_goBy) := goodIn_app (goodIn_of _ (by decide +kernel)) ggX7_nights_X4_goBy
set_option maxRecDepth 20000 in
theorem ggX7_nights_X2_secretIn : GoodIn wsX7_nights wsX2_secretIn := goodIn_r _ [51, 52, 53, 54, 55, 56, 57, 58, 59, 50, 60, 61, 62, 11, 63, 73, 74, 75, 76, 77, 78, 79, 80, 81, 82, 83, 84, 85, 86, 87, 88] (by decide +kernel) (by decide +kernel)
set_option maxRecDepth 20000 in
theorem gX7_nights_X2_secretIn : GoodIn wsX7_nights (wsV RX7 153 RX2 yX2_secretIn wsX2_secretIn) := goodIn_app (goodIn_of _ (by decide +kernel)) ggX7_nights_X2_secretIn
theorem dX7_nights_0 : decode cX7_nights 0 = .ok (.aload_n 0, 1) := by decide +kernel
theorem dX7_nights_1 : decode cX7_nights 1 = .ok (.invokevirtual 133, 3) := by decide +kernel
theorem dX7_nights_4 : decode cX7_nights 4 = .ok (.ifCond .eq 6, 3) := by decide +kernel
theorem dX7_nights_7 : decode cX7_nights 7 = .ok (.ldc 136, 2) := by decide +kernel
theorem dX7_nights_9 : decode cX7_nights 9 = .ok (.ireturn, 1) := by decide +kernel
theorem dX7_nights_10 : decode cX7_nights 10 = .ok (.iload_n 1, 1) := by decide +kernel
theorem dX7_nights_11 : decode cX7_nights 11 = .ok (.iconst 1, 1) := by decide +kernel
theorem dX7_nights_12 : decode cX7_nights 12 = .ok (.if_icmp .lt 9, 3) := by decide +kernel
theorem dX7_nights_15 : decode cX7_nights 15 = .ok (.iload_n 1, 1) := by decide +kernel
theorem dX7_nights_16 : decode cX7_nights 16 = .ok (.bipush 24, 2) := by decide +kernel
theorem dX7_nights_18 : decode cX7_nights 18 = .ok (.if_icmp .le 6, 3) := by decide +kernel
theorem dX7_nights_21 : decode cX7_nights 21 = .ok (.ldc 59, 2) := by decide +kernel
theorem dX7_nights_23 : decode cX7_nights 23 = .ok (.ireturn, 1) := by decide +kernel
theorem dX7_nights_24 : decode cX7_nights 24 = .ok (.aload_n 0, 1) := by decide +kernel
theorem dX7_nights_25 : decode cX7_nights 25 = .ok (.getfield 25, 3) := by decide +kernel
theorem dX7_nights_28 : decode cX7_nights 28 = .ok (.getfield 137, 3) := by decide +kernel
theorem dX7_nights_31 : decode cX7_nights 31 = .ok (.getfield 141, 3) := by decide +kernel
theorem dX7_nights_34 : decode cX7_nights 34 = .ok (.iload_n 1, 1) := by decide +kernel
theorem dX7_nights_35 : decode cX7_nights 35 = .ok (.iadd, 1) := by decide +kernel
theorem dX7_nights_36 : decode cX7_nights 36 = .ok (.sipush 999, 3) := by decide +kernel
theorem dX7_nights_39 : decode cX7_nights 39 = .ok (.if_icmp .le 6, 3) := by decide +kernel
theorem dX7_nights_42 : decode cX7_nights 42 = .ok (.ldc 105, 2) := by decide +kernel
theorem dX7_nights_44 : decode cX7_nights 44 = .ok (.ireturn, 1) := by decide +kernel
theorem dX7_nights_45 : decode cX7_nights 45 = .ok (.iconst 0, 1) := by decide +kernel
theorem dX7_nights_46 : decode cX7_nights 46 = .ok (.istore_n 2, 1) := by decide +kernel
theorem dX7_nights_47 : decode cX7_nights 47 = .ok (.iload_n 2, 1) := by decide +kernel
theorem dX7_nights_48 : decode cX7_nights 48 = .ok (.iload_n 1, 1) := by decide +kernel
theorem dX7_nights_49 : decode cX7_nights 49 = .ok (.if_icmp .ge 33, 3) := by decide +kernel
theorem dX7_nights_52 : decode cX7_nights 52 = .ok (.aload_n 0, 1) := by decide +kernel
theorem dX7_nights_53 : decode cX7_nights 53 = .ok (.getfield 32, 3) := by decide +kernel
theorem dX7_nights_56 : decode cX7_nights 56 = .ok (.aload_n 0, 1) := by decide +kernel
theorem dX7_nights_57 : decode cX7_nights 57 = .ok (.getfield 25, 3) := by decide +kernel
theorem dX7_nights_60 : decode cX7_nights 60 = .ok (.getfield 137, 3) := by decide +kernel
theorem dX7_nights_63 : decode cX7_nights 63 = .ok (.invokevirtual 146, 3) := by decide +kernel
theorem dX7_nights_66 : decode cX7_nights 66 = .ok (.aload_n 0, 1) := by decide +kernel
theorem dX7_nights_67 : decode cX7_nights 67 = .ok (.getfield 25, 3) := by decide +kernel
theorem dX7_nights_70 : decode cX7_nights 70 = .ok (.getfield 137, 3) := by decide +kernel
theorem dX7_nights_73 : decode cX7_nights 73 = .ok (.invokevirtual 150, 3) := by decide +kernel
theorem dX7_nights_76 : decode cX7_nights 76 = .ok (.iinc 2 1, 3) := by decide +kernel
theorem dX7_nights_79 : decode cX7_nights 79 = .ok (.goto (-32), 3) := by decide +kernel
theorem dX7_nights_82 : decode cX7_nights 82 = .ok (.aload_n 0, 1) := by decide +kernel
theorem dX7_nights_83 : decode cX7_nights 83 = .ok (.getfield 25, 3) := by decide +kernel
theorem dX7_nights_86 : decode cX7_nights 86 = .ok (.iconst 0, 1) := by decide +kernel
theorem dX7_nights_87 : decode cX7_nights 87 = .ok (.invokevirtual 153, 3) := by decide +kernel
theorem dX7_nights_90 : decode cX7_nights 90 = .ok (.ireturn, 1) := by decide +kernel
set_option maxRecDepth 20000 in
theorem ggX7_say_X7_isWord : GoodIn wsX7_say wsX7_isWord := goodIn_r _ [13, 2, 14, 106, 107, 108, 109, 110, 111, 112, 113, 114, 115, 116, 117, 118, 119, 120, 121, 122] (by decide +kernel) (by decide +kernel)
set_option maxRecDepth 20000 in
theorem gX7_say_X7_isWord : GoodIn wsX7_say (wsV RX7 156 RX7 yX7_isWord wsX7_isWord) := goodIn_app (goodIn_of _ (by decide +kernel)) ggX7_say_X7_isWord
set_option maxRecDepth 20000 in
theorem ggX7_say_X7_isHour : GoodIn wsX7_say wsX7_isHour := goodIn_r _ [18] (by decide +kernel) (by decide +kernel)
set_option maxRecDepth 20000 in
theorem gX7_say_X7_isHour : GoodIn wsX7_say (wsV RX7 159 RX7 yX7_isHour wsX7_isHour) := goodIn_app (goodIn_of _ (by decide +kernel)) ggX7_say_X7_isHour
set_option maxRecDepth 20000 in
theorem ggX7_say_X2_guardOn : GoodIn wsX7_say wsX2_guardOn := goodIn_r _ [23, 24, 25, 12, 26, 115, 116, 117, 118, 119, 120, 121, 122] (by decide +kernel) (by decide +kernel)
set_option maxRecDepth 20000 in
theorem gX7_say_X2_guardOn : GoodIn wsX7_say (wsV RX7 165 RX2 yX2_guardOn wsX2_guardOn) := goodIn_app (goodIn_of _ (by decide +kernel)) ggX7_say_X2_guardOn
set_option maxRecDepth 20000 in
theorem ggX7_say_X2_catches : GoodIn wsX7_say wsX2_catches := goodIn_r _ [30, 31, 32, 33, 34, 35, 22, 36, 37, 38, 39, 40, 41, 42, 43, 44, 25, 12, 26, 45, 46, 47, 48, 49, 50, 20, 21, 23, 24, 51, 52, 53, 54, 55, 56, 57, 58, 59, 60, 61, 62, 63, 64, 65, 66, 67, 68, 115, 116, 117, 118, 119, 120, 121, 122, 123, 124, 125, 126, 127, 128, 129, 130] (by decide +kernel) (by decide +kernel)
set_option maxRecDepth 20000 in
theorem gX7_say_X2_catches : GoodIn wsX7_say (wsV RX7 168 RX2 yX2_catches wsX2_catches) := goodIn_app (goodIn_of _ (by decide +kernel)) ggX7_say_X2_catches
set_option maxRecDepth 20000 in
theorem ggX7_say_X0_keep : GoodIn wsX7_say wsX0_keep := goodIn_r _ [73, 74, 75, 76, 77, 78, 79, 80, 81, 82, 83, 84, 85, 86, 87, 88, 89, 90, 91, 92, 93, 94, 95, 96, 97, 131, 132, 133, 123, 124, 125, 126, 127, 128, 129, 130] (by decide +kernel) (by decide +kernel)
set_option maxRecDepth 20000 in
theorem gX7_say_X0_keep : GoodIn wsX7_say (wsV RX7 146 RX0 yX0_keep wsX0_keep) := goodIn_app (goodIn_of _ (by decide +kernel)) ggX7_say_X0_keep
set_option maxRecDepth 20000 in
theorem ggX7_say_X2_isThere : GoodIn wsX7_say wsX2_isThere := goodIn_r _ [54, 31, 55, 115, 116, 117, 118, 119, 120, 121, 122, 123, 124, 125, 126, 127, 128, 129, 130] (by decide +kernel) (by decide +kernel)
set_option maxRecDepth 20000 in
theorem gX7_say_X2_isThere : GoodIn wsX7_say (wsV RX7 172 RX2 yX2_isThere wsX2_isThere) := goodIn_app (goodIn_of _ (by decide +kernel)) ggX7_say_X2_isThere
set_option maxRecDepth 20000 in
theorem ggX7_say_X4_addTry : GoodIn wsX7_say wsX4_addTry := goodIn_r _ [102, 89, 95, 96, 97, 90, 103, 12, 104, 123, 124, 125, 126, 127, 128, 129, 130] (by decide +kernel) (by decide +kernel)
set_option maxRecDepth 20000 in
theorem gX7_say_X4_addTry : GoodIn wsX7_say (wsV RX7 176 RX4 yX4_addTry wsX4_addTry) := goodIn_app (goodIn_of _ (by decide +kernel)) ggX7_say_X4_addTry
set_option maxRecDepth 20000 in
theorem ggX7_say_X7_bit : GoodIn wsX7_say wsX7_bit := goodIn_r _ [104] (by decide +kernel) (by decide +kernel)
set_option maxRecDepth 20000 in
theorem gX7_say_X7_bit : GoodIn wsX7_say (va_wsS RX7 180 yX7_bit wsX7_bit) := goodIn_app (goodIn_of _ (by decide +kernel)) ggX7_say_X7_bit
theorem dX7_say_0 : decode cX7_say 0 = .ok (.aload_n 0, 1) := by decide +kernel
theorem dX7_say_1 : decode cX7_say 1 = .ok (.iload_n 1, 1) := by decide +kernel
theorem dX7_say_2 : decode cX7_say 2 = .ok (.invokevirtual 156, 3) := by decide +kernel
theorem dX7_say_5 : decode cX7_say 5 = .ok (.ifCond .eq 11, 3) := by decide +kernel
theorem dX7_say_8 : decode cX7_say 8 = .ok (.aload_n 0, 1) := by decide +kernel
theorem dX7_say_9 : decode cX7_say 9 = .ok (.iload_n 2, 1) := by decide +kernel
theorem dX7_say_10 : decode cX7_say 10 = .ok (.invokevirtual 159, 3) := by decide +kernel
theorem dX7_say_13 : decode cX7_say 13 = .ok (.ifCond .ne 6, 3) := by decide +kernel
theorem dX7_say_16 : decode cX7_say 16 = .ok (.ldc 59, 2) := by decide +kernel
theorem dX7_say_18 : decode cX7_say 18 = .ok (.ireturn, 1) := by decide +kernel
theorem dX7_say_19 : decode cX7_say 19 = .ok (.aload_n 0, 1) := by decide +kernel
theorem dX7_say_20 : decode cX7_say 20 = .ok (.getfield 25, 3) := by decide +kernel
theorem dX7_say_23 : decode cX7_say 23 = .ok (.getfield 137, 3) := by decide +kernel
theorem dX7_say_26 : decode cX7_say 26 = .ok (.getfield 162, 3) := by decide +kernel
theorem dX7_say_29 : decode cX7_say 29 = .ok (.bipush 9, 2) := by decide +kernel
theorem dX7_say_31 : decode cX7_say 31 = .ok (.if_icmp .lt 6, 3) := by decide +kernel
theorem dX7_say_34 : decode cX7_say 34 = .ok (.ldc 105, 2) := by decide +kernel
theorem dX7_say_36 : decode cX7_say 36 = .ok (.ireturn, 1) := by decide +kernel
theorem dX7_say_37 : decode cX7_say 37 = .ok (.aload_n 0, 1) := by decide +kernel
theorem dX7_say_38 : decode cX7_say 38 = .ok (.getfield 25, 3) := by decide +kernel
theorem dX7_say_41 : decode cX7_say 41 = .ok (.aload_n 0, 1) := by decide +kernel
theorem dX7_say_42 : decode cX7_say 42 = .ok (.getfield 25, 3) := by decide +kernel
theorem dX7_say_45 : decode cX7_say 45 = .ok (.getfield 137, 3) := by decide +kernel
theorem dX7_say_48 : decode cX7_say 48 = .ok (.getfield 141, 3) := by decide +kernel
theorem dX7_say_51 : decode cX7_say 51 = .ok (.iload_n 2, 1) := by decide +kernel
theorem dX7_say_52 : decode cX7_say 52 = .ok (.invokevirtual 165, 3) := by decide +kernel
theorem dX7_say_55 : decode cX7_say 55 = .ok (.istore_n 3, 1) := by decide +kernel
theorem dX7_say_56 : decode cX7_say 56 = .ok (.aload_n 0, 1) := by decide +kernel
theorem dX7_say_57 : decode cX7_say 57 = .ok (.getfield 25, 3) := by decide +kernel
theorem dX7_say_60 : decode cX7_say 60 = .ok (.iload_n 1, 1) := by decide +kernel
theorem dX7_say_61 : decode cX7_say 61 = .ok (.iload_n 2, 1) := by decide +kernel
theorem dX7_say_62 : decode cX7_say 62 = .ok (.iconst 0, 1) := by decide +kernel
theorem dX7_say_63 : decode cX7_say 63 = .ok (.invokevirtual 168, 3) := by decide +kernel
theorem dX7_say_66 : decode cX7_say 66 = .ok (.istore 4, 2) := by decide +kernel
theorem dX7_say_68 : decode cX7_say 68 = .ok (.aload_n 0, 1) := by decide +kernel
theorem dX7_say_69 : decode cX7_say 69 = .ok (.getfield 32, 3) := by decide +kernel
theorem dX7_say_72 : decode cX7_say 72 = .ok (.aload_n 0, 1) := by decide +kernel
theorem dX7_say_73 : decode cX7_say 73 = .ok (.getfield 25, 3) := by decide +kernel
theorem dX7_say_76 : decode cX7_say 76 = .ok (.getfield 137, 3) := by decide +kernel
theorem dX7_say_79 : decode cX7_say 79 = .ok (.invokevirtual 146, 3) := by decide +kernel
theorem dX7_say_82 : decode cX7_say 82 = .ok (.aload_n 0, 1) := by decide +kernel
theorem dX7_say_83 : decode cX7_say 83 = .ok (.getfield 25, 3) := by decide +kernel
theorem dX7_say_86 : decode cX7_say 86 = .ok (.getfield 137, 3) := by decide +kernel
theorem dX7_say_89 : decode cX7_say 89 = .ok (.iload_n 1, 1) := by decide +kernel
theorem dX7_say_90 : decode cX7_say 90 = .ok (.aload_n 0, 1) := by decide +kernel
theorem dX7_say_91 : decode cX7_say 91 = .ok (.getfield 25, 3) := by decide +kernel
theorem dX7_say_94 : decode cX7_say 94 = .ok (.iload_n 3, 1) := by decide +kernel
theorem dX7_say_95 : decode cX7_say 95 = .ok (.invokevirtual 172, 3) := by decide +kernel
theorem dX7_say_98 : decode cX7_say 98 = .ok (.ifCond .eq 7, 3) := by decide +kernel
theorem dX7_say_101 : decode cX7_say 101 = .ok (.iload_n 3, 1) := by decide +kernel
theorem dX7_say_102 : decode cX7_say 102 = .ok (.goto 5, 3) := by decide +kernel
theorem dX7_say_105 : decode cX7_say 105 = .ok (.ldc 175, 2) := by decide +kernel
theorem dX7_say_107 : decode cX7_say 107 = .ok (.iload 4, 2) := by decide +kernel
theorem dX7_say_109 : decode cX7_say 109 = .ok (.invokevirtual 176, 3) := by decide +kernel
theorem dX7_say_112 : decode cX7_say 112 = .ok (.iload 4, 2) := by decide +kernel
theorem dX7_say_114 : decode cX7_say 114 = .ok (.invokestatic 180, 3) := by decide +kernel
theorem dX7_say_117 : decode cX7_say 117 = .ok (.ireturn, 1) := by decide +kernel
set_option maxRecDepth 20000 in
theorem ggX7_start_X7_noGate : GoodIn wsX7_start wsX7_noGate := goodIn_r _ [11, 3, 12, 42, 43, 44, 45, 46, 47, 48, 49, 50, 51, 52, 53, 54, 55, 56, 57, 58] (by decide +kernel) (by decide +kernel)
set_option maxRecDepth 20000 in
theorem gX7_start_X7_noGate : GoodIn wsX7_start (wsV RX7 133 RX7 yX7_noGate wsX7_noGate) := goodIn_app (goodIn_of _ (by decide +kernel)) ggX7_start_X7_noGate
set_option maxRecDepth 20000 in
theorem ggX7_start_X0_keep : GoodIn wsX7_start wsX0_keep := goodIn_r _ [17, 18, 19, 20, 21, 22, 23, 24, 25, 26, 27, 28, 29, 30, 31, 32, 33, 34, 35, 36, 37, 38, 39, 40, 41, 67, 68, 69, 59, 60, 61, 62, 63, 64, 65, 66] (by decide +kernel) (by decide +kernel)
set_option maxRecDepth 20000 in
theorem gX7_start_X0_keep : GoodIn wsX7_start (wsV RX7 146 RX0 yX0_keep wsX0_keep) := goodIn_app (goodIn_of _ (by decide +kernel)) ggX7_start_X0_keep
theorem dX7_start_0 : decode cX7_start 0 = .ok (.aload_n 0, 1) := by decide +kernel
theorem dX7_start_1 : decode cX7_start 1 = .ok (.invokevirtual 133, 3) := by decide +kernel
theorem dX7_start_4 : decode cX7_start 4 = .ok (.ifCond .eq 6, 3) := by decide +kernel
theorem dX7_start_7 : decode cX7_start 7 = .ok (.ldc 136, 2) := by decide +kernel
theorem dX7_start_9 : decode cX7_start 9 = .ok (.ireturn, 1) := by decide +kernel
theorem dX7_start_10 : decode cX7_start 10 = .ok (.iload_n 1, 1) := by decide +kernel
theorem dX7_start_11 : decode cX7_start 11 = .ok (.ifCond .lt 9, 3) := by decide +kernel
theorem dX7_start_14 : decode cX7_start 14 = .ok (.iload_n 1, 1) := by decide +kernel
theorem dX7_start_15 : decode cX7_start 15 = .ok (.bipush 9, 2) := by decide +kernel
theorem dX7_start_17 : decode cX7_start 17 = .ok (.if_icmp .le 6, 3) := by decide +kernel
theorem dX7_start_20 : decode cX7_start 20 = .ok (.ldc 59, 2) := by decide +kernel
theorem dX7_start_22 : decode cX7_start 22 = .ok (.ireturn, 1) := by decide +kernel
theorem dX7_start_23 : decode cX7_start 23 = .ok (.aload_n 0, 1) := by decide +kernel
theorem dX7_start_24 : decode cX7_start 24 = .ok (.getfield 25, 3) := by decide +kernel
theorem dX7_start_27 : decode cX7_start 27 = .ok (.getfield 137, 3) := by decide +kernel
theorem dX7_start_30 : decode cX7_start 30 = .ok (.getfield 184, 3) := by decide +kernel
theorem dX7_start_33 : decode cX7_start 33 = .ok (.istore_n 2, 1) := by decide +kernel
theorem dX7_start_34 : decode cX7_start 34 = .ok (.aload_n 0, 1) := by decide +kernel
theorem dX7_start_35 : decode cX7_start 35 = .ok (.getfield 32, 3) := by decide +kernel
theorem dX7_start_38 : decode cX7_start 38 = .ok (.aload_n 0, 1) := by decide +kernel
theorem dX7_start_39 : decode cX7_start 39 = .ok (.getfield 25, 3) := by decide +kernel
theorem dX7_start_42 : decode cX7_start 42 = .ok (.getfield 137, 3) := by decide +kernel
theorem dX7_start_45 : decode cX7_start 45 = .ok (.invokevirtual 146, 3) := by decide +kernel
theorem dX7_start_48 : decode cX7_start 48 = .ok (.aload_n 0, 1) := by decide +kernel
theorem dX7_start_49 : decode cX7_start 49 = .ok (.getfield 25, 3) := by decide +kernel
theorem dX7_start_52 : decode cX7_start 52 = .ok (.getfield 137, 3) := by decide +kernel
theorem dX7_start_55 : decode cX7_start 55 = .ok (.iload_n 1, 1) := by decide +kernel
theorem dX7_start_56 : decode cX7_start 56 = .ok (.putfield 184, 3) := by decide +kernel
theorem dX7_start_59 : decode cX7_start 59 = .ok (.iload_n 2, 1) := by decide +kernel
theorem dX7_start_60 : decode cX7_start 60 = .ok (.ireturn, 1) := by decide +kernel
set_option maxRecDepth 20000 in
theorem ggX7_dismiss_X7_isGuard : GoodIn wsX7_dismiss wsX7_isGuard := goodIn_r _ [11, 2, 12, 52, 53, 54, 55, 56, 57, 58, 59, 60, 61, 62, 63, 64, 65, 66, 67, 68] (by decide +kernel) (by decide +kernel)
set_option maxRecDepth 20000 in
theorem gX7_dismiss_X7_isGuard : GoodIn wsX7_dismiss (wsV RX7 187 RX7 yX7_isGuard wsX7_isGuard) := goodIn_app (goodIn_of _ (by decide +kernel)) ggX7_dismiss_X7_isGuard
set_option maxRecDepth 20000 in
theorem ggX7_dismiss_X2_isThere : GoodIn wsX7_dismiss wsX2_isThere := goodIn_r _ [17, 18, 19, 61, 62, 63, 64, 65, 66, 67, 68, 69, 70, 71, 72, 73, 74, 75, 76] (by decide +kernel) (by decide +kernel)
set_option maxRecDepth 20000 in
theorem gX7_dismiss_X2_isThere : GoodIn wsX7_dismiss (wsV RX7 172 RX2 yX2_isThere wsX2_isThere) := goodIn_app (goodIn_of _ (by decide +kernel)) ggX7_dismiss_X2_isThere
set_option maxRecDepth 20000 in
theorem ggX7_dismiss_X7_bit : GoodIn wsX7_dismiss wsX7_bit := goodIn_r _ [22] (by decide +kernel) (by decide +kernel)
set_option maxRecDepth 20000 in
theorem gX7_dismiss_X7_bit : GoodIn wsX7_dismiss (va_wsS RX7 180 yX7_bit wsX7_bit) := goodIn_app (goodIn_of _ (by decide +kernel)) ggX7_dismiss_X7_bit
set_option maxRecDepth 20000 in
theorem ggX7_dismiss_X0_keep : GoodIn wsX7_dismiss wsX0_keep := goodIn_r _ [27, 28, 29, 30, 31, 32, 33, 34, 35, 36, 37, 38, 39, 40, 41, 42, 43, 44, 45, 46, 47, 48, 49, 50, 51, 77, 78, 79, 69, 70, 71, 72, 73, 74, 75, 76] (by decide +kernel) (by decide +kernel)
set_option maxRecDepth 20000 in
theorem gX7_dismiss_X0_keep : GoodIn wsX7_dismiss (wsV RX7 146 RX0 yX0_keep wsX0_keep) := goodIn_app (goodIn_of _ (by decide +kernel)) ggX7_dismiss_X0_keep
theorem dX7_dismiss_0 : decode cX7_dismiss 0 = .ok (.aload_n 0, 1) := by decide +kernel
theorem dX7_dismiss_1 : decode cX7_dismiss 1 = .ok (.iload_n 1, 1) := by decide +kernel
theorem dX7_dismiss_2 : decode cX7_dismiss 2 = .ok (.invokevirtual 187, 3) := by decide +kernel
theorem dX7_dismiss_5 : decode cX7_dismiss 5 = .ok (.ifCond .eq 12, 3) := by decide +kernel
theorem dX7_dismiss_8 : decode cX7_dismiss 8 = .ok (.iload_n 2, 1) := by decide +kernel
theorem dX7_dismiss_9 : decode cX7_dismiss 9 = .ok (.ifCond .lt 8, 3) := by decide +kernel
theorem dX7_dismiss_12 : decode cX7_dismiss 12 = .ok (.iload_n 2, 1) := by decide +kernel
theorem dX7_dismiss_13 : decode cX7_dismiss 13 = .ok (.iconst 1, 1) := by decide +kernel
theorem dX7_dismiss_14 : decode cX7_dismiss 14 = .ok (.if_icmp .le 6, 3) := by decide +kernel
theorem dX7_dismiss_17 : decode cX7_dismiss 17 = .ok (.ldc 59, 2) := by decide +kernel
theorem dX7_dismiss_19 : decode cX7_dismiss 19 = .ok (.ireturn, 1) := by decide +kernel
theorem dX7_dismiss_20 : decode cX7_dismiss 20 = .ok (.aload_n 0, 1) := by decide +kernel
theorem dX7_dismiss_21 : decode cX7_dismiss 21 = .ok (.getfield 25, 3) := by decide +kernel
theorem dX7_dismiss_24 : decode cX7_dismiss 24 = .ok (.iload_n 1, 1) := by decide +kernel
theorem dX7_dismiss_25 : decode cX7_dismiss 25 = .ok (.invokevirtual 172, 3) := by decide +kernel
theorem dX7_dismiss_28 : decode cX7_dismiss 28 = .ok (.invokestatic 180, 3) := by decide +kernel
theorem dX7_dismiss_31 : decode cX7_dismiss 31 = .ok (.iload_n 2, 1) := by decide +kernel
theorem dX7_dismiss_32 : decode cX7_dismiss 32 = .ok (.if_icmp .ne 6, 3) := by decide +kernel
theorem dX7_dismiss_35 : decode cX7_dismiss 35 = .ok (.ldc 136, 2) := by decide +kernel
theorem dX7_dismiss_37 : decode cX7_dismiss 37 = .ok (.ireturn, 1) := by decide +kernel
theorem dX7_dismiss_38 : decode cX7_dismiss 38 = .ok (.aload_n 0, 1) := by decide +kernel
theorem dX7_dismiss_39 : decode cX7_dismiss 39 = .ok (.getfield 32, 3) := by decide +kernel
theorem dX7_dismiss_42 : decode cX7_dismiss 42 = .ok (.aload_n 0, 1) := by decide +kernel
theorem dX7_dismiss_43 : decode cX7_dismiss 43 = .ok (.getfield 25, 3) := by decide +kernel
theorem dX7_dismiss_46 : decode cX7_dismiss 46 = .ok (.getfield 137, 3) := by decide +kernel
theorem dX7_dismiss_49 : decode cX7_dismiss 49 = .ok (.invokevirtual 146, 3) := by decide +kernel
theorem dX7_dismiss_52 : decode cX7_dismiss 52 = .ok (.aload_n 0, 1) := by decide +kernel
theorem dX7_dismiss_53 : decode cX7_dismiss 53 = .ok (.getfield 25, 3) := by decide +kernel
theorem dX7_dismiss_56 : decode cX7_dismiss 56 = .ok (.getfield 137, 3) := by decide +kernel
theorem dX7_dismiss_59 : decode cX7_dismiss 59 = .ok (.dup, 1) := by decide +kernel
theorem dX7_dismiss_60 : decode cX7_dismiss 60 = .ok (.getfield 190, 3) := by decide +kernel
theorem dX7_dismiss_63 : decode cX7_dismiss 63 = .ok (.iconst 1, 1) := by decide +kernel
theorem dX7_dismiss_64 : decode cX7_dismiss 64 = .ok (.iload_n 1, 1) := by decide +kernel
theorem dX7_dismiss_65 : decode cX7_dismiss 65 = .ok (.ishl, 1) := by decide +kernel
theorem dX7_dismiss_66 : decode cX7_dismiss 66 = .ok (.ixor, 1) := by decide +kernel
theorem dX7_dismiss_67 : decode cX7_dismiss 67 = .ok (.putfield 190, 3) := by decide +kernel
theorem dX7_dismiss_70 : decode cX7_dismiss 70 = .ok (.aload_n 0, 1) := by decide +kernel
theorem dX7_dismiss_71 : decode cX7_dismiss 71 = .ok (.getfield 25, 3) := by decide +kernel
theorem dX7_dismiss_74 : decode cX7_dismiss 74 = .ok (.getfield 137, 3) := by decide +kernel
theorem dX7_dismiss_77 : decode cX7_dismiss 77 = .ok (.getfield 190, 3) := by decide +kernel
theorem dX7_dismiss_80 : decode cX7_dismiss 80 = .ok (.ireturn, 1) := by decide +kernel
set_option maxRecDepth 20000 in
theorem ggX7_undo_X0_takeBack : GoodIn wsX7_undo wsX0_takeBack := goodIn_r _ [10, 11, 12, 13, 14, 15, 16, 17, 18, 19, 20, 21, 22, 23, 24, 25, 26, 27, 28, 29, 30, 48, 49, 50, 51, 52, 53, 54, 55, 56, 57, 58] (by decide +kernel) (by decide +kernel)
set_option maxRecDepth 20000 in
theorem gX7_undo_X0_takeBack : GoodIn wsX7_undo (wsV RX7 193 RX0 yX0_takeBack wsX0_takeBack) := goodIn_app (goodIn_of _ (by decide +kernel)) ggX7_undo_X0_takeBack
theorem dX7_undo_0 : decode cX7_undo 0 = .ok (.aload_n 0, 1) := by decide +kernel
theorem dX7_undo_1 : decode cX7_undo 1 = .ok (.getfield 32, 3) := by decide +kernel
theorem dX7_undo_4 : decode cX7_undo 4 = .ok (.aload_n 0, 1) := by decide +kernel
theorem dX7_undo_5 : decode cX7_undo 5 = .ok (.getfield 25, 3) := by decide +kernel
theorem dX7_undo_8 : decode cX7_undo 8 = .ok (.getfield 137, 3) := by decide +kernel
theorem dX7_undo_11 : decode cX7_undo 11 = .ok (.invokevirtual 193, 3) := by decide +kernel
theorem dX7_undo_14 : decode cX7_undo 14 = .ok (.ifCond .eq 13, 3) := by decide +kernel
theorem dX7_undo_17 : decode cX7_undo 17 = .ok (.aload_n 0, 1) := by decide +kernel
theorem dX7_undo_18 : decode cX7_undo 18 = .ok (.getfield 32, 3) := by decide +kernel
theorem dX7_undo_21 : decode cX7_undo 21 = .ok (.getfield 197, 3) := by decide +kernel
theorem dX7_undo_24 : decode cX7_undo 24 = .ok (.goto 5, 3) := by decide +kernel
theorem dX7_undo_27 : decode cX7_undo 27 = .ok (.ldc 136, 2) := by decide +kernel
theorem dX7_undo_29 : decode cX7_undo 29 = .ok (.ireturn, 1) := by decide +kernel
set_option maxRecDepth 20000 in
theorem ggX7_letter_X7_isWord : GoodIn wsX7_letter wsX7_isWord := goodIn_r _ [8, 2, 9, 10, 11, 12, 13, 14, 15, 16, 17, 18, 19, 20, 21, 22, 23, 24, 25, 26] (by decide +kernel) (by decide +kernel)
set_option maxRecDepth 20000 in
theorem gX7_letter_X7_isWord : GoodIn wsX7_letter (wsV RX7 156 RX7 yX7_isWord wsX7_isWord) := goodIn_app (goodIn_of _ (by decide +kernel)) ggX7_letter_X7_isWord
theorem dX7_letter_0 : decode cX7_letter 0 = .ok (.aload_n 0, 1) := by decide +kernel
theorem dX7_letter_1 : decode cX7_letter 1 = .ok (.iload_n 1, 1) := by decide +kernel
theorem dX7_letter_2 : decode cX7_letter 2 = .ok (.invokevirtual 156, 3) := by decide +kernel
theorem dX7_letter_5 : decode cX7_letter 5 = .ok (.ifCond .eq 12, 3) := by decide +kernel
theorem dX7_letter_8 : decode cX7_letter 8 = .ok (.iload_n 2, 1) := by decide +kernel
theorem dX7_letter_9 : decode cX7_letter 9 = .ok (.ifCond .lt 8, 3) := by decide +kernel
theorem dX7_letter_12 : decode cX7_letter 12 = .ok (.iload_n 2, 1) := by decide +kernel
theorem dX7_letter_13 : decode cX7_letter 13 = .ok (.iconst 3, 1) := by decide +kernel
theorem dX7_letter_14 : decode cX7_letter 14 = .ok (.if_icmp .lt 6, 3) := by decide +kernel
theorem dX7_letter_17 : decode cX7_letter 17 = .ok (.ldc 59, 2) := by decide +kernel
theorem dX7_letter_19 : decode cX7_letter 19 = .ok (.ireturn, 1) := by decide +kernel
theorem dX7_letter_20 : decode cX7_letter 20 = .ok (.aload_n 0, 1) := by decide +kernel
theorem dX7_letter_21 : decode cX7_letter 21 = .ok (.getfield 25, 3) := by decide +kernel
theorem dX7_letter_24 : decode cX7_letter 24 = .ok (.getfield 200, 3) := by decide +kernel
theorem dX7_letter_27 : decode cX7_letter 27 = .ok (.iload_n 1, 1) := by decide +kernel
theorem dX7_letter_28 : decode cX7_letter 28 = .ok (.iconst 3, 1) := by decide +kernel
theorem dX7_letter_29 : decode cX7_letter 29 = .ok (.imul, 1) := by decide +kernel
theorem dX7_letter_30 : decode cX7_letter 30 = .ok (.iload_n 2, 1) := by decide +kernel
theorem dX7_letter_31 : decode cX7_letter 31 = .ok (.iadd, 1) := by decide +kernel
theorem dX7_letter_32 : decode cX7_letter 32 = .ok (.iaload, 1) := by decide +kernel
theorem dX7_letter_33 : decode cX7_letter 33 = .ok (.ireturn, 1) := by decide +kernel
set_option maxRecDepth 20000 in
theorem ggX7_like_X7_isWord : GoodIn wsX7_like wsX7_isWord := goodIn_r _ [7, 2, 8, 19, 20, 21, 22, 23, 24, 25, 26, 27, 28, 29, 30, 31, 32, 33, 34, 35] (by decide +kernel) (by decide +kernel)
set_option maxRecDepth 20000 in
theorem gX7_like_X7_isWord : GoodIn wsX7_like (wsV RX7 156 RX7 yX7_isWord wsX7_isWord) := goodIn_app (goodIn_of _ (by decide +kernel)) ggX7_like_X7_isWord
set_option maxRecDepth 20000 in
theorem ggX7_like_X2_distance : GoodIn wsX7_like wsX2_distance := goodIn_r _ [13, 14, 28, 29, 30, 31, 32, 33, 34, 35] (by decide +kernel) (by decide +kernel)
set_option maxRecDepth 20000 in
theorem gX7_like_X2_distance : GoodIn wsX7_like (wsV RX7 203 RX2 yX2_distance wsX2_distance) := goodIn_app (goodIn_of _ (by decide +kernel)) ggX7_like_X2_distance
set_option maxRecDepth 20000 in
theorem ggX7_like_X2_lips : GoodIn wsX7_like wsX2_lips := goodIn_r _ [18, 14, 28, 29, 30, 31, 32, 33, 34, 35] (by decide +kernel) (by decide +kernel)
set_option maxRecDepth 20000 in
theorem gX7_like_X2_lips : GoodIn wsX7_like (wsV RX7 206 RX2 yX2_lips wsX2_lips) := goodIn_app (goodIn_of _ (by decide +kernel)) ggX7_like_X2_lips
theorem dX7_like_0 : decode cX7_like 0 = .ok (.aload_n 0, 1) := by decide +kernel
theorem dX7_like_1 : decode cX7_like 1 = .ok (.iload_n 1, 1) := by decide +kernel
theorem dX7_like_2 : decode cX7_like 2 = .ok (.invokevirtual 156, 3) := by decide +kernel
theorem dX7_like_5 : decode cX7_like 5 = .ok (.ifCond .eq 20, 3) := by decide +kernel
theorem dX7_like_8 : decode cX7_like 8 = .ok (.aload_n 0, 1) := by decide +kernel
theorem dX7_like_9 : decode cX7_like 9 = .ok (.iload_n 2, 1) := by decide +kernel
theorem dX7_like_10 : decode cX7_like 10 = .ok (.invokevirtual 156, 3) := by decide +kernel
theorem dX7_like_13 : decode cX7_like 13 = .ok (.ifCond .eq 12, 3) := by decide +kernel
theorem dX7_like_16 : decode cX7_like 16 = .ok (.iload_n 3, 1) := by decide +kernel
theorem dX7_like_17 : decode cX7_like 17 = .ok (.ifCond .lt 8, 3) := by decide +kernel
theorem dX7_like_20 : decode cX7_like 20 = .ok (.iload_n 3, 1) := by decide +kernel
theorem dX7_like_21 : decode cX7_like 21 = .ok (.iconst 1, 1) := by decide +kernel
theorem dX7_like_22 : decode cX7_like 22 = .ok (.if_icmp .le 6, 3) := by decide +kernel
theorem dX7_like_25 : decode cX7_like 25 = .ok (.ldc 59, 2) := by decide +kernel
theorem dX7_like_27 : decode cX7_like 27 = .ok (.ireturn, 1) := by decide +kernel
theorem dX7_like_28 : decode cX7_like 28 = .ok (.iload_n 3, 1) := by decide +kernel
theorem dX7_like_29 : decode cX7_like 29 = .ok (.ifCond .ne 15, 3) := by decide +kernel
theorem dX7_like_32 : decode cX7_like 32 = .ok (.aload_n 0, 1) := by decide +kernel
theorem dX7_like_33 : decode cX7_like 33 = .ok (.getfield 25, 3) := by decide +kernel
theorem dX7_like_36 : decode cX7_like 36 = .ok (.iload_n 1, 1) := by decide +kernel
theorem dX7_like_37 : decode cX7_like 37 = .ok (.iload_n 2, 1) := by decide +kernel
theorem dX7_like_38 : decode cX7_like 38 = .ok (.invokevirtual 203, 3) := by decide +kernel
theorem dX7_like_41 : decode cX7_like 41 = .ok (.goto 12, 3) := by decide +kernel
theorem dX7_like_44 : decode cX7_like 44 = .ok (.aload_n 0, 1) := by decide +kernel
theorem dX7_like_45 : decode cX7_like 45 = .ok (.getfield 25, 3) := by decide +kernel
theorem dX7_like_48 : decode cX7_like 48 = .ok (.iload_n 1, 1) := by decide +kernel
theorem dX7_like_49 : decode cX7_like 49 = .ok (.iload_n 2, 1) := by decide +kernel
theorem dX7_like_50 : decode cX7_like 50 = .ok (.invokevirtual 206, 3) := by decide +kernel
theorem dX7_like_53 : decode cX7_like 53 = .ok (.ireturn, 1) := by decide +kernel
set_option maxRecDepth 20000 in
theorem ggX7_guard_X7_isGuard : GoodIn wsX7_guard wsX7_isGuard := goodIn_r _ [10, 2, 11, 34, 35, 36, 37, 38, 39, 40, 41, 42, 43, 44, 45, 46, 47, 48, 49, 50] (by decide +kernel) (by decide +kernel)
set_option maxRecDepth 20000 in
theorem gX7_guard_X7_isGuard : GoodIn wsX7_guard (wsV RX7 187 RX7 yX7_isGuard wsX7_isGuard) := goodIn_app (goodIn_of _ (by decide +kernel)) ggX7_guard_X7_isGuard
set_option maxRecDepth 20000 in
theorem ggX7_guard_X2_isThere : GoodIn wsX7_guard wsX2_isThere := goodIn_r _ [16, 17, 18, 43, 44, 45, 46, 47, 48, 49, 50, 51, 52, 53, 54, 55, 56, 57, 58] (by decide +kernel) (by decide +kernel)
set_option maxRecDepth 20000 in
theorem gX7_guard_X2_isThere : GoodIn wsX7_guard (wsV RX7 172 RX2 yX2_isThere wsX2_isThere) := goodIn_app (goodIn_of _ (by decide +kernel)) ggX7_guard_X2_isThere
set_option maxRecDepth 20000 in
theorem ggX7_guard_X7_bit : GoodIn wsX7_guard wsX7_bit := goodIn_r _ [21] (by decide +kernel) (by decide +kernel)
set_option maxRecDepth 20000 in
theorem gX7_guard_X7_bit : GoodIn wsX7_guard (va_wsS RX7 180 yX7_bit wsX7_bit) := goodIn_app (goodIn_of _ (by decide +kernel)) ggX7_guard_X7_bit
set_option maxRecDepth 20000 in
theorem ggX7_guard_X2_hoursOf : GoodIn wsX7_guard wsX2_hoursOf := goodIn_r _ [25, 17, 26, 27, 28, 29, 15, 30, 31, 32, 9, 33, 20, 21, 43, 44, 45, 46, 47, 48, 49, 50, 51, 52, 53, 54, 55, 56, 57, 58] (by decide +kernel) (by decide +kernel)
set_option maxRecDepth 20000 in
theorem gX7_guard_X2_hoursOf : GoodIn wsX7_guard (wsV RX7 215 RX2 yX2_hoursOf wsX2_hoursOf) := goodIn_app (goodIn_of _ (by decide +kernel)) ggX7_guard_X2_hoursOf
theorem dX7_guard_0 : decode cX7_guard 0 = .ok (.aload_n 0, 1) := by decide +kernel
theorem dX7_guard_1 : decode cX7_guard 1 = .ok (.iload_n 1, 1) := by decide +kernel
theorem dX7_guard_2 : decode cX7_guard 2 = .ok (.invokevirtual 187, 3) := by decide +kernel
theorem dX7_guard_5 : decode cX7_guard 5 = .ok (.ifCond .ne 6, 3) := by decide +kernel
theorem dX7_guard_8 : decode cX7_guard 8 = .ok (.ldc 59, 2) := by decide +kernel
theorem dX7_guard_10 : decode cX7_guard 10 = .ok (.ireturn, 1) := by decide +kernel
theorem dX7_guard_11 : decode cX7_guard 11 = .ok (.iload_n 2, 1) := by decide +kernel
theorem dX7_guard_12 : decode cX7_guard 12 = .ok (.tableswitch 76 0 3 #[32, 42, 55, 67], 32) := by decide +kernel
theorem dX7_guard_44 : decode cX7_guard 44 = .ok (.aload_n 0, 1) := by decide +kernel
theorem dX7_guard_45 : decode cX7_guard 45 = .ok (.getfield 25, 3) := by decide +kernel
theorem dX7_guard_48 : decode cX7_guard 48 = .ok (.getfield 209, 3) := by decide +kernel
theorem dX7_guard_51 : decode cX7_guard 51 = .ok (.iload_n 1, 1) := by decide +kernel
theorem dX7_guard_52 : decode cX7_guard 52 = .ok (.iaload, 1) := by decide +kernel
theorem dX7_guard_53 : decode cX7_guard 53 = .ok (.ireturn, 1) := by decide +kernel
theorem dX7_guard_54 : decode cX7_guard 54 = .ok (.aload_n 0, 1) := by decide +kernel
theorem dX7_guard_55 : decode cX7_guard 55 = .ok (.getfield 25, 3) := by decide +kernel
theorem dX7_guard_58 : decode cX7_guard 58 = .ok (.getfield 137, 3) := by decide +kernel
theorem dX7_guard_61 : decode cX7_guard 61 = .ok (.getfield 212, 3) := by decide +kernel
theorem dX7_guard_64 : decode cX7_guard 64 = .ok (.iload_n 1, 1) := by decide +kernel
theorem dX7_guard_65 : decode cX7_guard 65 = .ok (.iaload, 1) := by decide +kernel
theorem dX7_guard_66 : decode cX7_guard 66 = .ok (.ireturn, 1) := by decide +kernel
theorem dX7_guard_67 : decode cX7_guard 67 = .ok (.aload_n 0, 1) := by decide +kernel
theorem dX7_guard_68 : decode cX7_guard 68 = .ok (.getfield 25, 3) := by decide +kernel
theorem dX7_guard_71 : decode cX7_guard 71 = .ok (.iload_n 1, 1) := by decide +kernel
theorem dX7_guard_72 : decode cX7_guard 72 = .ok (.invokevirtual 172, 3) := by decide +kernel
theorem dX7_guard_75 : decode cX7_guard 75 = .ok (.invokestatic 180, 3) := by decide +kernel
theorem dX7_guard_78 : decode cX7_guard 78 = .ok (.ireturn, 1) := by decide +kernel
theorem dX7_guard_79 : decode cX7_guard 79 = .ok (.aload_n 0, 1) := by decide +kernel
theorem dX7_guard_80 : decode cX7_guard 80 = .ok (.getfield 25, 3) := by decide +kernel
theorem dX7_guard_83 : decode cX7_guard 83 = .ok (.iload_n 1, 1) := by decide +kernel
theorem dX7_guard_84 : decode cX7_guard 84 = .ok (.invokevirtual 215, 3) := by decide +kernel
theorem dX7_guard_87 : decode cX7_guard 87 = .ok (.ireturn, 1) := by decide +kernel
theorem dX7_guard_88 : decode cX7_guard 88 = .ok (.ldc 59, 2) := by decide +kernel
theorem dX7_guard_90 : decode cX7_guard 90 = .ok (.ireturn, 1) := by decide +kernel
theorem dX7_tried_0 : decode cX7_tried 0 = .ok (.iload_n 1, 1) := by decide +kernel
theorem dX7_tried_1 : decode cX7_tried 1 = .ok (.ifCond .lt 17, 3) := by decide +kernel
theorem dX7_tried_4 : decode cX7_tried 4 = .ok (.iload_n 1, 1) := by decide +kernel
theorem dX7_tried_5 : decode cX7_tried 5 = .ok (.aload_n 0, 1) := by decide +kernel
theorem dX7_tried_6 : decode cX7_tried 6 = .ok (.getfield 25, 3) := by decide +kernel
theorem dX7_tried_9 : decode cX7_tried 9 = .ok (.getfield 137, 3) := by decide +kernel
theorem dX7_tried_12 : decode cX7_tried 12 = .ok (.getfield 162, 3) := by decide +kernel
theorem dX7_tried_15 : decode cX7_tried 15 = .ok (.if_icmp .lt 6, 3) := by decide +kernel
theorem dX7_tried_18 : decode cX7_tried 18 = .ok (.ldc 59, 2) := by decide +kernel
theorem dX7_tried_20 : decode cX7_tried 20 = .ok (.ireturn, 1) := by decide +kernel
theorem dX7_tried_21 : decode cX7_tried 21 = .ok (.iload_n 2, 1) := by decide +kernel
theorem dX7_tried_22 : decode cX7_tried 22 = .ok (.tableswitch 65 0 2 #[26, 39, 52], 26) := by decide +kernel
theorem dX7_tried_48 : decode cX7_tried 48 = .ok (.aload_n 0, 1) := by decide +kernel
theorem dX7_tried_49 : decode cX7_tried 49 = .ok (.getfield 25, 3) := by decide +kernel
theorem dX7_tried_52 : decode cX7_tried 52 = .ok (.getfield 137, 3) := by decide +kernel
theorem dX7_tried_55 : decode cX7_tried 55 = .ok (.getfield 218, 3) := by decide +kernel
theorem dX7_tried_58 : decode cX7_tried 58 = .ok (.iload_n 1, 1) := by decide +kernel
theorem dX7_tried_59 : decode cX7_tried 59 = .ok (.iaload, 1) := by decide +kernel
theorem dX7_tried_60 : decode cX7_tried 60 = .ok (.ireturn, 1) := by decide +kernel
theorem dX7_tried_61 : decode cX7_tried 61 = .ok (.aload_n 0, 1) := by decide +kernel
theorem dX7_tried_62 : decode cX7_tried 62 = .ok (.getfield 25, 3) := by decide +kernel
theorem dX7_tried_65 : decode cX7_tried 65 = .ok (.getfield 137, 3) := by decide +kernel
theorem dX7_tried_68 : decode cX7_tried 68 = .ok (.getfield 221, 3) := by decide +kernel
theorem dX7_tried_71 : decode cX7_tried 71 = .ok (.iload_n 1, 1) := by decide +kernel
theorem dX7_tried_72 : decode cX7_tried 72 = .ok (.iaload, 1) := by decide +kernel
theorem dX7_tried_73 : decode cX7_tried 73 = .ok (.ireturn, 1) := by decide +kernel
theorem dX7_tried_74 : decode cX7_tried 74 = .ok (.aload_n 0, 1) := by decide +kernel
theorem dX7_tried_75 : decode cX7_tried 75 = .ok (.getfield 25, 3) := by decide +kernel
theorem dX7_tried_78 : decode cX7_tried 78 = .ok (.getfield 137, 3) := by decide +kernel
theorem dX7_tried_81 : decode cX7_tried 81 = .ok (.getfield 224, 3) := by decide +kernel
theorem dX7_tried_84 : decode cX7_tried 84 = .ok (.iload_n 1, 1) := by decide +kernel
theorem dX7_tried_85 : decode cX7_tried 85 = .ok (.iaload, 1) := by decide +kernel
theorem dX7_tried_86 : decode cX7_tried 86 = .ok (.ireturn, 1) := by decide +kernel
theorem dX7_tried_87 : decode cX7_tried 87 = .ok (.ldc 59, 2) := by decide +kernel
theorem dX7_tried_89 : decode cX7_tried 89 = .ok (.ireturn, 1) := by decide +kernel
set_option maxRecDepth 20000 in
theorem ggX7_secret_X7_noGate : GoodIn wsX7_secret wsX7_noGate := goodIn_r _ [8, 2, 9, 31, 32, 33, 34, 35, 36, 37, 38, 39, 40, 41, 42, 43, 44, 45, 46, 47] (by decide +kernel) (by decide +kernel)
set_option maxRecDepth 20000 in
theorem gX7_secret_X7_noGate : GoodIn wsX7_secret (wsV RX7 133 RX7 yX7_noGate wsX7_noGate) := goodIn_app (goodIn_of _ (by decide +kernel)) ggX7_secret_X7_noGate
set_option maxRecDepth 20000 in
theorem ggX7_secret_X7_isAhead : GoodIn wsX7_secret wsX7_isAhead := goodIn_r _ [13] (by decide +kernel) (by decide +kernel)
set_option maxRecDepth 20000 in
theorem gX7_secret_X7_isAhead : GoodIn wsX7_secret (wsV RX7 227 RX7 yX7_isAhead wsX7_isAhead) := goodIn_app (goodIn_of _ (by decide +kernel)) ggX7_secret_X7_isAhead
set_option maxRecDepth 20000 in
theorem ggX7_secret_X2_secretIn : GoodIn wsX7_secret wsX2_secretIn := goodIn_r _ [18, 19, 20, 21, 22, 23, 24, 25, 26, 17, 27, 28, 29, 7, 30, 40, 41, 42, 43, 44, 45, 46, 47, 48, 49, 50, 51, 52, 53, 54, 55] (by decide +kernel) (by decide +kernel)
set_option maxRecDepth 20000 in
theorem gX7_secret_X2_secretIn : GoodIn wsX7_secret (wsV RX7 153 RX2 yX2_secretIn wsX2_secretIn) := goodIn_app (goodIn_of _ (by decide +kernel)) ggX7_secret_X2_secretIn
theorem dX7_secret_0 : decode cX7_secret 0 = .ok (.aload_n 0, 1) := by decide +kernel
theorem dX7_secret_1 : decode cX7_secret 1 = .ok (.invokevirtual 133, 3) := by decide +kernel
theorem dX7_secret_4 : decode cX7_secret 4 = .ok (.ifCond .eq 6, 3) := by decide +kernel
theorem dX7_secret_7 : decode cX7_secret 7 = .ok (.ldc 136, 2) := by decide +kernel
theorem dX7_secret_9 : decode cX7_secret 9 = .ok (.ireturn, 1) := by decide +kernel
theorem dX7_secret_10 : decode cX7_secret 10 = .ok (.aload_n 0, 1) := by decide +kernel
theorem dX7_secret_11 : decode cX7_secret 11 = .ok (.iload_n 1, 1) := by decide +kernel
theorem dX7_secret_12 : decode cX7_secret 12 = .ok (.invokevirtual 227, 3) := by decide +kernel
theorem dX7_secret_15 : decode cX7_secret 15 = .ok (.ifCond .eq 14, 3) := by decide +kernel
theorem dX7_secret_18 : decode cX7_secret 18 = .ok (.aload_n 0, 1) := by decide +kernel
theorem dX7_secret_19 : decode cX7_secret 19 = .ok (.getfield 25, 3) := by decide +kernel
theorem dX7_secret_22 : decode cX7_secret 22 = .ok (.iload_n 1, 1) := by decide +kernel
theorem dX7_secret_23 : decode cX7_secret 23 = .ok (.invokevirtual 153, 3) := by decide +kernel
theorem dX7_secret_26 : decode cX7_secret 26 = .ok (.goto 5, 3) := by decide +kernel
theorem dX7_secret_29 : decode cX7_secret 29 = .ok (.ldc 59, 2) := by decide +kernel
theorem dX7_secret_31 : decode cX7_secret 31 = .ok (.ireturn, 1) := by decide +kernel
set_option maxRecDepth 20000 in
theorem ggX7_taken_X7_isWord : GoodIn wsX7_taken wsX7_isWord := goodIn_r _ [7, 2, 8, 69, 70, 71, 72, 73, 74, 75, 76, 77, 78, 79, 80, 81, 82, 83, 84, 85] (by decide +kernel) (by decide +kernel)
set_option maxRecDepth 20000 in
theorem gX7_taken_X7_isWord : GoodIn wsX7_taken (wsV RX7 156 RX7 yX7_isWord wsX7_isWord) := goodIn_app (goodIn_of _ (by decide +kernel)) ggX7_taken_X7_isWord
set_option maxRecDepth 20000 in
theorem ggX7_taken_X7_isHour : GoodIn wsX7_taken wsX7_isHour := goodIn_r _ [12] (by decide +kernel) (by decide +kernel)
set_option maxRecDepth 20000 in
theorem gX7_taken_X7_isHour : GoodIn wsX7_taken (wsV RX7 159 RX7 yX7_isHour wsX7_isHour) := goodIn_app (goodIn_of _ (by decide +kernel)) ggX7_taken_X7_isHour
set_option maxRecDepth 20000 in
theorem ggX7_taken_X7_isAhead : GoodIn wsX7_taken wsX7_isAhead := goodIn_r _ [16] (by decide +kernel) (by decide +kernel)
set_option maxRecDepth 20000 in
theorem gX7_taken_X7_isAhead : GoodIn wsX7_taken (wsV RX7 227 RX7 yX7_isAhead wsX7_isAhead) := goodIn_app (goodIn_of _ (by decide +kernel)) ggX7_taken_X7_isAhead
set_option maxRecDepth 20000 in
theorem ggX7_taken_X2_catches : GoodIn wsX7_taken wsX2_catches := goodIn_r _ [21, 22, 23, 24, 25, 26, 20, 27, 28, 29, 30, 31, 32, 33, 34, 35, 36, 6, 37, 38, 39, 40, 41, 42, 43, 44, 45, 46, 47, 48, 49, 50, 51, 52, 53, 54, 55, 56, 57, 58, 59, 60, 61, 62, 63, 64, 65, 78, 79, 80, 81, 82, 83, 84, 85, 86, 87, 88, 89, 90, 91, 92, 93] (by decide +kernel) (by decide +kernel)
set_option maxRecDepth 20000 in
theorem gX7_taken_X2_catches : GoodIn wsX7_taken (wsV RX7 168 RX2 yX2_catches wsX2_catches) := goodIn_app (goodIn_of _ (by decide +kernel)) ggX7_taken_X2_catches
set_option maxRecDepth 20000 in
theorem ggX7_taken_X7_bit : GoodIn wsX7_taken wsX7_bit := goodIn_r _ [68] (by decide +kernel) (by decide +kernel)
set_option maxRecDepth 20000 in
theorem gX7_taken_X7_bit : GoodIn wsX7_taken (va_wsS RX7 180 yX7_bit wsX7_bit) := goodIn_app (goodIn_of _ (by decide +kernel)) ggX7_taken_X7_bit
theorem dX7_taken_0 : decode cX7_taken 0 = .ok (.aload_n 0, 1) := by decide +kernel
theorem dX7_taken_1 : decode cX7_taken 1 = .ok (.iload_n 1, 1) := by decide +kernel
theorem dX7_taken_2 : decode cX7_taken 2 = .ok (.invokevirtual 156, 3) := by decide +kernel
theorem dX7_taken_5 : decode cX7_taken 5 = .ok (.ifCond .eq 19, 3) := by decide +kernel
theorem dX7_taken_8 : decode cX7_taken 8 = .ok (.aload_n 0, 1) := by decide +kernel
theorem dX7_taken_9 : decode cX7_taken 9 = .ok (.iload_n 2, 1) := by decide +kernel
theorem dX7_taken_10 : decode cX7_taken 10 = .ok (.invokevirtual 159, 3) := by decide +kernel
theorem dX7_taken_13 : decode cX7_taken 13 = .ok (.ifCond .eq 11, 3) := by decide +kernel
theorem dX7_taken_16 : decode cX7_taken 16 = .ok (.aload_n 0, 1) := by decide +kernel
theorem dX7_taken_17 : decode cX7_taken 17 = .ok (.iload_n 3, 1) := by decide +kernel
theorem dX7_taken_18 : decode cX7_taken 18 = .ok (.invokevirtual 227, 3) := by decide +kernel
theorem dX7_taken_21 : decode cX7_taken 21 = .ok (.ifCond .ne 6, 3) := by decide +kernel
theorem dX7_taken_24 : decode cX7_taken 24 = .ok (.ldc 59, 2) := by decide +kernel
theorem dX7_taken_26 : decode cX7_taken 26 = .ok (.ireturn, 1) := by decide +kernel
theorem dX7_taken_27 : decode cX7_taken 27 = .ok (.aload_n 0, 1) := by decide +kernel
theorem dX7_taken_28 : decode cX7_taken 28 = .ok (.getfield 25, 3) := by decide +kernel
theorem dX7_taken_31 : decode cX7_taken 31 = .ok (.iload_n 1, 1) := by decide +kernel
theorem dX7_taken_32 : decode cX7_taken 32 = .ok (.iload_n 2, 1) := by decide +kernel
theorem dX7_taken_33 : decode cX7_taken 33 = .ok (.iload_n 3, 1) := by decide +kernel
theorem dX7_taken_34 : decode cX7_taken 34 = .ok (.invokevirtual 168, 3) := by decide +kernel
theorem dX7_taken_37 : decode cX7_taken 37 = .ok (.invokestatic 180, 3) := by decide +kernel
theorem dX7_taken_40 : decode cX7_taken 40 = .ok (.ireturn, 1) := by decide +kernel
set_option maxRecDepth 20000 in
theorem ggX7_safe_X7_noGate : GoodIn wsX7_safe wsX7_noGate := goodIn_r _ [8, 2, 9, 73, 74, 75, 76, 77, 78, 79, 80, 81, 82, 83, 84, 85, 86, 87, 88, 89] (by decide +kernel) (by decide +kernel)
set_option maxRecDepth 20000 in
theorem gX7_safe_X7_noGate : GoodIn wsX7_safe (wsV RX7 133 RX7 yX7_noGate wsX7_noGate) := goodIn_app (goodIn_of _ (by decide +kernel)) ggX7_safe_X7_noGate
set_option maxRecDepth 20000 in
theorem ggX7_safe_X7_isHour : GoodIn wsX7_safe wsX7_isHour := goodIn_r _ [13] (by decide +kernel) (by decide +kernel)
set_option maxRecDepth 20000 in
theorem gX7_safe_X7_isHour : GoodIn wsX7_safe (wsV RX7 159 RX7 yX7_isHour wsX7_isHour) := goodIn_app (goodIn_of _ (by decide +kernel)) ggX7_safe_X7_isHour
set_option maxRecDepth 20000 in
theorem ggX7_safe_X7_isAhead : GoodIn wsX7_safe wsX7_isAhead := goodIn_r _ [17] (by decide +kernel) (by decide +kernel)
set_option maxRecDepth 20000 in
theorem gX7_safe_X7_isAhead : GoodIn wsX7_safe (wsV RX7 227 RX7 yX7_isAhead wsX7_isAhead) := goodIn_app (goodIn_of _ (by decide +kernel)) ggX7_safe_X7_isAhead
set_option maxRecDepth 20000 in
theorem ggX7_safe_X2_wordsIn : GoodIn wsX7_safe wsX2_wordsIn := goodIn_r _ [22, 23, 24, 25, 26, 21, 27, 28, 29, 30, 31, 32, 33, 34, 35, 36, 37, 38, 39, 40, 41, 7, 42, 43, 44, 45, 46, 47, 48, 49, 50, 51, 52, 53, 54, 55, 56, 57, 58, 59, 60, 61, 62, 63, 64, 65, 66, 67, 68, 69, 70, 71, 72, 82, 83, 84, 85, 86, 87, 88, 89, 90, 91, 92, 93, 94, 95, 96, 97] (by decide +kernel) (by decide +kernel)
set_option maxRecDepth 20000 in
theorem gX7_safe_X2_wordsIn : GoodIn wsX7_safe (wsV RX7 230 RX2 yX2_wordsIn wsX2_wordsIn) := goodIn_app (goodIn_of _ (by decide +kernel)) ggX7_safe_X2_wordsIn
theorem dX7_safe_0 : decode cX7_safe 0 = .ok (.aload_n 0, 1) := by decide +kernel
theorem dX7_safe_1 : decode cX7_safe 1 = .ok (.invokevirtual 133, 3) := by decide +kernel
theorem dX7_safe_4 : decode cX7_safe 4 = .ok (.ifCond .eq 6, 3) := by decide +kernel
theorem dX7_safe_7 : decode cX7_safe 7 = .ok (.ldc 136, 2) := by decide +kernel
theorem dX7_safe_9 : decode cX7_safe 9 = .ok (.ireturn, 1) := by decide +kernel
theorem dX7_safe_10 : decode cX7_safe 10 = .ok (.aload_n 0, 1) := by decide +kernel
theorem dX7_safe_11 : decode cX7_safe 11 = .ok (.iload_n 1, 1) := by decide +kernel
theorem dX7_safe_12 : decode cX7_safe 12 = .ok (.invokevirtual 159, 3) := by decide +kernel
theorem dX7_safe_15 : decode cX7_safe 15 = .ok (.ifCond .eq 23, 3) := by decide +kernel
theorem dX7_safe_18 : decode cX7_safe 18 = .ok (.aload_n 0, 1) := by decide +kernel
theorem dX7_safe_19 : decode cX7_safe 19 = .ok (.iload_n 2, 1) := by decide +kernel
theorem dX7_safe_20 : decode cX7_safe 20 = .ok (.invokevirtual 227, 3) := by decide +kernel
theorem dX7_safe_23 : decode cX7_safe 23 = .ok (.ifCond .eq 15, 3) := by decide +kernel
theorem dX7_safe_26 : decode cX7_safe 26 = .ok (.aload_n 0, 1) := by decide +kernel
theorem dX7_safe_27 : decode cX7_safe 27 = .ok (.getfield 25, 3) := by decide +kernel
theorem dX7_safe_30 : decode cX7_safe 30 = .ok (.iload_n 1, 1) := by decide +kernel
theorem dX7_safe_31 : decode cX7_safe 31 = .ok (.iload_n 2, 1) := by decide +kernel
theorem dX7_safe_32 : decode cX7_safe 32 = .ok (.invokevirtual 230, 3) := by decide +kernel
theorem dX7_safe_35 : decode cX7_safe 35 = .ok (.goto 5, 3) := by decide +kernel
theorem dX7_safe_38 : decode cX7_safe 38 = .ok (.ldc 59, 2) := by decide +kernel
theorem dX7_safe_40 : decode cX7_safe 40 = .ok (.ireturn, 1) := by decide +kernel
set_option maxRecDepth 20000 in
theorem ggX7_open_X7_noGate : GoodIn wsX7_open wsX7_noGate := goodIn_r _ [8, 2, 9, 77, 78, 79, 80, 81, 82, 83, 84, 85, 86, 87, 88, 89, 90, 91, 92, 93] (by decide +kernel) (by decide +kernel)
set_option maxRecDepth 20000 in
theorem gX7_open_X7_noGate : GoodIn wsX7_open (wsV RX7 133 RX7 yX7_noGate wsX7_noGate) := goodIn_app (goodIn_of _ (by decide +kernel)) ggX7_open_X7_noGate
set_option maxRecDepth 20000 in
theorem ggX7_open_X7_areWords : GoodIn wsX7_open wsX7_areWords := goodIn_r _ [13, 2, 9, 77, 78, 79, 80, 81, 82, 83, 84, 85, 86, 87, 88, 89, 90, 91, 92, 93] (by decide +kernel) (by decide +kernel)
set_option maxRecDepth 20000 in
theorem gX7_open_X7_areWords : GoodIn wsX7_open (wsV RX7 233 RX7 yX7_areWords wsX7_areWords) := goodIn_app (goodIn_of _ (by decide +kernel)) ggX7_open_X7_areWords
set_option maxRecDepth 20000 in
theorem ggX7_open_X7_isAhead : GoodIn wsX7_open wsX7_isAhead := goodIn_r _ [17] (by decide +kernel) (by decide +kernel)
set_option maxRecDepth 20000 in
theorem gX7_open_X7_isAhead : GoodIn wsX7_open (wsV RX7 227 RX7 yX7_isAhead wsX7_isAhead) := goodIn_app (goodIn_of _ (by decide +kernel)) ggX7_open_X7_isAhead
set_option maxRecDepth 20000 in
theorem ggX7_open_X2_hoursOpen : GoodIn wsX7_open wsX2_hoursOpen := goodIn_r _ [22, 23, 24, 25, 21, 26, 27, 28, 29, 30, 31, 32, 33, 34, 35, 36, 37, 38, 39, 40, 41, 42, 43, 44, 45, 7, 46, 47, 48, 49, 50, 51, 52, 53, 54, 55, 56, 57, 58, 59, 60, 61, 62, 63, 64, 65, 66, 67, 68, 69, 70, 71, 72, 73, 74, 75, 76, 86, 87, 88, 89, 90, 91, 92, 93, 94, 95, 96, 97, 98, 99, 100, 101] (by decide +kernel) (by decide +kernel)
set_option maxRecDepth 20000 in
theorem gX7_open_X2_hoursOpen : GoodIn wsX7_open (wsV RX7 236 RX2 yX2_hoursOpen wsX2_hoursOpen) := goodIn_app (goodIn_of _ (by decide +kernel)) ggX7_open_X2_hoursOpen
theorem dX7_open_0 : decode cX7_open 0 = .ok (.aload_n 0, 1) := by decide +kernel
theorem dX7_open_1 : decode cX7_open 1 = .ok (.invokevirtual 133, 3) := by decide +kernel
theorem dX7_open_4 : decode cX7_open 4 = .ok (.ifCond .eq 6, 3) := by decide +kernel
theorem dX7_open_7 : decode cX7_open 7 = .ok (.ldc 136, 2) := by decide +kernel
theorem dX7_open_9 : decode cX7_open 9 = .ok (.ireturn, 1) := by decide +kernel
theorem dX7_open_10 : decode cX7_open 10 = .ok (.aload_n 0, 1) := by decide +kernel
theorem dX7_open_11 : decode cX7_open 11 = .ok (.iload_n 1, 1) := by decide +kernel
theorem dX7_open_12 : decode cX7_open 12 = .ok (.invokevirtual 233, 3) := by decide +kernel
theorem dX7_open_15 : decode cX7_open 15 = .ok (.ifCond .eq 23, 3) := by decide +kernel
theorem dX7_open_18 : decode cX7_open 18 = .ok (.aload_n 0, 1) := by decide +kernel
theorem dX7_open_19 : decode cX7_open 19 = .ok (.iload_n 2, 1) := by decide +kernel
theorem dX7_open_20 : decode cX7_open 20 = .ok (.invokevirtual 227, 3) := by decide +kernel
theorem dX7_open_23 : decode cX7_open 23 = .ok (.ifCond .eq 15, 3) := by decide +kernel
theorem dX7_open_26 : decode cX7_open 26 = .ok (.aload_n 0, 1) := by decide +kernel
theorem dX7_open_27 : decode cX7_open 27 = .ok (.getfield 25, 3) := by decide +kernel
theorem dX7_open_30 : decode cX7_open 30 = .ok (.iload_n 1, 1) := by decide +kernel
theorem dX7_open_31 : decode cX7_open 31 = .ok (.iload_n 2, 1) := by decide +kernel
theorem dX7_open_32 : decode cX7_open 32 = .ok (.invokevirtual 236, 3) := by decide +kernel
theorem dX7_open_35 : decode cX7_open 35 = .ok (.goto 5, 3) := by decide +kernel
theorem dX7_open_38 : decode cX7_open 38 = .ok (.ldc 59, 2) := by decide +kernel
theorem dX7_open_40 : decode cX7_open 40 = .ok (.ireturn, 1) := by decide +kernel
set_option maxRecDepth 20000 in
theorem ggX7_next_X7_isWord : GoodIn wsX7_next wsX7_isWord := goodIn_r _ [7, 1, 8, 31, 32, 33, 34, 35, 36, 37, 38, 39, 40, 41, 42, 43, 44, 45, 46, 47] (by decide +kernel) (by decide +kernel)
set_option maxRecDepth 20000 in
theorem gX7_next_X7_isWord : GoodIn wsX7_next (wsV RX7 156 RX7 yX7_isWord wsX7_isWord) := goodIn_app (goodIn_of _ (by decide +kernel)) ggX7_next_X7_isWord
set_option maxRecDepth 20000 in
theorem ggX7_next_X2_nightsUntil : GoodIn wsX7_next wsX2_nightsUntil := goodIn_r _ [13, 14, 15, 16, 17, 12, 18, 19, 20, 21, 22, 23, 24, 25, 26, 27, 28, 29, 6, 30, 40, 41, 42, 43, 44, 45, 46, 47, 48, 49, 50, 51, 52, 53, 54, 55] (by decide +kernel) (by decide +kernel)
set_option maxRecDepth 20000 in
theorem gX7_next_X2_nightsUntil : GoodIn wsX7_next (wsV RX7 239 RX2 yX2_nightsUntil wsX2_nightsUntil) := goodIn_app (goodIn_of _ (by decide +kernel)) ggX7_next_X2_nightsUntil
theorem dX7_next_0 : decode cX7_next 0 = .ok (.aload_n 0, 1) := by decide +kernel
theorem dX7_next_1 : decode cX7_next 1 = .ok (.iload_n 1, 1) := by decide +kernel
theorem dX7_next_2 : decode cX7_next 2 = .ok (.invokevirtual 156, 3) := by decide +kernel
theorem dX7_next_5 : decode cX7_next 5 = .ok (.ifCond .eq 14, 3) := by decide +kernel
theorem dX7_next_8 : decode cX7_next 8 = .ok (.aload_n 0, 1) := by decide +kernel
theorem dX7_next_9 : decode cX7_next 9 = .ok (.getfield 25, 3) := by decide +kernel
theorem dX7_next_12 : decode cX7_next 12 = .ok (.iload_n 1, 1) := by decide +kernel
theorem dX7_next_13 : decode cX7_next 13 = .ok (.invokevirtual 239, 3) := by decide +kernel
theorem dX7_next_16 : decode cX7_next 16 = .ok (.goto 5, 3) := by decide +kernel
theorem dX7_next_19 : decode cX7_next 19 = .ok (.ldc 59, 2) := by decide +kernel
theorem dX7_next_21 : decode cX7_next 21 = .ok (.ireturn, 1) := by decide +kernel
set_option maxRecDepth 20000 in
theorem ggX7_agree_X7_noGate : GoodIn wsX7_agree wsX7_noGate := goodIn_r _ [7, 2, 8, 41, 42, 43, 44, 45, 46, 47, 48, 49, 50, 51, 52, 53, 54, 55, 56, 57] (by decide +kernel) (by decide +kernel)
set_option maxRecDepth 20000 in
theorem gX7_agree_X7_noGate : GoodIn wsX7_agree (wsV RX7 133 RX7 yX7_noGate wsX7_noGate) := goodIn_app (goodIn_of _ (by decide +kernel)) ggX7_agree_X7_noGate
set_option maxRecDepth 20000 in
theorem ggX7_agree_X3_agreeing : GoodIn wsX7_agree wsX3_agreeing := goodIn_r _ [12, 13, 14, 15, 11, 16, 17, 18, 19, 20, 21, 22, 23, 24, 25, 26, 27, 28, 29, 30, 31, 32, 33, 34, 35, 36, 37, 38, 39, 6, 40, 50, 51, 52, 53, 54, 55, 56, 57, 58, 59, 60, 61, 62, 63, 64, 65] (by decide +kernel) (by decide +kernel)
set_option maxRecDepth 20000 in
theorem gX7_agree_X3_agreeing : GoodIn wsX7_agree (va_wsS RX7 242 yX3_agreeing wsX3_agreeing) := goodIn_app (goodIn_of _ (by decide +kernel)) ggX7_agree_X3_agreeing
theorem dX7_agree_0 : decode cX7_agree 0 = .ok (.aload_n 0, 1) := by decide +kernel
theorem dX7_agree_1 : decode cX7_agree 1 = .ok (.invokevirtual 133, 3) := by decide +kernel
theorem dX7_agree_4 : decode cX7_agree 4 = .ok (.ifCond .eq 8, 3) := by decide +kernel
theorem dX7_agree_7 : decode cX7_agree 7 = .ok (.ldc 136, 2) := by decide +kernel
theorem dX7_agree_9 : decode cX7_agree 9 = .ok (.goto 10, 3) := by decide +kernel
theorem dX7_agree_12 : decode cX7_agree 12 = .ok (.aload_n 0, 1) := by decide +kernel
theorem dX7_agree_13 : decode cX7_agree 13 = .ok (.getfield 25, 3) := by decide +kernel
theorem dX7_agree_16 : decode cX7_agree 16 = .ok (.invokestatic 242, 3) := by decide +kernel
theorem dX7_agree_19 : decode cX7_agree 19 = .ok (.ireturn, 1) := by decide +kernel
set_option maxRecDepth 20000 in
theorem ggX7_man_X7_noGate : GoodIn wsX7_man wsX7_noGate := goodIn_r _ [8, 3, 9, 82, 83, 84, 85, 86, 87, 88, 89, 90, 91, 92, 93, 94, 95, 96, 97, 98] (by decide +kernel) (by decide +kernel)
set_option maxRecDepth 20000 in
theorem gX7_man_X7_noGate : GoodIn wsX7_man (wsV RX7 133 RX7 yX7_noGate wsX7_noGate) := goodIn_app (goodIn_of _ (by decide +kernel)) ggX7_man_X7_noGate
set_option maxRecDepth 20000 in
theorem ggX7_man_X3_agreeing : GoodIn wsX7_man wsX3_agreeing := goodIn_r _ [13, 14, 15, 16, 12, 17, 18, 19, 20, 21, 22, 23, 24, 25, 26, 27, 28, 29, 30, 31, 32, 33, 34, 35, 36, 37, 38, 39, 40, 7, 41, 91, 92, 93, 94, 95, 96, 97, 98, 99, 100, 101, 102, 103, 104, 105, 106] (by decide +kernel) (by decide +kernel)
set_option maxRecDepth 20000 in
theorem gX7_man_X3_agreeing : GoodIn wsX7_man (va_wsS RX7 242 yX3_agreeing wsX3_agreeing) := goodIn_app (goodIn_of _ (by decide +kernel)) ggX7_man_X3_agreeing
set_option maxRecDepth 20000 in
theorem ggX7_man_X3_bestTry : GoodIn wsX7_man wsX3_bestTry := goodIn_r _ [44, 14, 45, 46, 12, 47, 48, 49, 50, 51, 52, 53, 54, 18, 24, 55, 56, 57, 29, 58, 59, 60, 61, 62, 63, 64, 65, 7, 66, 67, 68, 69, 70, 71, 72, 73, 27, 28, 30, 31, 32, 33, 34, 35, 36, 37, 38, 39, 40, 41, 74, 75, 76, 77, 78, 79, 80, 91, 92, 93, 94, 95, 96, 97, 98, 99, 100, 101, 102, 103, 104, 105, 106] (by decide +kernel) (by decide +kernel)
set_option maxRecDepth 20000 in
theorem gX7_man_X3_bestTry : GoodIn wsX7_man (va_wsS RX7 246 yX3_bestTry wsX3_bestTry) := goodIn_app (goodIn_of _ (by decide +kernel)) ggX7_man_X3_bestTry
set_option maxRecDepth 20000 in
theorem ggX7_man_X3_leftAtWorst : GoodIn wsX7_man wsX3_leftAtWorst := goodIn_r _ [47, 48, 49, 50, 51, 52, 53, 12, 54, 14, 18, 24, 55, 56, 57, 29, 58, 59, 60, 61, 62, 63, 64, 65, 7, 66, 67, 68, 69, 70, 71, 72, 73, 27, 28, 30, 31, 32, 33, 34, 35, 36, 37, 38, 39, 40, 41, 74, 75, 76, 77, 78, 79, 80, 91, 92, 93, 94, 95, 96, 97, 98, 99, 100, 101, 102, 103, 104, 105, 106] (by decide +kernel) (by decide +kernel)
set_option maxRecDepth 20000 in
theorem gX7_man_X3_leftAtWorst : GoodIn wsX7_man (va_wsS RX7 250 yX3_leftAtWorst wsX3_leftAtWorst) := goodIn_app (goodIn_of _ (by decide +kernel)) ggX7_man_X3_leftAtWorst
theorem dX7_man_0 : decode cX7_man 0 = .ok (.aload_n 0, 1) := by decide +kernel
theorem dX7_man_1 : decode cX7_man 1 = .ok (.invokevirtual 133, 3) := by decide +kernel
theorem dX7_man_4 : decode cX7_man 4 = .ok (.ifCond .eq 6, 3) := by decide +kernel
theorem dX7_man_7 : decode cX7_man 7 = .ok (.ldc 136, 2) := by decide +kernel
theorem dX7_man_9 : decode cX7_man 9 = .ok (.ireturn, 1) := by decide +kernel
theorem dX7_man_10 : decode cX7_man 10 = .ok (.iload_n 1, 1) := by decide +kernel
theorem dX7_man_11 : decode cX7_man 11 = .ok (.ifCond .lt 8, 3) := by decide +kernel
theorem dX7_man_14 : decode cX7_man 14 = .ok (.iload_n 1, 1) := by decide +kernel
theorem dX7_man_15 : decode cX7_man 15 = .ok (.iconst 2, 1) := by decide +kernel
theorem dX7_man_16 : decode cX7_man 16 = .ok (.if_icmp .le 6, 3) := by decide +kernel
theorem dX7_man_19 : decode cX7_man 19 = .ok (.ldc 59, 2) := by decide +kernel
theorem dX7_man_21 : decode cX7_man 21 = .ok (.ireturn, 1) := by decide +kernel
theorem dX7_man_22 : decode cX7_man 22 = .ok (.aload_n 0, 1) := by decide +kernel
theorem dX7_man_23 : decode cX7_man 23 = .ok (.getfield 25, 3) := by decide +kernel
theorem dX7_man_26 : decode cX7_man 26 = .ok (.invokestatic 242, 3) := by decide +kernel
theorem dX7_man_29 : decode cX7_man 29 = .ok (.istore_n 2, 1) := by decide +kernel
theorem dX7_man_30 : decode cX7_man 30 = .ok (.aload_n 0, 1) := by decide +kernel
theorem dX7_man_31 : decode cX7_man 31 = .ok (.getfield 25, 3) := by decide +kernel
theorem dX7_man_34 : decode cX7_man 34 = .ok (.iload_n 2, 1) := by decide +kernel
theorem dX7_man_35 : decode cX7_man 35 = .ok (.invokestatic 246, 3) := by decide +kernel
theorem dX7_man_38 : decode cX7_man 38 = .ok (.istore_n 3, 1) := by decide +kernel
theorem dX7_man_39 : decode cX7_man 39 = .ok (.iload_n 1, 1) := by decide +kernel
theorem dX7_man_40 : decode cX7_man 40 = .ok (.iconst 2, 1) := by decide +kernel
theorem dX7_man_41 : decode cX7_man 41 = .ok (.if_icmp .ne 13, 3) := by decide +kernel
theorem dX7_man_44 : decode cX7_man 44 = .ok (.aload_n 0, 1) := by decide +kernel
theorem dX7_man_45 : decode cX7_man 45 = .ok (.getfield 25, 3) := by decide +kernel
theorem dX7_man_48 : decode cX7_man 48 = .ok (.iload_n 3, 1) := by decide +kernel
theorem dX7_man_49 : decode cX7_man 49 = .ok (.iload_n 2, 1) := by decide +kernel
theorem dX7_man_50 : decode cX7_man 50 = .ok (.invokestatic 250, 3) := by decide +kernel
theorem dX7_man_53 : decode cX7_man 53 = .ok (.ireturn, 1) := by decide +kernel
theorem dX7_man_54 : decode cX7_man 54 = .ok (.iload_n 1, 1) := by decide +kernel
theorem dX7_man_55 : decode cX7_man 55 = .ok (.ifCond .ne 10, 3) := by decide +kernel
theorem dX7_man_58 : decode cX7_man 58 = .ok (.iload_n 3, 1) := by decide +kernel
theorem dX7_man_59 : decode cX7_man 59 = .ok (.bipush 6, 2) := by decide +kernel
theorem dX7_man_61 : decode cX7_man 61 = .ok (.idiv, 1) := by decide +kernel
theorem dX7_man_62 : decode cX7_man 62 = .ok (.goto 7, 3) := by decide +kernel
theorem dX7_man_65 : decode cX7_man 65 = .ok (.iload_n 3, 1) := by decide +kernel
theorem dX7_man_66 : decode cX7_man 66 = .ok (.bipush 6, 2) := by decide +kernel
theorem dX7_man_68 : decode cX7_man 68 = .ok (.irem, 1) := by decide +kernel
theorem dX7_man_69 : decode cX7_man 69 = .ok (.ireturn, 1) := by decide +kernel
set_option maxRecDepth 20000 in
theorem ggX7_fewest_X7_noGate : GoodIn wsX7_fewest wsX7_noGate := goodIn_r _ [8, 3, 9, 89, 90, 91, 92, 93, 94, 95, 96, 97, 98, 99, 100, 101, 102, 103, 104, 105] (by decide +kernel) (by decide +kernel)
set_option maxRecDepth 20000 in
theorem gX7_fewest_X7_noGate : GoodIn wsX7_fewest (wsV RX7 133 RX7 yX7_noGate wsX7_noGate) := goodIn_app (goodIn_of _ (by decide +kernel)) ggX7_fewest_X7_noGate
set_option maxRecDepth 20000 in
theorem ggX7_fewest_X3_agreeing : GoodIn wsX7_fewest wsX3_agreeing := goodIn_r _ [13, 14, 15, 16, 12, 17, 18, 19, 20, 21, 22, 23, 24, 25, 26, 27, 28, 29, 30, 31, 32, 33, 34, 35, 36, 37, 38, 39, 40, 7, 41, 98, 99, 100, 101, 102, 103, 104, 105, 106, 107, 108, 109, 110, 111, 112, 113] (by decide +kernel) (by decide +kernel)
set_option maxRecDepth 20000 in
theorem gX7_fewest_X3_agreeing : GoodIn wsX7_fewest (va_wsS RX7 242 yX3_agreeing wsX3_agreeing) := goodIn_app (goodIn_of _ (by decide +kernel)) ggX7_fewest_X3_agreeing
set_option maxRecDepth 20000 in
theorem ggX7_fewest_X3_fewestMen : GoodIn wsX7_fewest wsX3_fewestMen := goodIn_r _ [45, 14, 46, 47, 48, 49, 50, 12, 51, 18, 24, 52, 53, 54, 29, 55, 56, 57, 58, 59, 60, 61, 62, 7, 63, 64, 65, 66, 67, 68, 69, 70, 27, 28, 30, 31, 32, 33, 34, 35, 36, 37, 38, 39, 40, 41, 71, 72, 73, 74, 75, 76, 77, 78, 79, 80, 81, 82, 83, 84, 85, 86, 87, 88, 98, 99, 100, 101, 102, 103, 104, 105, 114, 115, 106, 107, 108, 109, 110, 111, 112, 113] (by decide +kernel) (by decide +kernel)
set_option maxRecDepth 20000 in
theorem gX7_fewest_X3_fewestMen : GoodIn wsX7_fewest (wsV RX7 254 RX3 yX3_fewestMen wsX3_fewestMen) := goodIn_app (goodIn_of _ (by decide +kernel)) ggX7_fewest_X3_fewestMen
theorem dX7_fewest_0 : decode cX7_fewest 0 = .ok (.aload_n 0, 1) := by decide +kernel
theorem dX7_fewest_1 : decode cX7_fewest 1 = .ok (.invokevirtual 133, 3) := by decide +kernel
theorem dX7_fewest_4 : decode cX7_fewest 4 = .ok (.ifCond .eq 8, 3) := by decide +kernel
theorem dX7_fewest_7 : decode cX7_fewest 7 = .ok (.ldc 136, 2) := by decide +kernel
theorem dX7_fewest_9 : decode cX7_fewest 9 = .ok (.goto 21, 3) := by decide +kernel
theorem dX7_fewest_12 : decode cX7_fewest 12 = .ok (.aload_n 0, 1) := by decide +kernel
theorem dX7_fewest_13 : decode cX7_fewest 13 = .ok (.getfield 43, 3) := by decide +kernel
theorem dX7_fewest_16 : decode cX7_fewest 16 = .ok (.aload_n 0, 1) := by decide +kernel
theorem dX7_fewest_17 : decode cX7_fewest 17 = .ok (.getfield 25, 3) := by decide +kernel
theorem dX7_fewest_20 : decode cX7_fewest 20 = .ok (.aload_n 0, 1) := by decide +kernel
theorem dX7_fewest_21 : decode cX7_fewest 21 = .ok (.getfield 25, 3) := by decide +kernel
theorem dX7_fewest_24 : decode cX7_fewest 24 = .ok (.invokestatic 242, 3) := by decide +kernel
theorem dX7_fewest_27 : decode cX7_fewest 27 = .ok (.invokevirtual 254, 3) := by decide +kernel
theorem dX7_fewest_30 : decode cX7_fewest 30 = .ok (.ireturn, 1) := by decide +kernel
set_option maxRecDepth 20000 in
theorem ggX7_march_X7_noGate : GoodIn wsX7_march wsX7_noGate := goodIn_r _ [8, 9, 10, 100, 101, 102, 103, 104, 105, 106, 107, 108, 109, 110, 111, 112, 113, 114, 115, 116] (by decide +kernel) (by decide +kernel)
set_option maxRecDepth 20000 in
theorem gX7_march_X7_noGate : GoodIn wsX7_march (wsV RX7 133 RX7 yX7_noGate wsX7_noGate) := goodIn_app (goodIn_of _ (by decide +kernel)) ggX7_march_X7_noGate
set_option maxRecDepth 20000 in
theorem ggX7_march_X7_isRow : GoodIn wsX7_march wsX7_isRow := goodIn_r _ [14] (by decide +kernel) (by decide +kernel)
set_option maxRecDepth 20000 in
theorem gX7_march_X7_isRow : GoodIn wsX7_march (wsV RX7 55 RX7 yX7_isRow wsX7_isRow) := goodIn_app (goodIn_of _ (by decide +kernel)) ggX7_march_X7_isRow
set_option maxRecDepth 20000 in
theorem ggX7_march_X5_findingOf : GoodIn wsX7_march wsX5_findingOf := goodIn_r _ [19, 20, 21, 22, 23, 18, 24, 25, 117, 118, 119] (by decide +kernel) (by decide +kernel)
set_option maxRecDepth 20000 in
theorem gX7_march_X5_findingOf : GoodIn wsX7_march (wsV RX7 71 RX5 yX5_findingOf wsX5_findingOf) := goodIn_app (goodIn_of _ (by decide +kernel)) ggX7_march_X5_findingOf
set_option maxRecDepth 20000 in
theorem ggX7_march_X7_found : GoodIn wsX7_march wsX7_found := goodIn_r _ [29, 30, 31, 100, 101, 102, 103, 104, 105, 106, 107, 108] (by decide +kernel) (by decide +kernel)
set_option maxRecDepth 20000 in
theorem gX7_march_X7_found : GoodIn wsX7_march (wsV RX7 60 RX7 yX7_found wsX7_found) := goodIn_app (goodIn_of _ (by decide +kernel)) ggX7_march_X7_found
set_option maxRecDepth 20000 in
theorem ggX7_march_X7_hourOfLast : GoodIn wsX7_march wsX7_hourOfLast := goodIn_r _ [35, 36, 9, 37, 38, 39, 40, 7, 41, 10, 42, 43, 44, 45, 46, 47, 48, 49, 50, 51, 52, 53, 54, 55, 56, 57, 58, 59, 60, 61, 62, 63, 64, 65, 66, 67, 68, 69, 70, 71, 72, 73, 74, 75, 76, 77, 78, 79, 80, 81, 82, 83, 84, 85, 86, 87, 88, 89, 90, 91, 92, 93, 94, 95, 117, 118, 119, 100, 101, 102, 103, 104, 105, 106, 107, 108, 109, 110, 111, 112, 113, 114, 115, 116, 120, 121, 122, 123, 124, 125, 126, 127] (by decide +kernel) (by decide +kernel)
set_option maxRecDepth 20000 in
theorem gX7_march_X7_hourOfLast : GoodIn wsX7_march (wsV RX7 257 RX7 yX7_hourOfLast wsX7_hourOfLast) := goodIn_app (goodIn_of _ (by decide +kernel)) ggX7_march_X7_hourOfLast
set_option maxRecDepth 20000 in
theorem ggX7_march_X7_unfound : GoodIn wsX7_march wsX7_unfound := goodIn_r _ [99, 30, 100, 101, 102, 103, 104, 105, 106, 107, 108] (by decide +kernel) (by decide +kernel)
set_option maxRecDepth 20000 in
theorem gX7_march_X7_unfound : GoodIn wsX7_march (wsV RX7 68 RX7 yX7_unfound wsX7_unfound) := goodIn_app (goodIn_of _ (by decide +kernel)) ggX7_march_X7_unfound
theorem dX7_march_0 : decode cX7_march 0 = .ok (.aload_n 0, 1) := by decide +kernel
theorem dX7_march_1 : decode cX7_march 1 = .ok (.invokevirtual 133, 3) := by decide +kernel
theorem dX7_march_4 : decode cX7_march 4 = .ok (.ifCond .eq 6, 3) := by decide +kernel
theorem dX7_march_7 : decode cX7_march 7 = .ok (.ldc 136, 2) := by decide +kernel
theorem dX7_march_9 : decode cX7_march 9 = .ok (.ireturn, 1) := by decide +kernel
theorem dX7_march_10 : decode cX7_march 10 = .ok (.aload_n 0, 1) := by decide +kernel
theorem dX7_march_11 : decode cX7_march 11 = .ok (.iload_n 1, 1) := by decide +kernel
theorem dX7_march_12 : decode cX7_march 12 = .ok (.invokevirtual 55, 3) := by decide +kernel
theorem dX7_march_15 : decode cX7_march 15 = .ok (.ifCond .eq 26, 3) := by decide +kernel
theorem dX7_march_18 : decode cX7_march 18 = .ok (.iload_n 3, 1) := by decide +kernel
theorem dX7_march_19 : decode cX7_march 19 = .ok (.iconst 1, 1) := by decide +kernel
theorem dX7_march_20 : decode cX7_march 20 = .ok (.if_icmp .lt 21, 3) := by decide +kernel
theorem dX7_march_23 : decode cX7_march 23 = .ok (.iload_n 3, 1) := by decide +kernel
theorem dX7_march_24 : decode cX7_march 24 = .ok (.bipush 6, 2) := by decide +kernel
theorem dX7_march_26 : decode cX7_march 26 = .ok (.if_icmp .gt 15, 3) := by decide +kernel
theorem dX7_march_29 : decode cX7_march 29 = .ok (.iload 4, 2) := by decide +kernel
theorem dX7_march_31 : decode cX7_march 31 = .ok (.iconst (-1), 1) := by decide +kernel
theorem dX7_march_32 : decode cX7_march 32 = .ok (.if_icmp .lt 9, 3) := by decide +kernel
theorem dX7_march_35 : decode cX7_march 35 = .ok (.iload 4, 2) := by decide +kernel
theorem dX7_march_37 : decode cX7_march 37 = .ok (.iload_n 3, 1) := by decide +kernel
theorem dX7_march_38 : decode cX7_march 38 = .ok (.if_icmp .lt 6, 3) := by decide +kernel
theorem dX7_march_41 : decode cX7_march 41 = .ok (.ldc 59, 2) := by decide +kernel
theorem dX7_march_43 : decode cX7_march 43 = .ok (.ireturn, 1) := by decide +kernel
theorem dX7_march_44 : decode cX7_march 44 = .ok (.aload_n 0, 1) := by decide +kernel
theorem dX7_march_45 : decode cX7_march 45 = .ok (.getfield 11, 3) := by decide +kernel
theorem dX7_march_48 : decode cX7_march 48 = .ok (.iload_n 1, 1) := by decide +kernel
theorem dX7_march_49 : decode cX7_march 49 = .ok (.aaload, 1) := by decide +kernel
theorem dX7_march_50 : decode cX7_march 50 = .ok (.iload_n 2, 1) := by decide +kernel
theorem dX7_march_51 : decode cX7_march 51 = .ok (.iload_n 3, 1) := by decide +kernel
theorem dX7_march_52 : decode cX7_march 52 = .ok (.invokevirtual 71, 3) := by decide +kernel
theorem dX7_march_55 : decode cX7_march 55 = .ok (.istore 5, 2) := by decide +kernel
theorem dX7_march_57 : decode cX7_march 57 = .ok (.iload 5, 2) := by decide +kernel
theorem dX7_march_59 : decode cX7_march 59 = .ok (.ifCond .eq 10, 3) := by decide +kernel
theorem dX7_march_62 : decode cX7_march 62 = .ok (.aload_n 0, 1) := by decide +kernel
theorem dX7_march_63 : decode cX7_march 63 = .ok (.iload 5, 2) := by decide +kernel
theorem dX7_march_65 : decode cX7_march 65 = .ok (.invokevirtual 60, 3) := by decide +kernel
theorem dX7_march_68 : decode cX7_march 68 = .ok (.ireturn, 1) := by decide +kernel
theorem dX7_march_69 : decode cX7_march 69 = .ok (.aload_n 0, 1) := by decide +kernel
theorem dX7_march_70 : decode cX7_march 70 = .ok (.aload_n 0, 1) := by decide +kernel
theorem dX7_march_71 : decode cX7_march 71 = .ok (.aload_n 0, 1) := by decide +kernel
theorem dX7_march_72 : decode cX7_march 72 = .ok (.getfield 11, 3) := by decide +kernel
theorem dX7_march_75 : decode cX7_march 75 = .ok (.iload_n 1, 1) := by decide +kernel
theorem dX7_march_76 : decode cX7_march 76 = .ok (.aaload, 1) := by decide +kernel
theorem dX7_march_77 : decode cX7_march 77 = .ok (.iload_n 2, 1) := by decide +kernel
theorem dX7_march_78 : decode cX7_march 78 = .ok (.iload 4, 2) := by decide +kernel
theorem dX7_march_80 : decode cX7_march 80 = .ok (.iconst (-1), 1) := by decide +kernel
theorem dX7_march_81 : decode cX7_march 81 = .ok (.if_icmp .ne 7, 3) := by decide +kernel
theorem dX7_march_84 : decode cX7_march 84 = .ok (.iload_n 3, 1) := by decide +kernel
theorem dX7_march_85 : decode cX7_march 85 = .ok (.goto 7, 3) := by decide +kernel
theorem dX7_march_88 : decode cX7_march 88 = .ok (.iload 4, 2) := by decide +kernel
theorem dX7_march_90 : decode cX7_march 90 = .ok (.iconst 1, 1) := by decide +kernel
theorem dX7_march_91 : decode cX7_march 91 = .ok (.iadd, 1) := by decide +kernel
theorem dX7_march_92 : decode cX7_march 92 = .ok (.invokevirtual 257, 3) := by decide +kernel
theorem dX7_march_95 : decode cX7_march 95 = .ok (.invokevirtual 68, 3) := by decide +kernel
theorem dX7_march_98 : decode cX7_march 98 = .ok (.ireturn, 1) := by decide +kernel
set_option maxRecDepth 20000 in
theorem ggX7_cheap_X7_noGate : GoodIn wsX7_cheap wsX7_noGate := goodIn_r _ [8, 3, 9, 82, 83, 84, 85, 86, 87, 88, 89, 90, 91, 92, 93, 94, 95, 96, 97, 98] (by decide +kernel) (by decide +kernel)
set_option maxRecDepth 20000 in
theorem gX7_cheap_X7_noGate : GoodIn wsX7_cheap (wsV RX7 133 RX7 yX7_noGate wsX7_noGate) := goodIn_app (goodIn_of _ (by decide +kernel)) ggX7_cheap_X7_noGate
set_option maxRecDepth 20000 in
theorem ggX7_cheap_X7_areWords : GoodIn wsX7_cheap wsX7_areWords := goodIn_r _ [13, 3, 9, 82, 83, 84, 85, 86, 87, 88, 89, 90, 91, 92, 93, 94, 95, 96, 97, 98] (by decide +kernel) (by decide +kernel)
set_option maxRecDepth 20000 in
theorem gX7_cheap_X7_areWords : GoodIn wsX7_cheap (wsV RX7 233 RX7 yX7_areWords wsX7_areWords) := goodIn_app (goodIn_of _ (by decide +kernel)) ggX7_cheap_X7_areWords
set_option maxRecDepth 20000 in
theorem ggX7_cheap_X7_isAhead : GoodIn wsX7_cheap wsX7_isAhead := goodIn_r _ [17] (by decide +kernel) (by decide +kernel)
set_option maxRecDepth 20000 in
theorem gX7_cheap_X7_isAhead : GoodIn wsX7_cheap (wsV RX7 227 RX7 yX7_isAhead wsX7_isAhead) := goodIn_app (goodIn_of _ (by decide +kernel)) ggX7_cheap_X7_isAhead
set_option maxRecDepth 20000 in
theorem ggX7_cheap_X2_guardsAgainst : GoodIn wsX7_cheap wsX2_guardsAgainst := goodIn_r _ [22, 23, 24, 25, 26, 27, 21, 28, 29, 30, 31, 32, 33, 34, 35, 36, 37, 38, 39, 40, 41, 42, 43, 44, 45, 7, 46, 47, 48, 49, 50, 51, 52, 53, 54, 55, 56, 57, 58, 59, 60, 61, 62, 63, 64, 65, 66, 67, 68, 69, 70, 71, 72, 73, 74, 75, 76, 91, 92, 93, 94, 95, 96, 97, 98, 99, 100, 101, 102, 103, 104, 105, 106] (by decide +kernel) (by decide +kernel)
set_option maxRecDepth 20000 in
theorem gX7_cheap_X2_guardsAgainst : GoodIn wsX7_cheap (wsV RX7 261 RX2 yX2_guardsAgainst wsX2_guardsAgainst) := goodIn_app (goodIn_of _ (by decide +kernel)) ggX7_cheap_X2_guardsAgainst
set_option maxRecDepth 20000 in
theorem ggX7_cheap_X2_feeOf : GoodIn wsX7_cheap wsX2_feeOf := goodIn_r _ [80, 56, 81, 91, 92, 93, 94, 95, 96, 97, 98] (by decide +kernel) (by decide +kernel)
set_option maxRecDepth 20000 in
theorem gX7_cheap_X2_feeOf : GoodIn wsX7_cheap (wsV RX7 264 RX2 yX2_feeOf wsX2_feeOf) := goodIn_app (goodIn_of _ (by decide +kernel)) ggX7_cheap_X2_feeOf
theorem dX7_cheap_0 : decode cX7_cheap 0 = .ok (.aload_n 0, 1) := by decide +kernel
theorem dX7_cheap_1 : decode cX7_cheap 1 = .ok (.invokevirtual 133, 3) := by decide +kernel
theorem dX7_cheap_4 : decode cX7_cheap 4 = .ok (.ifCond .eq 6, 3) := by decide +kernel
theorem dX7_cheap_7 : decode cX7_cheap 7 = .ok (.ldc 136, 2) := by decide +kernel
theorem dX7_cheap_9 : decode cX7_cheap 9 = .ok (.ireturn, 1) := by decide +kernel
theorem dX7_cheap_10 : decode cX7_cheap 10 = .ok (.aload_n 0, 1) := by decide +kernel
theorem dX7_cheap_11 : decode cX7_cheap 11 = .ok (.iload_n 1, 1) := by decide +kernel
theorem dX7_cheap_12 : decode cX7_cheap 12 = .ok (.invokevirtual 233, 3) := by decide +kernel
theorem dX7_cheap_15 : decode cX7_cheap 15 = .ok (.ifCond .eq 20, 3) := by decide +kernel
theorem dX7_cheap_18 : decode cX7_cheap 18 = .ok (.aload_n 0, 1) := by decide +kernel
theorem dX7_cheap_19 : decode cX7_cheap 19 = .ok (.iload_n 2, 1) := by decide +kernel
theorem dX7_cheap_20 : decode cX7_cheap 20 = .ok (.invokevirtual 227, 3) := by decide +kernel
theorem dX7_cheap_23 : decode cX7_cheap 23 = .ok (.ifCond .eq 12, 3) := by decide +kernel
theorem dX7_cheap_26 : decode cX7_cheap 26 = .ok (.iload_n 3, 1) := by decide +kernel
theorem dX7_cheap_27 : decode cX7_cheap 27 = .ok (.ifCond .lt 8, 3) := by decide +kernel
theorem dX7_cheap_30 : decode cX7_cheap 30 = .ok (.iload_n 3, 1) := by decide +kernel
theorem dX7_cheap_31 : decode cX7_cheap 31 = .ok (.iconst 1, 1) := by decide +kernel
theorem dX7_cheap_32 : decode cX7_cheap 32 = .ok (.if_icmp .le 6, 3) := by decide +kernel
theorem dX7_cheap_35 : decode cX7_cheap 35 = .ok (.ldc 59, 2) := by decide +kernel
theorem dX7_cheap_37 : decode cX7_cheap 37 = .ok (.ireturn, 1) := by decide +kernel
theorem dX7_cheap_38 : decode cX7_cheap 38 = .ok (.aload_n 0, 1) := by decide +kernel
theorem dX7_cheap_39 : decode cX7_cheap 39 = .ok (.getfield 25, 3) := by decide +kernel
theorem dX7_cheap_42 : decode cX7_cheap 42 = .ok (.iload_n 1, 1) := by decide +kernel
theorem dX7_cheap_43 : decode cX7_cheap 43 = .ok (.iload_n 2, 1) := by decide +kernel
theorem dX7_cheap_44 : decode cX7_cheap 44 = .ok (.invokevirtual 261, 3) := by decide +kernel
theorem dX7_cheap_47 : decode cX7_cheap 47 = .ok (.istore 4, 2) := by decide +kernel
theorem dX7_cheap_49 : decode cX7_cheap 49 = .ok (.iload_n 3, 1) := by decide +kernel
theorem dX7_cheap_50 : decode cX7_cheap 50 = .ok (.ifCond .ne 15, 3) := by decide +kernel
theorem dX7_cheap_53 : decode cX7_cheap 53 = .ok (.aload_n 0, 1) := by decide +kernel
theorem dX7_cheap_54 : decode cX7_cheap 54 = .ok (.getfield 25, 3) := by decide +kernel
theorem dX7_cheap_57 : decode cX7_cheap 57 = .ok (.iload 4, 2) := by decide +kernel
theorem dX7_cheap_59 : decode cX7_cheap 59 = .ok (.invokevirtual 264, 3) := by decide +kernel
theorem dX7_cheap_62 : decode cX7_cheap 62 = .ok (.goto 5, 3) := by decide +kernel
theorem dX7_cheap_65 : decode cX7_cheap 65 = .ok (.iload 4, 2) := by decide +kernel
theorem dX7_cheap_67 : decode cX7_cheap 67 = .ok (.ireturn, 1) := by decide +kernel
set_option maxRecDepth 20000 in
theorem ggX7_near_X7_isWord : GoodIn wsX7_near wsX7_isWord := goodIn_r _ [8, 2, 9, 23, 24, 25, 26, 27, 28, 29, 30, 31, 32, 33, 34, 35, 36, 37, 38, 39] (by decide +kernel) (by decide +kernel)
set_option maxRecDepth 20000 in
theorem gX7_near_X7_isWord : GoodIn wsX7_near (wsV RX7 156 RX7 yX7_isWord wsX7_isWord) := goodIn_app (goodIn_of _ (by decide +kernel)) ggX7_near_X7_isWord
set_option maxRecDepth 20000 in
theorem ggX7_near_X2_nearestTo : GoodIn wsX7_near wsX2_nearestTo := goodIn_r _ [14, 15, 16, 17, 18, 19, 13, 20, 21, 32, 33, 34, 35, 36, 37, 38, 39] (by decide +kernel) (by decide +kernel)
set_option maxRecDepth 20000 in
theorem gX7_near_X2_nearestTo : GoodIn wsX7_near (wsV RX7 267 RX2 yX2_nearestTo wsX2_nearestTo) := goodIn_app (goodIn_of _ (by decide +kernel)) ggX7_near_X2_nearestTo
set_option maxRecDepth 20000 in
theorem ggX7_near_X2_distance : GoodIn wsX7_near wsX2_distance := goodIn_r _ [20, 21, 32, 33, 34, 35, 36, 37, 38, 39] (by decide +kernel) (by decide +kernel)
set_option maxRecDepth 20000 in
theorem gX7_near_X2_distance : GoodIn wsX7_near (wsV RX7 203 RX2 yX2_distance wsX2_distance) := goodIn_app (goodIn_of _ (by decide +kernel)) ggX7_near_X2_distance
theorem dX7_near_0 : decode cX7_near 0 = .ok (.aload_n 0, 1) := by decide +kernel
theorem dX7_near_1 : decode cX7_near 1 = .ok (.iload_n 1, 1) := by decide +kernel
theorem dX7_near_2 : decode cX7_near 2 = .ok (.invokevirtual 156, 3) := by decide +kernel
theorem dX7_near_5 : decode cX7_near 5 = .ok (.ifCond .eq 12, 3) := by decide +kernel
theorem dX7_near_8 : decode cX7_near 8 = .ok (.iload_n 2, 1) := by decide +kernel
theorem dX7_near_9 : decode cX7_near 9 = .ok (.ifCond .lt 8, 3) := by decide +kernel
theorem dX7_near_12 : decode cX7_near 12 = .ok (.iload_n 2, 1) := by decide +kernel
theorem dX7_near_13 : decode cX7_near 13 = .ok (.iconst 1, 1) := by decide +kernel
theorem dX7_near_14 : decode cX7_near 14 = .ok (.if_icmp .le 6, 3) := by decide +kernel
theorem dX7_near_17 : decode cX7_near 17 = .ok (.ldc 59, 2) := by decide +kernel
theorem dX7_near_19 : decode cX7_near 19 = .ok (.ireturn, 1) := by decide +kernel
theorem dX7_near_20 : decode cX7_near 20 = .ok (.aload_n 0, 1) := by decide +kernel
theorem dX7_near_21 : decode cX7_near 21 = .ok (.getfield 25, 3) := by decide +kernel
theorem dX7_near_24 : decode cX7_near 24 = .ok (.iload_n 1, 1) := by decide +kernel
theorem dX7_near_25 : decode cX7_near 25 = .ok (.invokevirtual 267, 3) := by decide +kernel
theorem dX7_near_28 : decode cX7_near 28 = .ok (.istore_n 3, 1) := by decide +kernel
theorem dX7_near_29 : decode cX7_near 29 = .ok (.iload_n 2, 1) := by decide +kernel
theorem dX7_near_30 : decode cX7_near 30 = .ok (.ifCond .eq 9, 3) := by decide +kernel
theorem dX7_near_33 : decode cX7_near 33 = .ok (.iload_n 3, 1) := by decide +kernel
theorem dX7_near_34 : decode cX7_near 34 = .ok (.ldc 175, 2) := by decide +kernel
theorem dX7_near_36 : decode cX7_near 36 = .ok (.if_icmp .ne 7, 3) := by decide +kernel
theorem dX7_near_39 : decode cX7_near 39 = .ok (.iload_n 3, 1) := by decide +kernel
theorem dX7_near_40 : decode cX7_near 40 = .ok (.goto 12, 3) := by decide +kernel
theorem dX7_near_43 : decode cX7_near 43 = .ok (.aload_n 0, 1) := by decide +kernel
theorem dX7_near_44 : decode cX7_near 44 = .ok (.getfield 25, 3) := by decide +kernel
theorem dX7_near_47 : decode cX7_near 47 = .ok (.iload_n 1, 1) := by decide +kernel
theorem dX7_near_48 : decode cX7_near 48 = .ok (.iload_n 3, 1) := by decide +kernel
theorem dX7_near_49 : decode cX7_near 49 = .ok (.invokevirtual 203, 3) := by decide +kernel
theorem dX7_near_52 : decode cX7_near 52 = .ok (.ireturn, 1) := by decide +kernel
set_option maxRecDepth 20000 in
theorem ggX7_rules_X7_noGate : GoodIn wsX7_rules wsX7_noGate := goodIn_r _ [8, 9, 10, 57, 58, 59, 60, 61, 62, 63, 64, 65, 66, 67, 68, 69, 70, 71, 72, 73] (by decide +kernel) (by decide +kernel)
set_option maxRecDepth 20000 in
theorem gX7_rules_X7_noGate : GoodIn wsX7_rules (wsV RX7 133 RX7 yX7_noGate wsX7_noGate) := goodIn_app (goodIn_of _ (by decide +kernel)) ggX7_rules_X7_noGate
set_option maxRecDepth 20000 in
theorem ggX7_rules_X7_isRow : GoodIn wsX7_rules wsX7_isRow := goodIn_r _ [14] (by decide +kernel) (by decide +kernel)
set_option maxRecDepth 20000 in
theorem gX7_rules_X7_isRow : GoodIn wsX7_rules (wsV RX7 55 RX7 yX7_isRow wsX7_isRow) := goodIn_app (goodIn_of _ (by decide +kernel)) ggX7_rules_X7_isRow
set_option maxRecDepth 20000 in
theorem ggX7_rules_X5_findingOf : GoodIn wsX7_rules wsX5_findingOf := goodIn_r _ [19, 20, 21, 22, 23, 18, 24, 25, 74, 75, 76] (by decide +kernel) (by decide +kernel)
set_option maxRecDepth 20000 in
theorem gX7_rules_X5_findingOf : GoodIn wsX7_rules (wsV RX7 71 RX5 yX5_findingOf wsX5_findingOf) := goodIn_app (goodIn_of _ (by decide +kernel)) ggX7_rules_X5_findingOf
set_option maxRecDepth 20000 in
theorem ggX7_rules_X7_found : GoodIn wsX7_rules wsX7_found := goodIn_r _ [29, 30, 31, 57, 58, 59, 60, 61, 62, 63, 64, 65] (by decide +kernel) (by decide +kernel)
set_option maxRecDepth 20000 in
theorem gX7_rules_X7_found : GoodIn wsX7_rules (wsV RX7 60 RX7 yX7_found wsX7_found) := goodIn_app (goodIn_of _ (by decide +kernel)) ggX7_rules_X7_found
set_option maxRecDepth 20000 in
theorem ggX7_rules_X7_rulesThatTell : GoodIn wsX7_rules wsX7_rulesThatTell := goodIn_r _ [35, 9, 36, 37, 38, 39, 40, 41, 42, 43, 44, 45, 46, 47, 48, 7, 49, 50, 51, 52, 57, 58, 59, 60, 61, 62, 63, 64, 65, 66, 67, 68, 69, 70, 71, 72, 73, 77, 78, 79, 80, 81, 82, 83, 84, 74, 75, 76] (by decide +kernel) (by decide +kernel)
set_option maxRecDepth 20000 in
theorem gX7_rules_X7_rulesThatTell : GoodIn wsX7_rules (wsV RX7 270 RX7 yX7_rulesThatTell wsX7_rulesThatTell) := goodIn_app (goodIn_of _ (by decide +kernel)) ggX7_rules_X7_rulesThatTell
set_option maxRecDepth 20000 in
theorem ggX7_rules_X7_unfound : GoodIn wsX7_rules wsX7_unfound := goodIn_r _ [56, 30, 57, 58, 59, 60, 61, 62, 63, 64, 65] (by decide +kernel) (by decide +kernel)
set_option maxRecDepth 20000 in
theorem gX7_rules_X7_unfound : GoodIn wsX7_rules (wsV RX7 68 RX7 yX7_unfound wsX7_unfound) := goodIn_app (goodIn_of _ (by decide +kernel)) ggX7_rules_X7_unfound
theorem dX7_rules_0 : decode cX7_rules 0 = .ok (.aload_n 0, 1) := by decide +kernel
theorem dX7_rules_1 : decode cX7_rules 1 = .ok (.invokevirtual 133, 3) := by decide +kernel
theorem dX7_rules_4 : decode cX7_rules 4 = .ok (.ifCond .eq 6, 3) := by decide +kernel
theorem dX7_rules_7 : decode cX7_rules 7 = .ok (.ldc 136, 2) := by decide +kernel
theorem dX7_rules_9 : decode cX7_rules 9 = .ok (.ireturn, 1) := by decide +kernel
theorem dX7_rules_10 : decode cX7_rules 10 = .ok (.aload_n 0, 1) := by decide +kernel
theorem dX7_rules_11 : decode cX7_rules 11 = .ok (.iload_n 1, 1) := by decide +kernel
theorem dX7_rules_12 : decode cX7_rules 12 = .ok (.invokevirtual 55, 3) := by decide +kernel
theorem dX7_rules_15 : decode cX7_rules 15 = .ok (.ifCond .eq 25, 3) := by decide +kernel
theorem dX7_rules_18 : decode cX7_rules 18 = .ok (.iload_n 3, 1) := by decide +kernel
theorem dX7_rules_19 : decode cX7_rules 19 = .ok (.iconst 1, 1) := by decide +kernel
theorem dX7_rules_20 : decode cX7_rules 20 = .ok (.if_icmp .lt 20, 3) := by decide +kernel
theorem dX7_rules_23 : decode cX7_rules 23 = .ok (.iload_n 3, 1) := by decide +kernel
theorem dX7_rules_24 : decode cX7_rules 24 = .ok (.bipush 16, 2) := by decide +kernel
theorem dX7_rules_26 : decode cX7_rules 26 = .ok (.if_icmp .gt 14, 3) := by decide +kernel
theorem dX7_rules_29 : decode cX7_rules 29 = .ok (.iload 4, 2) := by decide +kernel
theorem dX7_rules_31 : decode cX7_rules 31 = .ok (.ifCond .lt 9, 3) := by decide +kernel
theorem dX7_rules_34 : decode cX7_rules 34 = .ok (.iload 4, 2) := by decide +kernel
theorem dX7_rules_36 : decode cX7_rules 36 = .ok (.iconst 2, 1) := by decide +kernel
theorem dX7_rules_37 : decode cX7_rules 37 = .ok (.if_icmp .le 6, 3) := by decide +kernel
theorem dX7_rules_40 : decode cX7_rules 40 = .ok (.ldc 59, 2) := by decide +kernel
theorem dX7_rules_42 : decode cX7_rules 42 = .ok (.ireturn, 1) := by decide +kernel
theorem dX7_rules_43 : decode cX7_rules 43 = .ok (.aload_n 0, 1) := by decide +kernel
theorem dX7_rules_44 : decode cX7_rules 44 = .ok (.getfield 11, 3) := by decide +kernel
theorem dX7_rules_47 : decode cX7_rules 47 = .ok (.iload_n 1, 1) := by decide +kernel
theorem dX7_rules_48 : decode cX7_rules 48 = .ok (.aaload, 1) := by decide +kernel
theorem dX7_rules_49 : decode cX7_rules 49 = .ok (.iload_n 2, 1) := by decide +kernel
theorem dX7_rules_50 : decode cX7_rules 50 = .ok (.iload_n 3, 1) := by decide +kernel
theorem dX7_rules_51 : decode cX7_rules 51 = .ok (.invokevirtual 71, 3) := by decide +kernel
theorem dX7_rules_54 : decode cX7_rules 54 = .ok (.istore 5, 2) := by decide +kernel
theorem dX7_rules_56 : decode cX7_rules 56 = .ok (.iload 5, 2) := by decide +kernel
theorem dX7_rules_58 : decode cX7_rules 58 = .ok (.ifCond .eq 12, 3) := by decide +kernel
theorem dX7_rules_61 : decode cX7_rules 61 = .ok (.aload_n 0, 1) := by decide +kernel
theorem dX7_rules_62 : decode cX7_rules 62 = .ok (.iload 5, 2) := by decide +kernel
theorem dX7_rules_64 : decode cX7_rules 64 = .ok (.invokevirtual 60, 3) := by decide +kernel
theorem dX7_rules_67 : decode cX7_rules 67 = .ok (.goto 21, 3) := by decide +kernel
theorem dX7_rules_70 : decode cX7_rules 70 = .ok (.aload_n 0, 1) := by decide +kernel
theorem dX7_rules_71 : decode cX7_rules 71 = .ok (.aload_n 0, 1) := by decide +kernel
theorem dX7_rules_72 : decode cX7_rules 72 = .ok (.aload_n 0, 1) := by decide +kernel
theorem dX7_rules_73 : decode cX7_rules 73 = .ok (.getfield 11, 3) := by decide +kernel
theorem dX7_rules_76 : decode cX7_rules 76 = .ok (.iload_n 1, 1) := by decide +kernel
theorem dX7_rules_77 : decode cX7_rules 77 = .ok (.aaload, 1) := by decide +kernel
theorem dX7_rules_78 : decode cX7_rules 78 = .ok (.iload_n 2, 1) := by decide +kernel
theorem dX7_rules_79 : decode cX7_rules 79 = .ok (.iload_n 3, 1) := by decide +kernel
theorem dX7_rules_80 : decode cX7_rules 80 = .ok (.iload 4, 2) := by decide +kernel
theorem dX7_rules_82 : decode cX7_rules 82 = .ok (.invokevirtual 270, 3) := by decide +kernel
theorem dX7_rules_85 : decode cX7_rules 85 = .ok (.invokevirtual 68, 3) := by decide +kernel
theorem dX7_rules_88 : decode cX7_rules 88 = .ok (.ireturn, 1) := by decide +kernel
set_option maxRecDepth 20000 in
theorem ggX7_fits_X7_isGuard : GoodIn wsX7_fits wsX7_isGuard := goodIn_r _ [10, 3, 11, 85, 86, 87, 88, 89, 90, 91, 92, 93, 94, 95, 96, 97, 98, 99, 100, 101] (by decide +kernel) (by decide +kernel)
set_option maxRecDepth 20000 in
theorem gX7_fits_X7_isGuard : GoodIn wsX7_fits (wsV RX7 187 RX7 yX7_isGuard wsX7_isGuard) := goodIn_app (goodIn_of _ (by decide +kernel)) ggX7_fits_X7_isGuard
set_option maxRecDepth 20000 in
theorem ggX7_fits_X7_isRow : GoodIn wsX7_fits wsX7_isRow := goodIn_r _ [15] (by decide +kernel) (by decide +kernel)
set_option maxRecDepth 20000 in
theorem gX7_fits_X7_isRow : GoodIn wsX7_fits (wsV RX7 55 RX7 yX7_isRow wsX7_isRow) := goodIn_app (goodIn_of _ (by decide +kernel)) ggX7_fits_X7_isRow
set_option maxRecDepth 20000 in
theorem ggX7_fits_X5_findingOf : GoodIn wsX7_fits wsX5_findingOf := goodIn_r _ [20, 21, 22, 23, 24, 19, 25, 26, 102, 103, 104] (by decide +kernel) (by decide +kernel)
set_option maxRecDepth 20000 in
theorem gX7_fits_X5_findingOf : GoodIn wsX7_fits (wsV RX7 71 RX5 yX5_findingOf wsX5_findingOf) := goodIn_app (goodIn_of _ (by decide +kernel)) ggX7_fits_X5_findingOf
set_option maxRecDepth 20000 in
theorem ggX7_fits_X7_found : GoodIn wsX7_fits wsX7_found := goodIn_r _ [30, 31, 32, 85, 86, 87, 88, 89, 90, 91, 92, 93] (by decide +kernel) (by decide +kernel)
set_option maxRecDepth 20000 in
theorem gX7_fits_X7_found : GoodIn wsX7_fits (wsV RX7 60 RX7 yX7_found wsX7_found) := goodIn_app (goodIn_of _ (by decide +kernel)) ggX7_fits_X7_found
set_option maxRecDepth 20000 in
theorem ggX7_fits_X7_kindsThatFit : GoodIn wsX7_fits wsX7_kindsThatFit := goodIn_r _ [36, 3, 37, 38, 39, 40, 41, 42, 43, 44, 45, 46, 47, 48, 49, 50, 51, 52, 9, 53, 54, 55, 56, 57, 4, 58, 59, 60, 61, 62, 63, 64, 65, 66, 67, 68, 69, 70, 71, 72, 73, 74, 75, 76, 85, 86, 87, 88, 89, 90, 91, 92, 93, 94, 95, 96, 97, 98, 99, 100, 101, 105, 106, 107, 108, 109, 110, 111, 112, 102, 103, 104] (by decide +kernel) (by decide +kernel)
set_option maxRecDepth 20000 in
theorem gX7_fits_X7_kindsThatFit : GoodIn wsX7_fits (wsV RX7 274 RX7 yX7_kindsThatFit wsX7_kindsThatFit) := goodIn_app (goodIn_of _ (by decide +kernel)) ggX7_fits_X7_kindsThatFit
set_option maxRecDepth 20000 in
theorem ggX7_fits_X7_secretsThatFit : GoodIn wsX7_fits wsX7_secretsThatFit := goodIn_r _ [80, 3, 4, 54, 55, 56, 9, 57, 58, 59, 60, 61, 62, 63, 40, 64, 65, 66, 67, 68, 69, 70, 71, 72, 73, 74, 75, 76, 85, 86, 87, 88, 89, 90, 91, 92, 93, 94, 95, 96, 97, 98, 99, 100, 101, 105, 106, 107, 108, 109, 110, 111, 112, 102, 103, 104] (by decide +kernel) (by decide +kernel)
set_option maxRecDepth 20000 in
theorem gX7_fits_X7_secretsThatFit : GoodIn wsX7_fits (wsV RX7 281 RX7 yX7_secretsThatFit wsX7_secretsThatFit) := goodIn_app (goodIn_of _ (by decide +kernel)) ggX7_fits_X7_secretsThatFit
set_option maxRecDepth 20000 in
theorem ggX7_fits_X7_unfound : GoodIn wsX7_fits wsX7_unfound := goodIn_r _ [84, 31, 85, 86, 87, 88, 89, 90, 91, 92, 93] (by decide +kernel) (by decide +kernel)
set_option maxRecDepth 20000 in
theorem gX7_fits_X7_unfound : GoodIn wsX7_fits (wsV RX7 68 RX7 yX7_unfound wsX7_unfound) := goodIn_app (goodIn_of _ (by decide +kernel)) ggX7_fits_X7_unfound
theorem dX7_fits_0 : decode cX7_fits 0 = .ok (.aload_n 0, 1) := by decide +kernel
theorem dX7_fits_1 : decode cX7_fits 1 = .ok (.iload_n 1, 1) := by decide +kernel
theorem dX7_fits_2 : decode cX7_fits 2 = .ok (.invokevirtual 187, 3) := by decide +kernel
theorem dX7_fits_5 : decode cX7_fits 5 = .ok (.ifCond .eq 22, 3) := by decide +kernel
theorem dX7_fits_8 : decode cX7_fits 8 = .ok (.aload_n 0, 1) := by decide +kernel
theorem dX7_fits_9 : decode cX7_fits 9 = .ok (.iload_n 2, 1) := by decide +kernel
theorem dX7_fits_10 : decode cX7_fits 10 = .ok (.invokevirtual 55, 3) := by decide +kernel
theorem dX7_fits_13 : decode cX7_fits 13 = .ok (.ifCond .eq 14, 3) := by decide +kernel
theorem dX7_fits_16 : decode cX7_fits 16 = .ok (.iload 4, 2) := by decide +kernel
theorem dX7_fits_18 : decode cX7_fits 18 = .ok (.ifCond .lt 9, 3) := by decide +kernel
theorem dX7_fits_21 : decode cX7_fits 21 = .ok (.iload 4, 2) := by decide +kernel
theorem dX7_fits_23 : decode cX7_fits 23 = .ok (.iconst 1, 1) := by decide +kernel
theorem dX7_fits_24 : decode cX7_fits 24 = .ok (.if_icmp .le 6, 3) := by decide +kernel
theorem dX7_fits_27 : decode cX7_fits 27 = .ok (.ldc 59, 2) := by decide +kernel
theorem dX7_fits_29 : decode cX7_fits 29 = .ok (.ireturn, 1) := by decide +kernel
theorem dX7_fits_30 : decode cX7_fits 30 = .ok (.aload_n 0, 1) := by decide +kernel
theorem dX7_fits_31 : decode cX7_fits 31 = .ok (.getfield 11, 3) := by decide +kernel
theorem dX7_fits_34 : decode cX7_fits 34 = .ok (.iload_n 2, 1) := by decide +kernel
theorem dX7_fits_35 : decode cX7_fits 35 = .ok (.aaload, 1) := by decide +kernel
theorem dX7_fits_36 : decode cX7_fits 36 = .ok (.iload_n 3, 1) := by decide +kernel
theorem dX7_fits_37 : decode cX7_fits 37 = .ok (.aload_n 0, 1) := by decide +kernel
theorem dX7_fits_38 : decode cX7_fits 38 = .ok (.getfield 25, 3) := by decide +kernel
theorem dX7_fits_41 : decode cX7_fits 41 = .ok (.getfield 130, 3) := by decide +kernel
theorem dX7_fits_44 : decode cX7_fits 44 = .ok (.invokevirtual 71, 3) := by decide +kernel
theorem dX7_fits_47 : decode cX7_fits 47 = .ok (.istore 5, 2) := by decide +kernel
theorem dX7_fits_49 : decode cX7_fits 49 = .ok (.iload 5, 2) := by decide +kernel
theorem dX7_fits_51 : decode cX7_fits 51 = .ok (.ifCond .eq 10, 3) := by decide +kernel
theorem dX7_fits_54 : decode cX7_fits 54 = .ok (.aload_n 0, 1) := by decide +kernel
theorem dX7_fits_55 : decode cX7_fits 55 = .ok (.iload 5, 2) := by decide +kernel
theorem dX7_fits_57 : decode cX7_fits 57 = .ok (.invokevirtual 60, 3) := by decide +kernel
theorem dX7_fits_60 : decode cX7_fits 60 = .ok (.ireturn, 1) := by decide +kernel
theorem dX7_fits_61 : decode cX7_fits 61 = .ok (.aload_n 0, 1) := by decide +kernel
theorem dX7_fits_62 : decode cX7_fits 62 = .ok (.iload 4, 2) := by decide +kernel
theorem dX7_fits_64 : decode cX7_fits 64 = .ok (.ifCond .ne 17, 3) := by decide +kernel
theorem dX7_fits_67 : decode cX7_fits 67 = .ok (.aload_n 0, 1) := by decide +kernel
theorem dX7_fits_68 : decode cX7_fits 68 = .ok (.aload_n 0, 1) := by decide +kernel
theorem dX7_fits_69 : decode cX7_fits 69 = .ok (.getfield 11, 3) := by decide +kernel
theorem dX7_fits_72 : decode cX7_fits 72 = .ok (.iload_n 2, 1) := by decide +kernel
theorem dX7_fits_73 : decode cX7_fits 73 = .ok (.aaload, 1) := by decide +kernel
theorem dX7_fits_74 : decode cX7_fits 74 = .ok (.iload_n 3, 1) := by decide +kernel
theorem dX7_fits_75 : decode cX7_fits 75 = .ok (.invokevirtual 274, 3) := by decide +kernel
theorem dX7_fits_78 : decode cX7_fits 78 = .ok (.goto 23, 3) := by decide +kernel
theorem dX7_fits_81 : decode cX7_fits 81 = .ok (.aload_n 0, 1) := by decide +kernel
theorem dX7_fits_82 : decode cX7_fits 82 = .ok (.aload_n 0, 1) := by decide +kernel
theorem dX7_fits_83 : decode cX7_fits 83 = .ok (.getfield 25, 3) := by decide +kernel
theorem dX7_fits_86 : decode cX7_fits 86 = .ok (.getfield 278, 3) := by decide +kernel
theorem dX7_fits_89 : decode cX7_fits 89 = .ok (.iload_n 1, 1) := by decide +kernel
theorem dX7_fits_90 : decode cX7_fits 90 = .ok (.iaload, 1) := by decide +kernel
theorem dX7_fits_91 : decode cX7_fits 91 = .ok (.aload_n 0, 1) := by decide +kernel
theorem dX7_fits_92 : decode cX7_fits 92 = .ok (.getfield 11, 3) := by decide +kernel
theorem dX7_fits_95 : decode cX7_fits 95 = .ok (.iload_n 2, 1) := by decide +kernel
theorem dX7_fits_96 : decode cX7_fits 96 = .ok (.aaload, 1) := by decide +kernel
theorem dX7_fits_97 : decode cX7_fits 97 = .ok (.iload_n 3, 1) := by decide +kernel
theorem dX7_fits_98 : decode cX7_fits 98 = .ok (.invokevirtual 281, 3) := by decide +kernel
theorem dX7_fits_101 : decode cX7_fits 101 = .ok (.invokevirtual 68, 3) := by decide +kernel
theorem dX7_fits_104 : decode cX7_fits 104 = .ok (.ireturn, 1) := by decide +kernel
set_option maxRecDepth 20000 in
theorem ggX7_sure_X7_isWord : GoodIn wsX7_sure wsX7_isWord := goodIn_r _ [7, 2, 8, 80, 81, 82, 83, 84, 85, 86, 87, 88, 89, 90, 91, 92, 93, 94, 95, 96] (by decide +kernel) (by decide +kernel)
set_option maxRecDepth 20000 in
theorem gX7_sure_X7_isWord : GoodIn wsX7_sure (wsV RX7 156 RX7 yX7_isWord wsX7_isWord) := goodIn_app (goodIn_of _ (by decide +kernel)) ggX7_sure_X7_isWord
set_option maxRecDepth 20000 in
theorem ggX7_sure_X7_isHour : GoodIn wsX7_sure wsX7_isHour := goodIn_r _ [12] (by decide +kernel) (by decide +kernel)
set_option maxRecDepth 20000 in
theorem gX7_sure_X7_isHour : GoodIn wsX7_sure (wsV RX7 159 RX7 yX7_isHour wsX7_isHour) := goodIn_app (goodIn_of _ (by decide +kernel)) ggX7_sure_X7_isHour
set_option maxRecDepth 20000 in
theorem ggX7_sure_X3_agreeing : GoodIn wsX7_sure wsX3_agreeing := goodIn_r _ [16, 17, 18, 19, 15, 20, 21, 22, 23, 24, 25, 26, 27, 28, 29, 30, 31, 32, 33, 34, 35, 36, 37, 38, 39, 40, 41, 42, 43, 6, 44, 89, 90, 91, 92, 93, 94, 95, 96, 97, 98, 99, 100, 101, 102, 103, 104] (by decide +kernel) (by decide +kernel)
set_option maxRecDepth 20000 in
theorem gX7_sure_X3_agreeing : GoodIn wsX7_sure (va_wsS RX7 242 yX3_agreeing wsX3_agreeing) := goodIn_app (goodIn_of _ (by decide +kernel)) ggX7_sure_X3_agreeing
set_option maxRecDepth 20000 in
theorem ggX7_sure_J6_bitCount_0f7a4 : GoodIn wsX7_sure wsJ6_bitCount_0f7a4 := goodIn_r _ [48, 49, 50, 51] (by decide +kernel) (by decide +kernel)
set_option maxRecDepth 20000 in
theorem gX7_sure_J6_bitCount_0f7a4 : GoodIn wsX7_sure (va_wsS RX7 285 yJ6_bitCount_0f7a4 wsJ6_bitCount_0f7a4) := goodIn_app (goodIn_of _ (by decide +kernel)) ggX7_sure_J6_bitCount_0f7a4
set_option maxRecDepth 20000 in
theorem ggX7_sure_X3_secretsCatching : GoodIn wsX7_sure wsX3_secretsCatching := goodIn_r _ [54, 17, 21, 27, 55, 56, 57, 32, 58, 59, 60, 61, 62, 63, 64, 65, 6, 66, 67, 68, 69, 70, 71, 72, 73, 30, 31, 33, 34, 35, 36, 37, 38, 39, 40, 41, 42, 43, 44, 89, 90, 91, 92, 93, 94, 95, 96, 97, 98, 99, 100, 101, 102, 103, 104] (by decide +kernel) (by decide +kernel)
set_option maxRecDepth 20000 in
theorem gX7_sure_X3_secretsCatching : GoodIn wsX7_sure (va_wsS RX7 290 yX3_secretsCatching wsX3_secretsCatching) := goodIn_app (goodIn_of _ (by decide +kernel)) ggX7_sure_X3_secretsCatching
set_option maxRecDepth 20000 in
theorem ggX7_sure_X7_commonDivisor : GoodIn wsX7_sure wsX7_commonDivisor := goodIn_r _ [76] (by decide +kernel) (by decide +kernel)
set_option maxRecDepth 20000 in
theorem gX7_sure_X7_commonDivisor : GoodIn wsX7_sure (va_wsS RX7 293 yX7_commonDivisor wsX7_commonDivisor) := goodIn_app (goodIn_of _ (by decide +kernel)) ggX7_sure_X7_commonDivisor
set_option maxRecDepth 20000 in
theorem ggX7_sure_X7_lowest : GoodIn wsX7_sure wsX7_lowest := goodIn_r _ [79] (by decide +kernel) (by decide +kernel)
set_option maxRecDepth 20000 in
theorem gX7_sure_X7_lowest : GoodIn wsX7_sure (va_wsS RX7 296 yX7_lowest wsX7_lowest) := goodIn_app (goodIn_of _ (by decide +kernel)) ggX7_sure_X7_lowest
theorem dX7_sure_0 : decode cX7_sure 0 = .ok (.aload_n 0, 1) := by decide +kernel
theorem dX7_sure_1 : decode cX7_sure 1 = .ok (.iload_n 1, 1) := by decide +kernel
theorem dX7_sure_2 : decode cX7_sure 2 = .ok (.invokevirtual 156, 3) := by decide +kernel
theorem dX7_sure_5 : decode cX7_sure 5 = .ok (.ifCond .eq 32, 3) := by decide +kernel
theorem dX7_sure_8 : decode cX7_sure 8 = .ok (.aload_n 0, 1) := by decide +kernel
theorem dX7_sure_9 : decode cX7_sure 9 = .ok (.iload_n 2, 1) := by decide +kernel
theorem dX7_sure_10 : decode cX7_sure 10 = .ok (.invokevirtual 159, 3) := by decide +kernel
theorem dX7_sure_13 : decode cX7_sure 13 = .ok (.ifCond .eq 24, 3) := by decide +kernel
theorem dX7_sure_16 : decode cX7_sure 16 = .ok (.iload_n 3, 1) := by decide +kernel
theorem dX7_sure_17 : decode cX7_sure 17 = .ok (.ifCond .lt 20, 3) := by decide +kernel
theorem dX7_sure_20 : decode cX7_sure 20 = .ok (.iload_n 3, 1) := by decide +kernel
theorem dX7_sure_21 : decode cX7_sure 21 = .ok (.bipush 10, 2) := by decide +kernel
theorem dX7_sure_23 : decode cX7_sure 23 = .ok (.if_icmp .gt 14, 3) := by decide +kernel
theorem dX7_sure_26 : decode cX7_sure 26 = .ok (.iload 4, 2) := by decide +kernel
theorem dX7_sure_28 : decode cX7_sure 28 = .ok (.ifCond .lt 9, 3) := by decide +kernel
theorem dX7_sure_31 : decode cX7_sure 31 = .ok (.iload 4, 2) := by decide +kernel
theorem dX7_sure_33 : decode cX7_sure 33 = .ok (.iconst 1, 1) := by decide +kernel
theorem dX7_sure_34 : decode cX7_sure 34 = .ok (.if_icmp .le 6, 3) := by decide +kernel
theorem dX7_sure_37 : decode cX7_sure 37 = .ok (.ldc 59, 2) := by decide +kernel
theorem dX7_sure_39 : decode cX7_sure 39 = .ok (.ireturn, 1) := by decide +kernel
theorem dX7_sure_40 : decode cX7_sure 40 = .ok (.aload_n 0, 1) := by decide +kernel
theorem dX7_sure_41 : decode cX7_sure 41 = .ok (.getfield 25, 3) := by decide +kernel
theorem dX7_sure_44 : decode cX7_sure 44 = .ok (.invokestatic 242, 3) := by decide +kernel
theorem dX7_sure_47 : decode cX7_sure 47 = .ok (.istore 5, 2) := by decide +kernel
theorem dX7_sure_49 : decode cX7_sure 49 = .ok (.iload 5, 2) := by decide +kernel
theorem dX7_sure_51 : decode cX7_sure 51 = .ok (.invokestatic 285, 3) := by decide +kernel
theorem dX7_sure_54 : decode cX7_sure 54 = .ok (.istore 6, 2) := by decide +kernel
theorem dX7_sure_56 : decode cX7_sure 56 = .ok (.iload 5, 2) := by decide +kernel
theorem dX7_sure_58 : decode cX7_sure 58 = .ok (.aload_n 0, 1) := by decide +kernel
theorem dX7_sure_59 : decode cX7_sure 59 = .ok (.getfield 25, 3) := by decide +kernel
theorem dX7_sure_62 : decode cX7_sure 62 = .ok (.iload_n 1, 1) := by decide +kernel
theorem dX7_sure_63 : decode cX7_sure 63 = .ok (.iload_n 2, 1) := by decide +kernel
theorem dX7_sure_64 : decode cX7_sure 64 = .ok (.invokestatic 290, 3) := by decide +kernel
theorem dX7_sure_67 : decode cX7_sure 67 = .ok (.iand, 1) := by decide +kernel
theorem dX7_sure_68 : decode cX7_sure 68 = .ok (.invokestatic 285, 3) := by decide +kernel
theorem dX7_sure_71 : decode cX7_sure 71 = .ok (.istore 7, 2) := by decide +kernel
theorem dX7_sure_73 : decode cX7_sure 73 = .ok (.iload 6, 2) := by decide +kernel
theorem dX7_sure_75 : decode cX7_sure 75 = .ok (.iload 7, 2) := by decide +kernel
theorem dX7_sure_77 : decode cX7_sure 77 = .ok (.isub, 1) := by decide +kernel
theorem dX7_sure_78 : decode cX7_sure 78 = .ok (.bipush 10, 2) := by decide +kernel
theorem dX7_sure_80 : decode cX7_sure 80 = .ok (.imul, 1) := by decide +kernel
theorem dX7_sure_81 : decode cX7_sure 81 = .ok (.iload 7, 2) := by decide +kernel
theorem dX7_sure_83 : decode cX7_sure 83 = .ok (.iload_n 3, 1) := by decide +kernel
theorem dX7_sure_84 : decode cX7_sure 84 = .ok (.imul, 1) := by decide +kernel
theorem dX7_sure_85 : decode cX7_sure 85 = .ok (.iadd, 1) := by decide +kernel
theorem dX7_sure_86 : decode cX7_sure 86 = .ok (.istore 8, 2) := by decide +kernel
theorem dX7_sure_88 : decode cX7_sure 88 = .ok (.iload 6, 2) := by decide +kernel
theorem dX7_sure_90 : decode cX7_sure 90 = .ok (.ifCond .ne 7, 3) := by decide +kernel
theorem dX7_sure_93 : decode cX7_sure 93 = .ok (.iconst 1, 1) := by decide +kernel
theorem dX7_sure_94 : decode cX7_sure 94 = .ok (.goto 8, 3) := by decide +kernel
theorem dX7_sure_97 : decode cX7_sure 97 = .ok (.iload 6, 2) := by decide +kernel
theorem dX7_sure_99 : decode cX7_sure 99 = .ok (.bipush 10, 2) := by decide +kernel
theorem dX7_sure_101 : decode cX7_sure 101 = .ok (.imul, 1) := by decide +kernel
theorem dX7_sure_102 : decode cX7_sure 102 = .ok (.istore 9, 2) := by decide +kernel
theorem dX7_sure_104 : decode cX7_sure 104 = .ok (.iload 4, 2) := by decide +kernel
theorem dX7_sure_106 : decode cX7_sure 106 = .ok (.ifCond .ne 8, 3) := by decide +kernel
theorem dX7_sure_109 : decode cX7_sure 109 = .ok (.iload 8, 2) := by decide +kernel
theorem dX7_sure_111 : decode cX7_sure 111 = .ok (.goto 5, 3) := by decide +kernel
theorem dX7_sure_114 : decode cX7_sure 114 = .ok (.iload 9, 2) := by decide +kernel
theorem dX7_sure_116 : decode cX7_sure 116 = .ok (.iload 8, 2) := by decide +kernel
theorem dX7_sure_118 : decode cX7_sure 118 = .ok (.iload 9, 2) := by decide +kernel
theorem dX7_sure_120 : decode cX7_sure 120 = .ok (.invokestatic 293, 3) := by decide +kernel
theorem dX7_sure_123 : decode cX7_sure 123 = .ok (.invokestatic 296, 3) := by decide +kernel
theorem dX7_sure_126 : decode cX7_sure 126 = .ok (.ireturn, 1) := by decide +kernel
set_option maxRecDepth 20000 in
theorem ggX7_drawn_X7_noGate : GoodIn wsX7_drawn wsX7_noGate := goodIn_r _ [12, 6, 7, 63, 64, 65, 66, 67, 68, 69, 70, 71, 72, 73, 74, 75, 76, 77, 78, 79] (by decide +kernel) (by decide +kernel)
