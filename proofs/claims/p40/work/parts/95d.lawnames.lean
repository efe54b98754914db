theorem dL_law_913 : decode cL_law 913 = .ok (.iload_n 3, 1) := tb_d tk_L_law_15 27 (913, .iload_n 3, 1) rfl
theorem dL_law_914 : decode cL_law 914 = .ok (.iconst 4, 1) := tb_d tk_L_law_15 28 (914, .iconst 4, 1) rfl
theorem dL_law_915 : decode cL_law 915 = .ok (.iadd, 1) := tb_d tk_L_law_15 29 (915, .iadd, 1) rfl
theorem dL_law_916 : decode cL_law 916 = .ok (.iaload, 1) := tb_d tk_L_law_15 30 (916, .iaload, 1) rfl
theorem dL_law_917 : decode cL_law 917 = .ok (.invokevirtual 114, 3) := tb_d tk_L_law_15 31 (917, .invokevirtual 114, 3) rfl
theorem dL_law_920 : decode cL_law 920 = .ok (.pop, 1) := tb_d tk_L_law_15 32 (920, .pop, 1) rfl
theorem dL_law_921 : decode cL_law 921 = .ok (.aload_n 2, 1) := tb_d tk_L_law_15 33 (921, .aload_n 2, 1) rfl
theorem dL_law_922 : decode cL_law 922 = .ok (.aload_n 0, 1) := tb_d tk_L_law_15 34 (922, .aload_n 0, 1) rfl
theorem dL_law_923 : decode cL_law 923 = .ok (.iload_n 3, 1) := tb_d tk_L_law_15 35 (923, .iload_n 3, 1) rfl
theorem dL_law_924 : decode cL_law 924 = .ok (.iconst 1, 1) := tb_d tk_L_law_15 36 (924, .iconst 1, 1) rfl
theorem dL_law_925 : decode cL_law 925 = .ok (.iadd, 1) := tb_d tk_L_law_15 37 (925, .iadd, 1) rfl
theorem dL_law_926 : decode cL_law 926 = .ok (.iaload, 1) := tb_d tk_L_law_15 38 (926, .iaload, 1) rfl
theorem dL_law_927 : decode cL_law 927 = .ok (.aload_n 0, 1) := tb_d tk_L_law_15 39 (927, .aload_n 0, 1) rfl
def tb_L_law_16 : List (Nat × Instr × Nat) := [(928, .iload_n 3, 1), (929, .iconst 2, 1), (930, .iadd, 1), (931, .iaload, 1), (932, .aload_n 0, 1), (933, .iload_n 3, 1), (934, .iconst 3, 1), (935, .iadd, 1), (936, .iaload, 1), (937, .aload_n 0, 1), (938, .iload_n 3, 1), (939, .iconst 4, 1), (940, .iadd, 1), (941, .iaload, 1), (942, .invokevirtual 118, 3), (945, .pop, 1), (946, .goto 475, 3), (949, .aload_n 1, 1), (950, .aload_n 0, 1), (951, .iload_n 3, 1), (952, .iconst 1, 1), (953, .iadd, 1), (954, .iaload, 1), (955, .aload_n 0, 1), (956, .iload_n 3, 1), (957, .iconst 2, 1), (958, .iadd, 1), (959, .iaload, 1), (960, .aload_n 0, 1), (961, .iload_n 3, 1), (962, .iconst 3, 1), (963, .iadd, 1), (964, .iaload, 1), (965, .invokevirtual 119, 3), (968, .pop, 1), (969, .aload_n 2, 1), (970, .aload_n 0, 1), (971, .iload_n 3, 1), (972, .iconst 1, 1), (973, .iadd, 1)]
set_option maxRecDepth 100000 in
theorem tk_L_law_16 : (tb_L_law_16.all fun q => decide (decode cL_law q.1 = .ok q.2)) = true := by decide +kernel
theorem dL_law_928 : decode cL_law 928 = .ok (.iload_n 3, 1) := tb_d tk_L_law_16 0 (928, .iload_n 3, 1) rfl
theorem dL_law_929 : decode cL_law 929 = .ok (.iconst 2, 1) := tb_d tk_L_law_16 1 (929, .iconst 2, 1) rfl
theorem dL_law_930 : decode cL_law 930 = .ok (.iadd, 1) := tb_d tk_L_law_16 2 (930, .iadd, 1) rfl
theorem dL_law_931 : decode cL_law 931 = .ok (.iaload, 1) := tb_d tk_L_law_16 3 (931, .iaload, 1) rfl
theorem dL_law_932 : decode cL_law 932 = .ok (.aload_n 0, 1) := tb_d tk_L_law_16 4 (932, .aload_n 0, 1) rfl
theorem dL_law_933 : decode cL_law 933 = .ok (.iload_n 3, 1) := tb_d tk_L_law_16 5 (933, .iload_n 3, 1) rfl
theorem dL_law_934 : decode cL_law 934 = .ok (.iconst 3, 1) := tb_d tk_L_law_16 6 (934, .iconst 3, 1) rfl
theorem dL_law_935 : decode cL_law 935 = .ok (.iadd, 1) := tb_d tk_L_law_16 7 (935, .iadd, 1) rfl
theorem dL_law_936 : decode cL_law 936 = .ok (.iaload, 1) := tb_d tk_L_law_16 8 (936, .iaload, 1) rfl
theorem dL_law_937 : decode cL_law 937 = .ok (.aload_n 0, 1) := tb_d tk_L_law_16 9 (937, .aload_n 0, 1) rfl
theorem dL_law_938 : decode cL_law 938 = .ok (.iload_n 3, 1) := tb_d tk_L_law_16 10 (938, .iload_n 3, 1) rfl
theorem dL_law_939 : decode cL_law 939 = .ok (.iconst 4, 1) := tb_d tk_L_law_16 11 (939, .iconst 4, 1) rfl
theorem dL_law_940 : decode cL_law 940 = .ok (.iadd, 1) := tb_d tk_L_law_16 12 (940, .iadd, 1) rfl
theorem dL_law_941 : decode cL_law 941 = .ok (.iaload, 1) := tb_d tk_L_law_16 13 (941, .iaload, 1) rfl
theorem dL_law_942 : decode cL_law 942 = .ok (.invokevirtual 118, 3) := tb_d tk_L_law_16 14 (942, .invokevirtual 118, 3) rfl
theorem dL_law_945 : decode cL_law 945 = .ok (.pop, 1) := tb_d tk_L_law_16 15 (945, .pop, 1) rfl
theorem dL_law_946 : decode cL_law 946 = .ok (.goto 475, 3) := tb_d tk_L_law_16 16 (946, .goto 475, 3) rfl
theorem dL_law_949 : decode cL_law 949 = .ok (.aload_n 1, 1) := tb_d tk_L_law_16 17 (949, .aload_n 1, 1) rfl
theorem dL_law_950 : decode cL_law 950 = .ok (.aload_n 0, 1) := tb_d tk_L_law_16 18 (950, .aload_n 0, 1) rfl
theorem dL_law_951 : decode cL_law 951 = .ok (.iload_n 3, 1) := tb_d tk_L_law_16 19 (951, .iload_n 3, 1) rfl
theorem dL_law_952 : decode cL_law 952 = .ok (.iconst 1, 1) := tb_d tk_L_law_16 20 (952, .iconst 1, 1) rfl
theorem dL_law_953 : decode cL_law 953 = .ok (.iadd, 1) := tb_d tk_L_law_16 21 (953, .iadd, 1) rfl
theorem dL_law_954 : decode cL_law 954 = .ok (.iaload, 1) := tb_d tk_L_law_16 22 (954, .iaload, 1) rfl
theorem dL_law_955 : decode cL_law 955 = .ok (.aload_n 0, 1) := tb_d tk_L_law_16 23 (955, .aload_n 0, 1) rfl
theorem dL_law_956 : decode cL_law 956 = .ok (.iload_n 3, 1) := tb_d tk_L_law_16 24 (956, .iload_n 3, 1) rfl
theorem dL_law_957 : decode cL_law 957 = .ok (.iconst 2, 1) := tb_d tk_L_law_16 25 (957, .iconst 2, 1) rfl
theorem dL_law_958 : decode cL_law 958 = .ok (.iadd, 1) := tb_d tk_L_law_16 26 (958, .iadd, 1) rfl
theorem dL_law_959 : decode cL_law 959 = .ok (.iaload, 1) := tb_d tk_L_law_16 27 (959, .iaload, 1) rfl
theorem dL_law_960 : decode cL_law 960 = .ok (.aload_n 0, 1) := tb_d tk_L_law_16 28 (960, .aload_n 0, 1) rfl
theorem dL_law_961 : decode cL_law 961 = .ok (.iload_n 3, 1) := tb_d tk_L_law_16 29 (961, .iload_n 3, 1) rfl
theorem dL_law_962 : decode cL_law 962 = .ok (.iconst 3, 1) := tb_d tk_L_law_16 30 (962, .iconst 3, 1) rfl
theorem dL_law_963 : decode cL_law 963 = .ok (.iadd, 1) := tb_d tk_L_law_16 31 (963, .iadd, 1) rfl
theorem dL_law_964 : decode cL_law 964 = .ok (.iaload, 1) := tb_d tk_L_law_16 32 (964, .iaload, 1) rfl
theorem dL_law_965 : decode cL_law 965 = .ok (.invokevirtual 119, 3) := tb_d tk_L_law_16 33 (965, .invokevirtual 119, 3) rfl
theorem dL_law_968 : decode cL_law 968 = .ok (.pop, 1) := tb_d tk_L_law_16 34 (968, .pop, 1) rfl
theorem dL_law_969 : decode cL_law 969 = .ok (.aload_n 2, 1) := tb_d tk_L_law_16 35 (969, .aload_n 2, 1) rfl
theorem dL_law_970 : decode cL_law 970 = .ok (.aload_n 0, 1) := tb_d tk_L_law_16 36 (970, .aload_n 0, 1) rfl
theorem dL_law_971 : decode cL_law 971 = .ok (.iload_n 3, 1) := tb_d tk_L_law_16 37 (971, .iload_n 3, 1) rfl
theorem dL_law_972 : decode cL_law 972 = .ok (.iconst 1, 1) := tb_d tk_L_law_16 38 (972, .iconst 1, 1) rfl
theorem dL_law_973 : decode cL_law 973 = .ok (.iadd, 1) := tb_d tk_L_law_16 39 (973, .iadd, 1) rfl
def tb_L_law_17 : List (Nat × Instr × Nat) := [(974, .iaload, 1), (975, .aload_n 0, 1), (976, .iload_n 3, 1), (977, .iconst 2, 1), (978, .iadd, 1), (979, .iaload, 1), (980, .aload_n 0, 1), (981, .iload_n 3, 1), (982, .iconst 3, 1), (983, .iadd, 1), (984, .iaload, 1), (985, .invokevirtual 122, 3), (988, .pop, 1), (989, .goto 432, 3), (992, .aload_n 1, 1), (993, .aload_n 0, 1), (994, .iload_n 3, 1), (995, .iconst 1, 1), (996, .iadd, 1), (997, .iaload, 1), (998, .aload_n 0, 1), (999, .iload_n 3, 1), (1000, .iconst 2, 1), (1001, .iadd, 1), (1002, .iaload, 1), (1003, .invokevirtual 123, 3), (1006, .pop, 1), (1007, .aload_n 2, 1), (1008, .aload_n 0, 1), (1009, .iload_n 3, 1), (1010, .iconst 1, 1), (1011, .iadd, 1), (1012, .iaload, 1), (1013, .aload_n 0, 1), (1014, .iload_n 3, 1), (1015, .iconst 2, 1), (1016, .iadd, 1), (1017, .iaload, 1), (1018, .invokevirtual 126, 3), (1021, .pop, 1)]
set_option maxRecDepth 100000 in
theorem tk_L_law_17 : (tb_L_law_17.all fun q => decide (decode cL_law q.1 = .ok q.2)) = true := by decide +kernel
theorem dL_law_974 : decode cL_law 974 = .ok (.iaload, 1) := tb_d tk_L_law_17 0 (974, .iaload, 1) rfl
theorem dL_law_975 : decode cL_law 975 = .ok (.aload_n 0, 1) := tb_d tk_L_law_17 1 (975, .aload_n 0, 1) rfl
theorem dL_law_976 : decode cL_law 976 = .ok (.iload_n 3, 1) := tb_d tk_L_law_17 2 (976, .iload_n 3, 1) rfl
theorem dL_law_977 : decode cL_law 977 = .ok (.iconst 2, 1) := tb_d tk_L_law_17 3 (977, .iconst 2, 1) rfl
theorem dL_law_978 : decode cL_law 978 = .ok (.iadd, 1) := tb_d tk_L_law_17 4 (978, .iadd, 1) rfl
theorem dL_law_979 : decode cL_law 979 = .ok (.iaload, 1) := tb_d tk_L_law_17 5 (979, .iaload, 1) rfl
theorem dL_law_980 : decode cL_law 980 = .ok (.aload_n 0, 1) := tb_d tk_L_law_17 6 (980, .aload_n 0, 1) rfl
theorem dL_law_981 : decode cL_law 981 = .ok (.iload_n 3, 1) := tb_d tk_L_law_17 7 (981, .iload_n 3, 1) rfl
theorem dL_law_982 : decode cL_law 982 = .ok (.iconst 3, 1) := tb_d tk_L_law_17 8 (982, .iconst 3, 1) rfl
theorem dL_law_983 : decode cL_law 983 = .ok (.iadd, 1) := tb_d tk_L_law_17 9 (983, .iadd, 1) rfl
theorem dL_law_984 : decode cL_law 984 = .ok (.iaload, 1) := tb_d tk_L_law_17 10 (984, .iaload, 1) rfl
theorem dL_law_985 : decode cL_law 985 = .ok (.invokevirtual 122, 3) := tb_d tk_L_law_17 11 (985, .invokevirtual 122, 3) rfl
theorem dL_law_988 : decode cL_law 988 = .ok (.pop, 1) := tb_d tk_L_law_17 12 (988, .pop, 1) rfl
theorem dL_law_989 : decode cL_law 989 = .ok (.goto 432, 3) := tb_d tk_L_law_17 13 (989, .goto 432, 3) rfl
theorem dL_law_992 : decode cL_law 992 = .ok (.aload_n 1, 1) := tb_d tk_L_law_17 14 (992, .aload_n 1, 1) rfl
theorem dL_law_993 : decode cL_law 993 = .ok (.aload_n 0, 1) := tb_d tk_L_law_17 15 (993, .aload_n 0, 1) rfl
theorem dL_law_994 : decode cL_law 994 = .ok (.iload_n 3, 1) := tb_d tk_L_law_17 16 (994, .iload_n 3, 1) rfl
theorem dL_law_995 : decode cL_law 995 = .ok (.iconst 1, 1) := tb_d tk_L_law_17 17 (995, .iconst 1, 1) rfl
theorem dL_law_996 : decode cL_law 996 = .ok (.iadd, 1) := tb_d tk_L_law_17 18 (996, .iadd, 1) rfl
theorem dL_law_997 : decode cL_law 997 = .ok (.iaload, 1) := tb_d tk_L_law_17 19 (997, .iaload, 1) rfl
theorem dL_law_998 : decode cL_law 998 = .ok (.aload_n 0, 1) := tb_d tk_L_law_17 20 (998, .aload_n 0, 1) rfl
theorem dL_law_999 : decode cL_law 999 = .ok (.iload_n 3, 1) := tb_d tk_L_law_17 21 (999, .iload_n 3, 1) rfl
theorem dL_law_1000 : decode cL_law 1000 = .ok (.iconst 2, 1) := tb_d tk_L_law_17 22 (1000, .iconst 2, 1) rfl
theorem dL_law_1001 : decode cL_law 1001 = .ok (.iadd, 1) := tb_d tk_L_law_17 23 (1001, .iadd, 1) rfl
theorem dL_law_1002 : decode cL_law 1002 = .ok (.iaload, 1) := tb_d tk_L_law_17 24 (1002, .iaload, 1) rfl
theorem dL_law_1003 : decode cL_law 1003 = .ok (.invokevirtual 123, 3) := tb_d tk_L_law_17 25 (1003, .invokevirtual 123, 3) rfl
theorem dL_law_1006 : decode cL_law 1006 = .ok (.pop, 1) := tb_d tk_L_law_17 26 (1006, .pop, 1) rfl
theorem dL_law_1007 : decode cL_law 1007 = .ok (.aload_n 2, 1) := tb_d tk_L_law_17 27 (1007, .aload_n 2, 1) rfl
theorem dL_law_1008 : decode cL_law 1008 = .ok (.aload_n 0, 1) := tb_d tk_L_law_17 28 (1008, .aload_n 0, 1) rfl
theorem dL_law_1009 : decode cL_law 1009 = .ok (.iload_n 3, 1) := tb_d tk_L_law_17 29 (1009, .iload_n 3, 1) rfl
theorem dL_law_1010 : decode cL_law 1010 = .ok (.iconst 1, 1) := tb_d tk_L_law_17 30 (1010, .iconst 1, 1) rfl
theorem dL_law_1011 : decode cL_law 1011 = .ok (.iadd, 1) := tb_d tk_L_law_17 31 (1011, .iadd, 1) rfl
theorem dL_law_1012 : decode cL_law 1012 = .ok (.iaload, 1) := tb_d tk_L_law_17 32 (1012, .iaload, 1) rfl
theorem dL_law_1013 : decode cL_law 1013 = .ok (.aload_n 0, 1) := tb_d tk_L_law_17 33 (1013, .aload_n 0, 1) rfl
theorem dL_law_1014 : decode cL_law 1014 = .ok (.iload_n 3, 1) := tb_d tk_L_law_17 34 (1014, .iload_n 3, 1) rfl
theorem dL_law_1015 : decode cL_law 1015 = .ok (.iconst 2, 1) := tb_d tk_L_law_17 35 (1015, .iconst 2, 1) rfl
theorem dL_law_1016 : decode cL_law 1016 = .ok (.iadd, 1) := tb_d tk_L_law_17 36 (1016, .iadd, 1) rfl
theorem dL_law_1017 : decode cL_law 1017 = .ok (.iaload, 1) := tb_d tk_L_law_17 37 (1017, .iaload, 1) rfl
theorem dL_law_1018 : decode cL_law 1018 = .ok (.invokevirtual 126, 3) := tb_d tk_L_law_17 38 (1018, .invokevirtual 126, 3) rfl
theorem dL_law_1021 : decode cL_law 1021 = .ok (.pop, 1) := tb_d tk_L_law_17 39 (1021, .pop, 1) rfl
def tb_L_law_18 : List (Nat × Instr × Nat) := [(1022, .goto 399, 3), (1025, .aload_n 1, 1), (1026, .aload_n 0, 1), (1027, .iload_n 3, 1), (1028, .iconst 1, 1), (1029, .iadd, 1), (1030, .iaload, 1), (1031, .aload_n 0, 1), (1032, .iload_n 3, 1), (1033, .iconst 2, 1), (1034, .iadd, 1), (1035, .iaload, 1), (1036, .aload_n 0, 1), (1037, .iload_n 3, 1), (1038, .iconst 3, 1), (1039, .iadd, 1), (1040, .iaload, 1), (1041, .aload_n 0, 1), (1042, .iload_n 3, 1), (1043, .iconst 4, 1), (1044, .iadd, 1), (1045, .iaload, 1), (1046, .invokevirtual 127, 3), (1049, .pop, 1), (1050, .aload_n 2, 1), (1051, .aload_n 0, 1), (1052, .iload_n 3, 1), (1053, .iconst 1, 1), (1054, .iadd, 1), (1055, .iaload, 1), (1056, .aload_n 0, 1), (1057, .iload_n 3, 1), (1058, .iconst 2, 1), (1059, .iadd, 1), (1060, .iaload, 1), (1061, .aload_n 0, 1), (1062, .iload_n 3, 1), (1063, .iconst 3, 1), (1064, .iadd, 1), (1065, .iaload, 1)]
set_option maxRecDepth 100000 in
theorem tk_L_law_18 : (tb_L_law_18.all fun q => decide (decode cL_law q.1 = .ok q.2)) = true := by decide +kernel
theorem dL_law_1022 : decode cL_law 1022 = .ok (.goto 399, 3) := tb_d tk_L_law_18 0 (1022, .goto 399, 3) rfl
theorem dL_law_1025 : decode cL_law 1025 = .ok (.aload_n 1, 1) := tb_d tk_L_law_18 1 (1025, .aload_n 1, 1) rfl
theorem dL_law_1026 : decode cL_law 1026 = .ok (.aload_n 0, 1) := tb_d tk_L_law_18 2 (1026, .aload_n 0, 1) rfl
theorem dL_law_1027 : decode cL_law 1027 = .ok (.iload_n 3, 1) := tb_d tk_L_law_18 3 (1027, .iload_n 3, 1) rfl
theorem dL_law_1028 : decode cL_law 1028 = .ok (.iconst 1, 1) := tb_d tk_L_law_18 4 (1028, .iconst 1, 1) rfl
theorem dL_law_1029 : decode cL_law 1029 = .ok (.iadd, 1) := tb_d tk_L_law_18 5 (1029, .iadd, 1) rfl
theorem dL_law_1030 : decode cL_law 1030 = .ok (.iaload, 1) := tb_d tk_L_law_18 6 (1030, .iaload, 1) rfl
theorem dL_law_1031 : decode cL_law 1031 = .ok (.aload_n 0, 1) := tb_d tk_L_law_18 7 (1031, .aload_n 0, 1) rfl
theorem dL_law_1032 : decode cL_law 1032 = .ok (.iload_n 3, 1) := tb_d tk_L_law_18 8 (1032, .iload_n 3, 1) rfl
theorem dL_law_1033 : decode cL_law 1033 = .ok (.iconst 2, 1) := tb_d tk_L_law_18 9 (1033, .iconst 2, 1) rfl
theorem dL_law_1034 : decode cL_law 1034 = .ok (.iadd, 1) := tb_d tk_L_law_18 10 (1034, .iadd, 1) rfl
theorem dL_law_1035 : decode cL_law 1035 = .ok (.iaload, 1) := tb_d tk_L_law_18 11 (1035, .iaload, 1) rfl
theorem dL_law_1036 : decode cL_law 1036 = .ok (.aload_n 0, 1) := tb_d tk_L_law_18 12 (1036, .aload_n 0, 1) rfl
theorem dL_law_1037 : decode cL_law 1037 = .ok (.iload_n 3, 1) := tb_d tk_L_law_18 13 (1037, .iload_n 3, 1) rfl
theorem dL_law_1038 : decode cL_law 1038 = .ok (.iconst 3, 1) := tb_d tk_L_law_18 14 (1038, .iconst 3, 1) rfl
theorem dL_law_1039 : decode cL_law 1039 = .ok (.iadd, 1) := tb_d tk_L_law_18 15 (1039, .iadd, 1) rfl
theorem dL_law_1040 : decode cL_law 1040 = .ok (.iaload, 1) := tb_d tk_L_law_18 16 (1040, .iaload, 1) rfl
theorem dL_law_1041 : decode cL_law 1041 = .ok (.aload_n 0, 1) := tb_d tk_L_law_18 17 (1041, .aload_n 0, 1) rfl
theorem dL_law_1042 : decode cL_law 1042 = .ok (.iload_n 3, 1) := tb_d tk_L_law_18 18 (1042, .iload_n 3, 1) rfl
theorem dL_law_1043 : decode cL_law 1043 = .ok (.iconst 4, 1) := tb_d tk_L_law_18 19 (1043, .iconst 4, 1) rfl
theorem dL_law_1044 : decode cL_law 1044 = .ok (.iadd, 1) := tb_d tk_L_law_18 20 (1044, .iadd, 1) rfl
theorem dL_law_1045 : decode cL_law 1045 = .ok (.iaload, 1) := tb_d tk_L_law_18 21 (1045, .iaload, 1) rfl
theorem dL_law_1046 : decode cL_law 1046 = .ok (.invokevirtual 127, 3) := tb_d tk_L_law_18 22 (1046, .invokevirtual 127, 3) rfl
theorem dL_law_1049 : decode cL_law 1049 = .ok (.pop, 1) := tb_d tk_L_law_18 23 (1049, .pop, 1) rfl
theorem dL_law_1050 : decode cL_law 1050 = .ok (.aload_n 2, 1) := tb_d tk_L_law_18 24 (1050, .aload_n 2, 1) rfl
theorem dL_law_1051 : decode cL_law 1051 = .ok (.aload_n 0, 1) := tb_d tk_L_law_18 25 (1051, .aload_n 0, 1) rfl
theorem dL_law_1052 : decode cL_law 1052 = .ok (.iload_n 3, 1) := tb_d tk_L_law_18 26 (1052, .iload_n 3, 1) rfl
theorem dL_law_1053 : decode cL_law 1053 = .ok (.iconst 1, 1) := tb_d tk_L_law_18 27 (1053, .iconst 1, 1) rfl
theorem dL_law_1054 : decode cL_law 1054 = .ok (.iadd, 1) := tb_d tk_L_law_18 28 (1054, .iadd, 1) rfl
theorem dL_law_1055 : decode cL_law 1055 = .ok (.iaload, 1) := tb_d tk_L_law_18 29 (1055, .iaload, 1) rfl
theorem dL_law_1056 : decode cL_law 1056 = .ok (.aload_n 0, 1) := tb_d tk_L_law_18 30 (1056, .aload_n 0, 1) rfl
theorem dL_law_1057 : decode cL_law 1057 = .ok (.iload_n 3, 1) := tb_d tk_L_law_18 31 (1057, .iload_n 3, 1) rfl
theorem dL_law_1058 : decode cL_law 1058 = .ok (.iconst 2, 1) := tb_d tk_L_law_18 32 (1058, .iconst 2, 1) rfl
theorem dL_law_1059 : decode cL_law 1059 = .ok (.iadd, 1) := tb_d tk_L_law_18 33 (1059, .iadd, 1) rfl
theorem dL_law_1060 : decode cL_law 1060 = .ok (.iaload, 1) := tb_d tk_L_law_18 34 (1060, .iaload, 1) rfl
theorem dL_law_1061 : decode cL_law 1061 = .ok (.aload_n 0, 1) := tb_d tk_L_law_18 35 (1061, .aload_n 0, 1) rfl
theorem dL_law_1062 : decode cL_law 1062 = .ok (.iload_n 3, 1) := tb_d tk_L_law_18 36 (1062, .iload_n 3, 1) rfl
theorem dL_law_1063 : decode cL_law 1063 = .ok (.iconst 3, 1) := tb_d tk_L_law_18 37 (1063, .iconst 3, 1) rfl
theorem dL_law_1064 : decode cL_law 1064 = .ok (.iadd, 1) := tb_d tk_L_law_18 38 (1064, .iadd, 1) rfl
theorem dL_law_1065 : decode cL_law 1065 = .ok (.iaload, 1) := tb_d tk_L_law_18 39 (1065, .iaload, 1) rfl
def tb_L_law_19 : List (Nat × Instr × Nat) := [(1066, .aload_n 0, 1), (1067, .iload_n 3, 1), (1068, .iconst 4, 1), (1069, .iadd, 1), (1070, .iaload, 1), (1071, .invokevirtual 130, 3), (1074, .pop, 1), (1075, .goto 346, 3), (1078, .aload_n 1, 1), (1079, .aload_n 0, 1), (1080, .iload_n 3, 1), (1081, .iconst 1, 1), (1082, .iadd, 1), (1083, .iaload, 1), (1084, .aload_n 0, 1), (1085, .iload_n 3, 1), (1086, .iconst 2, 1), (1087, .iadd, 1), (1088, .iaload, 1), (1089, .aload_n 0, 1), (1090, .iload_n 3, 1), (1091, .iconst 3, 1), (1092, .iadd, 1), (1093, .iaload, 1), (1094, .aload_n 0, 1), (1095, .iload_n 3, 1), (1096, .iconst 4, 1), (1097, .iadd, 1), (1098, .iaload, 1), (1099, .invokevirtual 131, 3), (1102, .pop, 1), (1103, .aload_n 2, 1), (1104, .aload_n 0, 1), (1105, .iload_n 3, 1), (1106, .iconst 1, 1), (1107, .iadd, 1), (1108, .iaload, 1), (1109, .aload_n 0, 1), (1110, .iload_n 3, 1), (1111, .iconst 2, 1)]
set_option maxRecDepth 100000 in
theorem tk_L_law_19 : (tb_L_law_19.all fun q => decide (decode cL_law q.1 = .ok q.2)) = true := by decide +kernel
theorem dL_law_1066 : decode cL_law 1066 = .ok (.aload_n 0, 1) := tb_d tk_L_law_19 0 (1066, .aload_n 0, 1) rfl
theorem dL_law_1067 : decode cL_law 1067 = .ok (.iload_n 3, 1) := tb_d tk_L_law_19 1 (1067, .iload_n 3, 1) rfl
theorem dL_law_1068 : decode cL_law 1068 = .ok (.iconst 4, 1) := tb_d tk_L_law_19 2 (1068, .iconst 4, 1) rfl
theorem dL_law_1069 : decode cL_law 1069 = .ok (.iadd, 1) := tb_d tk_L_law_19 3 (1069, .iadd, 1) rfl
theorem dL_law_1070 : decode cL_law 1070 = .ok (.iaload, 1) := tb_d tk_L_law_19 4 (1070, .iaload, 1) rfl
theorem dL_law_1071 : decode cL_law 1071 = .ok (.invokevirtual 130, 3) := tb_d tk_L_law_19 5 (1071, .invokevirtual 130, 3) rfl
theorem dL_law_1074 : decode cL_law 1074 = .ok (.pop, 1) := tb_d tk_L_law_19 6 (1074, .pop, 1) rfl
theorem dL_law_1075 : decode cL_law 1075 = .ok (.goto 346, 3) := tb_d tk_L_law_19 7 (1075, .goto 346, 3) rfl
theorem dL_law_1078 : decode cL_law 1078 = .ok (.aload_n 1, 1) := tb_d tk_L_law_19 8 (1078, .aload_n 1, 1) rfl
theorem dL_law_1079 : decode cL_law 1079 = .ok (.aload_n 0, 1) := tb_d tk_L_law_19 9 (1079, .aload_n 0, 1) rfl
theorem dL_law_1080 : decode cL_law 1080 = .ok (.iload_n 3, 1) := tb_d tk_L_law_19 10 (1080, .iload_n 3, 1) rfl
theorem dL_law_1081 : decode cL_law 1081 = .ok (.iconst 1, 1) := tb_d tk_L_law_19 11 (1081, .iconst 1, 1) rfl
theorem dL_law_1082 : decode cL_law 1082 = .ok (.iadd, 1) := tb_d tk_L_law_19 12 (1082, .iadd, 1) rfl
theorem dL_law_1083 : decode cL_law 1083 = .ok (.iaload, 1) := tb_d tk_L_law_19 13 (1083, .iaload, 1) rfl
theorem dL_law_1084 : decode cL_law 1084 = .ok (.aload_n 0, 1) := tb_d tk_L_law_19 14 (1084, .aload_n 0, 1) rfl
theorem dL_law_1085 : decode cL_law 1085 = .ok (.iload_n 3, 1) := tb_d tk_L_law_19 15 (1085, .iload_n 3, 1) rfl
theorem dL_law_1086 : decode cL_law 1086 = .ok (.iconst 2, 1) := tb_d tk_L_law_19 16 (1086, .iconst 2, 1) rfl
theorem dL_law_1087 : decode cL_law 1087 = .ok (.iadd, 1) := tb_d tk_L_law_19 17 (1087, .iadd, 1) rfl
theorem dL_law_1088 : decode cL_law 1088 = .ok (.iaload, 1) := tb_d tk_L_law_19 18 (1088, .iaload, 1) rfl
theorem dL_law_1089 : decode cL_law 1089 = .ok (.aload_n 0, 1) := tb_d tk_L_law_19 19 (1089, .aload_n 0, 1) rfl
theorem dL_law_1090 : decode cL_law 1090 = .ok (.iload_n 3, 1) := tb_d tk_L_law_19 20 (1090, .iload_n 3, 1) rfl
theorem dL_law_1091 : decode cL_law 1091 = .ok (.iconst 3, 1) := tb_d tk_L_law_19 21 (1091, .iconst 3, 1) rfl
theorem dL_law_1092 : decode cL_law 1092 = .ok (.iadd, 1) := tb_d tk_L_law_19 22 (1092, .iadd, 1) rfl
theorem dL_law_1093 : decode cL_law 1093 = .ok (.iaload, 1) := tb_d tk_L_law_19 23 (1093, .iaload, 1) rfl
theorem dL_law_1094 : decode cL_law 1094 = .ok (.aload_n 0, 1) := tb_d tk_L_law_19 24 (1094, .aload_n 0, 1) rfl
theorem dL_law_1095 : decode cL_law 1095 = .ok (.iload_n 3, 1) := tb_d tk_L_law_19 25 (1095, .iload_n 3, 1) rfl
theorem dL_law_1096 : decode cL_law 1096 = .ok (.iconst 4, 1) := tb_d tk_L_law_19 26 (1096, .iconst 4, 1) rfl
theorem dL_law_1097 : decode cL_law 1097 = .ok (.iadd, 1) := tb_d tk_L_law_19 27 (1097, .iadd, 1) rfl
theorem dL_law_1098 : decode cL_law 1098 = .ok (.iaload, 1) := tb_d tk_L_law_19 28 (1098, .iaload, 1) rfl
theorem dL_law_1099 : decode cL_law 1099 = .ok (.invokevirtual 131, 3) := tb_d tk_L_law_19 29 (1099, .invokevirtual 131, 3) rfl
theorem dL_law_1102 : decode cL_law 1102 = .ok (.pop, 1) := tb_d tk_L_law_19 30 (1102, .pop, 1) rfl
theorem dL_law_1103 : decode cL_law 1103 = .ok (.aload_n 2, 1) := tb_d tk_L_law_19 31 (1103, .aload_n 2, 1) rfl
theorem dL_law_1104 : decode cL_law 1104 = .ok (.aload_n 0, 1) := tb_d tk_L_law_19 32 (1104, .aload_n 0, 1) rfl
theorem dL_law_1105 : decode cL_law 1105 = .ok (.iload_n 3, 1) := tb_d tk_L_law_19 33 (1105, .iload_n 3, 1) rfl
theorem dL_law_1106 : decode cL_law 1106 = .ok (.iconst 1, 1) := tb_d tk_L_law_19 34 (1106, .iconst 1, 1) rfl
theorem dL_law_1107 : decode cL_law 1107 = .ok (.iadd, 1) := tb_d tk_L_law_19 35 (1107, .iadd, 1) rfl
theorem dL_law_1108 : decode cL_law 1108 = .ok (.iaload, 1) := tb_d tk_L_law_19 36 (1108, .iaload, 1) rfl
theorem dL_law_1109 : decode cL_law 1109 = .ok (.aload_n 0, 1) := tb_d tk_L_law_19 37 (1109, .aload_n 0, 1) rfl
theorem dL_law_1110 : decode cL_law 1110 = .ok (.iload_n 3, 1) := tb_d tk_L_law_19 38 (1110, .iload_n 3, 1) rfl
theorem dL_law_1111 : decode cL_law 1111 = .ok (.iconst 2, 1) := tb_d tk_L_law_19 39 (1111, .iconst 2, 1) rfl
def tb_L_law_20 : List (Nat × Instr × Nat) := [(1112, .iadd, 1), (1113, .iaload, 1), (1114, .aload_n 0, 1), (1115, .iload_n 3, 1), (1116, .iconst 3, 1), (1117, .iadd, 1), (1118, .iaload, 1), (1119, .aload_n 0, 1), (1120, .iload_n 3, 1), (1121, .iconst 4, 1), (1122, .iadd, 1), (1123, .iaload, 1), (1124, .invokevirtual 134, 3), (1127, .pop, 1), (1128, .goto 293, 3), (1131, .aload_n 1, 1), (1132, .aload_n 0, 1), (1133, .iload_n 3, 1), (1134, .iconst 1, 1), (1135, .iadd, 1), (1136, .iaload, 1), (1137, .aload_n 0, 1), (1138, .iload_n 3, 1), (1139, .iconst 2, 1), (1140, .iadd, 1), (1141, .iaload, 1), (1142, .aload_n 0, 1), (1143, .iload_n 3, 1), (1144, .iconst 3, 1), (1145, .iadd, 1), (1146, .iaload, 1), (1147, .aload_n 0, 1), (1148, .iload_n 3, 1), (1149, .iconst 4, 1), (1150, .iadd, 1), (1151, .iaload, 1), (1152, .invokevirtual 135, 3), (1155, .pop, 1), (1156, .aload_n 2, 1), (1157, .aload_n 0, 1)]
set_option maxRecDepth 100000 in
theorem tk_L_law_20 : (tb_L_law_20.all fun q => decide (decode cL_law q.1 = .ok q.2)) = true := by decide +kernel
theorem dL_law_1112 : decode cL_law 1112 = .ok (.iadd, 1) := tb_d tk_L_law_20 0 (1112, .iadd, 1) rfl
theorem dL_law_1113 : decode cL_law 1113 = .ok (.iaload, 1) := tb_d tk_L_law_20 1 (1113, .iaload, 1) rfl
theorem dL_law_1114 : decode cL_law 1114 = .ok (.aload_n 0, 1) := tb_d tk_L_law_20 2 (1114, .aload_n 0, 1) rfl
theorem dL_law_1115 : decode cL_law 1115 = .ok (.iload_n 3, 1) := tb_d tk_L_law_20 3 (1115, .iload_n 3, 1) rfl
theorem dL_law_1116 : decode cL_law 1116 = .ok (.iconst 3, 1) := tb_d tk_L_law_20 4 (1116, .iconst 3, 1) rfl
theorem dL_law_1117 : decode cL_law 1117 = .ok (.iadd, 1) := tb_d tk_L_law_20 5 (1117, .iadd, 1) rfl
theorem dL_law_1118 : decode cL_law 1118 = .ok (.iaload, 1) := tb_d tk_L_law_20 6 (1118, .iaload, 1) rfl
theorem dL_law_1119 : decode cL_law 1119 = .ok (.aload_n 0, 1) := tb_d tk_L_law_20 7 (1119, .aload_n 0, 1) rfl
theorem dL_law_1120 : decode cL_law 1120 = .ok (.iload_n 3, 1) := tb_d tk_L_law_20 8 (1120, .iload_n 3, 1) rfl
theorem dL_law_1121 : decode cL_law 1121 = .ok (.iconst 4, 1) := tb_d tk_L_law_20 9 (1121, .iconst 4, 1) rfl
theorem dL_law_1122 : decode cL_law 1122 = .ok (.iadd, 1) := tb_d tk_L_law_20 10 (1122, .iadd, 1) rfl
theorem dL_law_1123 : decode cL_law 1123 = .ok (.iaload, 1) := tb_d tk_L_law_20 11 (1123, .iaload, 1) rfl
theorem dL_law_1124 : decode cL_law 1124 = .ok (.invokevirtual 134, 3) := tb_d tk_L_law_20 12 (1124, .invokevirtual 134, 3) rfl
theorem dL_law_1127 : decode cL_law 1127 = .ok (.pop, 1) := tb_d tk_L_law_20 13 (1127, .pop, 1) rfl
theorem dL_law_1128 : decode cL_law 1128 = .ok (.goto 293, 3) := tb_d tk_L_law_20 14 (1128, .goto 293, 3) rfl
theorem dL_law_1131 : decode cL_law 1131 = .ok (.aload_n 1, 1) := tb_d tk_L_law_20 15 (1131, .aload_n 1, 1) rfl
theorem dL_law_1132 : decode cL_law 1132 = .ok (.aload_n 0, 1) := tb_d tk_L_law_20 16 (1132, .aload_n 0, 1) rfl
theorem dL_law_1133 : decode cL_law 1133 = .ok (.iload_n 3, 1) := tb_d tk_L_law_20 17 (1133, .iload_n 3, 1) rfl
theorem dL_law_1134 : decode cL_law 1134 = .ok (.iconst 1, 1) := tb_d tk_L_law_20 18 (1134, .iconst 1, 1) rfl
theorem dL_law_1135 : decode cL_law 1135 = .ok (.iadd, 1) := tb_d tk_L_law_20 19 (1135, .iadd, 1) rfl
theorem dL_law_1136 : decode cL_law 1136 = .ok (.iaload, 1) := tb_d tk_L_law_20 20 (1136, .iaload, 1) rfl
theorem dL_law_1137 : decode cL_law 1137 = .ok (.aload_n 0, 1) := tb_d tk_L_law_20 21 (1137, .aload_n 0, 1) rfl
theorem dL_law_1138 : decode cL_law 1138 = .ok (.iload_n 3, 1) := tb_d tk_L_law_20 22 (1138, .iload_n 3, 1) rfl
theorem dL_law_1139 : decode cL_law 1139 = .ok (.iconst 2, 1) := tb_d tk_L_law_20 23 (1139, .iconst 2, 1) rfl
theorem dL_law_1140 : decode cL_law 1140 = .ok (.iadd, 1) := tb_d tk_L_law_20 24 (1140, .iadd, 1) rfl
theorem dL_law_1141 : decode cL_law 1141 = .ok (.iaload, 1) := tb_d tk_L_law_20 25 (1141, .iaload, 1) rfl
theorem dL_law_1142 : decode cL_law 1142 = .ok (.aload_n 0, 1) := tb_d tk_L_law_20 26 (1142, .aload_n 0, 1) rfl
theorem dL_law_1143 : decode cL_law 1143 = .ok (.iload_n 3, 1) := tb_d tk_L_law_20 27 (1143, .iload_n 3, 1) rfl
theorem dL_law_1144 : decode cL_law 1144 = .ok (.iconst 3, 1) := tb_d tk_L_law_20 28 (1144, .iconst 3, 1) rfl
theorem dL_law_1145 : decode cL_law 1145 = .ok (.iadd, 1) := tb_d tk_L_law_20 29 (1145, .iadd, 1) rfl
theorem dL_law_1146 : decode cL_law 1146 = .ok (.iaload, 1) := tb_d tk_L_law_20 30 (1146, .iaload, 1) rfl
theorem dL_law_1147 : decode cL_law 1147 = .ok (.aload_n 0, 1) := tb_d tk_L_law_20 31 (1147, .aload_n 0, 1) rfl
theorem dL_law_1148 : decode cL_law 1148 = .ok (.iload_n 3, 1) := tb_d tk_L_law_20 32 (1148, .iload_n 3, 1) rfl
theorem dL_law_1149 : decode cL_law 1149 = .ok (.iconst 4, 1) := tb_d tk_L_law_20 33 (1149, .iconst 4, 1) rfl
theorem dL_law_1150 : decode cL_law 1150 = .ok (.iadd, 1) := tb_d tk_L_law_20 34 (1150, .iadd, 1) rfl
theorem dL_law_1151 : decode cL_law 1151 = .ok (.iaload, 1) := tb_d tk_L_law_20 35 (1151, .iaload, 1) rfl
theorem dL_law_1152 : decode cL_law 1152 = .ok (.invokevirtual 135, 3) := tb_d tk_L_law_20 36 (1152, .invokevirtual 135, 3) rfl
theorem dL_law_1155 : decode cL_law 1155 = .ok (.pop, 1) := tb_d tk_L_law_20 37 (1155, .pop, 1) rfl
theorem dL_law_1156 : decode cL_law 1156 = .ok (.aload_n 2, 1) := tb_d tk_L_law_20 38 (1156, .aload_n 2, 1) rfl
theorem dL_law_1157 : decode cL_law 1157 = .ok (.aload_n 0, 1) := tb_d tk_L_law_20 39 (1157, .aload_n 0, 1) rfl
def tb_L_law_21 : List (Nat × Instr × Nat) := [(1158, .iload_n 3, 1), (1159, .iconst 1, 1), (1160, .iadd, 1), (1161, .iaload, 1), (1162, .aload_n 0, 1), (1163, .iload_n 3, 1), (1164, .iconst 2, 1), (1165, .iadd, 1), (1166, .iaload, 1), (1167, .aload_n 0, 1), (1168, .iload_n 3, 1), (1169, .iconst 3, 1), (1170, .iadd, 1), (1171, .iaload, 1), (1172, .aload_n 0, 1), (1173, .iload_n 3, 1), (1174, .iconst 4, 1), (1175, .iadd, 1), (1176, .iaload, 1), (1177, .invokevirtual 138, 3), (1180, .pop, 1), (1181, .goto 240, 3), (1184, .aload_n 1, 1), (1185, .aload_n 0, 1), (1186, .iload_n 3, 1), (1187, .iconst 1, 1), (1188, .iadd, 1), (1189, .iaload, 1), (1190, .aload_n 0, 1), (1191, .iload_n 3, 1), (1192, .iconst 2, 1), (1193, .iadd, 1), (1194, .iaload, 1), (1195, .aload_n 0, 1), (1196, .iload_n 3, 1), (1197, .iconst 3, 1), (1198, .iadd, 1), (1199, .iaload, 1), (1200, .invokevirtual 139, 3), (1203, .pop, 1)]
set_option maxRecDepth 100000 in
theorem tk_L_law_21 : (tb_L_law_21.all fun q => decide (decode cL_law q.1 = .ok q.2)) = true := by decide +kernel
theorem dL_law_1158 : decode cL_law 1158 = .ok (.iload_n 3, 1) := tb_d tk_L_law_21 0 (1158, .iload_n 3, 1) rfl
theorem dL_law_1159 : decode cL_law 1159 = .ok (.iconst 1, 1) := tb_d tk_L_law_21 1 (1159, .iconst 1, 1) rfl
theorem dL_law_1160 : decode cL_law 1160 = .ok (.iadd, 1) := tb_d tk_L_law_21 2 (1160, .iadd, 1) rfl
theorem dL_law_1161 : decode cL_law 1161 = .ok (.iaload, 1) := tb_d tk_L_law_21 3 (1161, .iaload, 1) rfl
theorem dL_law_1162 : decode cL_law 1162 = .ok (.aload_n 0, 1) := tb_d tk_L_law_21 4 (1162, .aload_n 0, 1) rfl
theorem dL_law_1163 : decode cL_law 1163 = .ok (.iload_n 3, 1) := tb_d tk_L_law_21 5 (1163, .iload_n 3, 1) rfl
theorem dL_law_1164 : decode cL_law 1164 = .ok (.iconst 2, 1) := tb_d tk_L_law_21 6 (1164, .iconst 2, 1) rfl
theorem dL_law_1165 : decode cL_law 1165 = .ok (.iadd, 1) := tb_d tk_L_law_21 7 (1165, .iadd, 1) rfl
theorem dL_law_1166 : decode cL_law 1166 = .ok (.iaload, 1) := tb_d tk_L_law_21 8 (1166, .iaload, 1) rfl
theorem dL_law_1167 : decode cL_law 1167 = .ok (.aload_n 0, 1) := tb_d tk_L_law_21 9 (1167, .aload_n 0, 1) rfl
theorem dL_law_1168 : decode cL_law 1168 = .ok (.iload_n 3, 1) := tb_d tk_L_law_21 10 (1168, .iload_n 3, 1) rfl
theorem dL_law_1169 : decode cL_law 1169 = .ok (.iconst 3, 1) := tb_d tk_L_law_21 11 (1169, .iconst 3, 1) rfl
theorem dL_law_1170 : decode cL_law 1170 = .ok (.iadd, 1) := tb_d tk_L_law_21 12 (1170, .iadd, 1) rfl
theorem dL_law_1171 : decode cL_law 1171 = .ok (.iaload, 1) := tb_d tk_L_law_21 13 (1171, .iaload, 1) rfl
theorem dL_law_1172 : decode cL_law 1172 = .ok (.aload_n 0, 1) := tb_d tk_L_law_21 14 (1172, .aload_n 0, 1) rfl
theorem dL_law_1173 : decode cL_law 1173 = .ok (.iload_n 3, 1) := tb_d tk_L_law_21 15 (1173, .iload_n 3, 1) rfl
theorem dL_law_1174 : decode cL_law 1174 = .ok (.iconst 4, 1) := tb_d tk_L_law_21 16 (1174, .iconst 4, 1) rfl
theorem dL_law_1175 : decode cL_law 1175 = .ok (.iadd, 1) := tb_d tk_L_law_21 17 (1175, .iadd, 1) rfl
theorem dL_law_1176 : decode cL_law 1176 = .ok (.iaload, 1) := tb_d tk_L_law_21 18 (1176, .iaload, 1) rfl
theorem dL_law_1177 : decode cL_law 1177 = .ok (.invokevirtual 138, 3) := tb_d tk_L_law_21 19 (1177, .invokevirtual 138, 3) rfl
theorem dL_law_1180 : decode cL_law 1180 = .ok (.pop, 1) := tb_d tk_L_law_21 20 (1180, .pop, 1) rfl
theorem dL_law_1181 : decode cL_law 1181 = .ok (.goto 240, 3) := tb_d tk_L_law_21 21 (1181, .goto 240, 3) rfl
theorem dL_law_1184 : decode cL_law 1184 = .ok (.aload_n 1, 1) := tb_d tk_L_law_21 22 (1184, .aload_n 1, 1) rfl
theorem dL_law_1185 : decode cL_law 1185 = .ok (.aload_n 0, 1) := tb_d tk_L_law_21 23 (1185, .aload_n 0, 1) rfl
theorem dL_law_1186 : decode cL_law 1186 = .ok (.iload_n 3, 1) := tb_d tk_L_law_21 24 (1186, .iload_n 3, 1) rfl
theorem dL_law_1187 : decode cL_law 1187 = .ok (.iconst 1, 1) := tb_d tk_L_law_21 25 (1187, .iconst 1, 1) rfl
theorem dL_law_1188 : decode cL_law 1188 = .ok (.iadd, 1) := tb_d tk_L_law_21 26 (1188, .iadd, 1) rfl
theorem dL_law_1189 : decode cL_law 1189 = .ok (.iaload, 1) := tb_d tk_L_law_21 27 (1189, .iaload, 1) rfl
theorem dL_law_1190 : decode cL_law 1190 = .ok (.aload_n 0, 1) := tb_d tk_L_law_21 28 (1190, .aload_n 0, 1) rfl
theorem dL_law_1191 : decode cL_law 1191 = .ok (.iload_n 3, 1) := tb_d tk_L_law_21 29 (1191, .iload_n 3, 1) rfl
theorem dL_law_1192 : decode cL_law 1192 = .ok (.iconst 2, 1) := tb_d tk_L_law_21 30 (1192, .iconst 2, 1) rfl
theorem dL_law_1193 : decode cL_law 1193 = .ok (.iadd, 1) := tb_d tk_L_law_21 31 (1193, .iadd, 1) rfl
theorem dL_law_1194 : decode cL_law 1194 = .ok (.iaload, 1) := tb_d tk_L_law_21 32 (1194, .iaload, 1) rfl
theorem dL_law_1195 : decode cL_law 1195 = .ok (.aload_n 0, 1) := tb_d tk_L_law_21 33 (1195, .aload_n 0, 1) rfl
theorem dL_law_1196 : decode cL_law 1196 = .ok (.iload_n 3, 1) := tb_d tk_L_law_21 34 (1196, .iload_n 3, 1) rfl
theorem dL_law_1197 : decode cL_law 1197 = .ok (.iconst 3, 1) := tb_d tk_L_law_21 35 (1197, .iconst 3, 1) rfl
theorem dL_law_1198 : decode cL_law 1198 = .ok (.iadd, 1) := tb_d tk_L_law_21 36 (1198, .iadd, 1) rfl
theorem dL_law_1199 : decode cL_law 1199 = .ok (.iaload, 1) := tb_d tk_L_law_21 37 (1199, .iaload, 1) rfl
theorem dL_law_1200 : decode cL_law 1200 = .ok (.invokevirtual 139, 3) := tb_d tk_L_law_21 38 (1200, .invokevirtual 139, 3) rfl
theorem dL_law_1203 : decode cL_law 1203 = .ok (.pop, 1) := tb_d tk_L_law_21 39 (1203, .pop, 1) rfl
def tb_L_law_22 : List (Nat × Instr × Nat) := [(1204, .aload_n 2, 1), (1205, .aload_n 0, 1), (1206, .iload_n 3, 1), (1207, .iconst 1, 1), (1208, .iadd, 1), (1209, .iaload, 1), (1210, .aload_n 0, 1), (1211, .iload_n 3, 1), (1212, .iconst 2, 1), (1213, .iadd, 1), (1214, .iaload, 1), (1215, .aload_n 0, 1), (1216, .iload_n 3, 1), (1217, .iconst 3, 1), (1218, .iadd, 1), (1219, .iaload, 1), (1220, .invokevirtual 142, 3), (1223, .pop, 1), (1224, .goto 197, 3), (1227, .aload_n 1, 1), (1228, .aload_n 0, 1), (1229, .iload_n 3, 1), (1230, .iconst 1, 1), (1231, .iadd, 1), (1232, .iaload, 1), (1233, .invokevirtual 143, 3), (1236, .pop, 1), (1237, .aload_n 2, 1), (1238, .aload_n 0, 1), (1239, .iload_n 3, 1), (1240, .iconst 1, 1), (1241, .iadd, 1), (1242, .iaload, 1), (1243, .invokevirtual 146, 3), (1246, .pop, 1), (1247, .goto 174, 3), (1250, .aload_n 1, 1), (1251, .aload_n 0, 1), (1252, .iload_n 3, 1), (1253, .iconst 1, 1)]
set_option maxRecDepth 100000 in
theorem tk_L_law_22 : (tb_L_law_22.all fun q => decide (decode cL_law q.1 = .ok q.2)) = true := by decide +kernel
theorem dL_law_1204 : decode cL_law 1204 = .ok (.aload_n 2, 1) := tb_d tk_L_law_22 0 (1204, .aload_n 2, 1) rfl
theorem dL_law_1205 : decode cL_law 1205 = .ok (.aload_n 0, 1) := tb_d tk_L_law_22 1 (1205, .aload_n 0, 1) rfl
theorem dL_law_1206 : decode cL_law 1206 = .ok (.iload_n 3, 1) := tb_d tk_L_law_22 2 (1206, .iload_n 3, 1) rfl
theorem dL_law_1207 : decode cL_law 1207 = .ok (.iconst 1, 1) := tb_d tk_L_law_22 3 (1207, .iconst 1, 1) rfl
theorem dL_law_1208 : decode cL_law 1208 = .ok (.iadd, 1) := tb_d tk_L_law_22 4 (1208, .iadd, 1) rfl
theorem dL_law_1209 : decode cL_law 1209 = .ok (.iaload, 1) := tb_d tk_L_law_22 5 (1209, .iaload, 1) rfl
theorem dL_law_1210 : decode cL_law 1210 = .ok (.aload_n 0, 1) := tb_d tk_L_law_22 6 (1210, .aload_n 0, 1) rfl
theorem dL_law_1211 : decode cL_law 1211 = .ok (.iload_n 3, 1) := tb_d tk_L_law_22 7 (1211, .iload_n 3, 1) rfl
theorem dL_law_1212 : decode cL_law 1212 = .ok (.iconst 2, 1) := tb_d tk_L_law_22 8 (1212, .iconst 2, 1) rfl
theorem dL_law_1213 : decode cL_law 1213 = .ok (.iadd, 1) := tb_d tk_L_law_22 9 (1213, .iadd, 1) rfl
theorem dL_law_1214 : decode cL_law 1214 = .ok (.iaload, 1) := tb_d tk_L_law_22 10 (1214, .iaload, 1) rfl
theorem dL_law_1215 : decode cL_law 1215 = .ok (.aload_n 0, 1) := tb_d tk_L_law_22 11 (1215, .aload_n 0, 1) rfl
theorem dL_law_1216 : decode cL_law 1216 = .ok (.iload_n 3, 1) := tb_d tk_L_law_22 12 (1216, .iload_n 3, 1) rfl
theorem dL_law_1217 : decode cL_law 1217 = .ok (.iconst 3, 1) := tb_d tk_L_law_22 13 (1217, .iconst 3, 1) rfl
theorem dL_law_1218 : decode cL_law 1218 = .ok (.iadd, 1) := tb_d tk_L_law_22 14 (1218, .iadd, 1) rfl
theorem dL_law_1219 : decode cL_law 1219 = .ok (.iaload, 1) := tb_d tk_L_law_22 15 (1219, .iaload, 1) rfl
theorem dL_law_1220 : decode cL_law 1220 = .ok (.invokevirtual 142, 3) := tb_d tk_L_law_22 16 (1220, .invokevirtual 142, 3) rfl
theorem dL_law_1223 : decode cL_law 1223 = .ok (.pop, 1) := tb_d tk_L_law_22 17 (1223, .pop, 1) rfl
theorem dL_law_1224 : decode cL_law 1224 = .ok (.goto 197, 3) := tb_d tk_L_law_22 18 (1224, .goto 197, 3) rfl
theorem dL_law_1227 : decode cL_law 1227 = .ok (.aload_n 1, 1) := tb_d tk_L_law_22 19 (1227, .aload_n 1, 1) rfl
theorem dL_law_1228 : decode cL_law 1228 = .ok (.aload_n 0, 1) := tb_d tk_L_law_22 20 (1228, .aload_n 0, 1) rfl
theorem dL_law_1229 : decode cL_law 1229 = .ok (.iload_n 3, 1) := tb_d tk_L_law_22 21 (1229, .iload_n 3, 1) rfl
theorem dL_law_1230 : decode cL_law 1230 = .ok (.iconst 1, 1) := tb_d tk_L_law_22 22 (1230, .iconst 1, 1) rfl
theorem dL_law_1231 : decode cL_law 1231 = .ok (.iadd, 1) := tb_d tk_L_law_22 23 (1231, .iadd, 1) rfl
theorem dL_law_1232 : decode cL_law 1232 = .ok (.iaload, 1) := tb_d tk_L_law_22 24 (1232, .iaload, 1) rfl
theorem dL_law_1233 : decode cL_law 1233 = .ok (.invokevirtual 143, 3) := tb_d tk_L_law_22 25 (1233, .invokevirtual 143, 3) rfl
