/-! what the bytes say (written by gen/names.py) -/
theorem d_MO_wantsTerm_0 : decode (kB k_MO_wantsTerm) 0 = .ok (.aload_n 0, 1) := by decide +kernel
theorem d_MO_wantsTerm_1 : decode (kB k_MO_wantsTerm) 1 = .ok (.getfield 68, 3) := by decide +kernel
theorem d_MO_wantsTerm_4 : decode (kB k_MO_wantsTerm) 4 = .ok (.iconst 1, 1) := by decide +kernel
theorem d_MO_wantsTerm_5 : decode (kB k_MO_wantsTerm) 5 = .ok (.isub, 1) := by decide +kernel
theorem d_MO_wantsTerm_6 : decode (kB k_MO_wantsTerm) 6 = .ok (.istore_n 1, 1) := by decide +kernel
theorem d_MO_wantsTerm_7 : decode (kB k_MO_wantsTerm) 7 = .ok (.iload_n 1, 1) := by decide +kernel
theorem d_MO_wantsTerm_8 : decode (kB k_MO_wantsTerm) 8 = .ok (.ifCond .lt (61), 3) := by decide +kernel
theorem d_MO_wantsTerm_11 : decode (kB k_MO_wantsTerm) 11 = .ok (.iload_n 1, 1) := by decide +kernel
theorem d_MO_wantsTerm_12 : decode (kB k_MO_wantsTerm) 12 = .ok (.aload_n 0, 1) := by decide +kernel
theorem d_MO_wantsTerm_13 : decode (kB k_MO_wantsTerm) 13 = .ok (.getfield 68, 3) := by decide +kernel
theorem d_MO_wantsTerm_16 : decode (kB k_MO_wantsTerm) 16 = .ok (.iconst 4, 1) := by decide +kernel
theorem d_MO_wantsTerm_17 : decode (kB k_MO_wantsTerm) 17 = .ok (.isub, 1) := by decide +kernel
theorem d_MO_wantsTerm_18 : decode (kB k_MO_wantsTerm) 18 = .ok (.if_icmp .lt (51), 3) := by decide +kernel
theorem d_MO_wantsTerm_21 : decode (kB k_MO_wantsTerm) 21 = .ok (.aload_n 0, 1) := by decide +kernel
theorem d_MO_wantsTerm_22 : decode (kB k_MO_wantsTerm) 22 = .ok (.getfield 19, 3) := by decide +kernel
theorem d_MO_wantsTerm_25 : decode (kB k_MO_wantsTerm) 25 = .ok (.iload_n 1, 1) := by decide +kernel
theorem d_MO_wantsTerm_26 : decode (kB k_MO_wantsTerm) 26 = .ok (.iaload, 1) := by decide +kernel
theorem d_MO_wantsTerm_27 : decode (kB k_MO_wantsTerm) 27 = .ok (.iconst 2, 1) := by decide +kernel
theorem d_MO_wantsTerm_28 : decode (kB k_MO_wantsTerm) 28 = .ok (.if_icmp .lt (35), 3) := by decide +kernel
theorem d_MO_wantsTerm_31 : decode (kB k_MO_wantsTerm) 31 = .ok (.aload_n 0, 1) := by decide +kernel
theorem d_MO_wantsTerm_32 : decode (kB k_MO_wantsTerm) 32 = .ok (.getfield 19, 3) := by decide +kernel
theorem d_MO_wantsTerm_35 : decode (kB k_MO_wantsTerm) 35 = .ok (.iload_n 1, 1) := by decide +kernel
theorem d_MO_wantsTerm_36 : decode (kB k_MO_wantsTerm) 36 = .ok (.iaload, 1) := by decide +kernel
theorem d_MO_wantsTerm_37 : decode (kB k_MO_wantsTerm) 37 = .ok (.iconst 4, 1) := by decide +kernel
theorem d_MO_wantsTerm_38 : decode (kB k_MO_wantsTerm) 38 = .ok (.if_icmp .gt (25), 3) := by decide +kernel
theorem d_MO_wantsTerm_41 : decode (kB k_MO_wantsTerm) 41 = .ok (.aload_n 0, 1) := by decide +kernel
theorem d_MO_wantsTerm_42 : decode (kB k_MO_wantsTerm) 42 = .ok (.getfield 68, 3) := by decide +kernel
theorem d_MO_wantsTerm_45 : decode (kB k_MO_wantsTerm) 45 = .ok (.iconst 1, 1) := by decide +kernel
theorem d_MO_wantsTerm_46 : decode (kB k_MO_wantsTerm) 46 = .ok (.isub, 1) := by decide +kernel
theorem d_MO_wantsTerm_47 : decode (kB k_MO_wantsTerm) 47 = .ok (.iload_n 1, 1) := by decide +kernel
theorem d_MO_wantsTerm_48 : decode (kB k_MO_wantsTerm) 48 = .ok (.isub, 1) := by decide +kernel
theorem d_MO_wantsTerm_49 : decode (kB k_MO_wantsTerm) 49 = .ok (.aload_n 0, 1) := by decide +kernel
theorem d_MO_wantsTerm_50 : decode (kB k_MO_wantsTerm) 50 = .ok (.iload_n 1, 1) := by decide +kernel
theorem d_MO_wantsTerm_51 : decode (kB k_MO_wantsTerm) 51 = .ok (.invokevirtual 71, 3) := by decide +kernel
theorem d_MO_wantsTerm_54 : decode (kB k_MO_wantsTerm) 54 = .ok (.if_icmp .ge (7), 3) := by decide +kernel
theorem d_MO_wantsTerm_57 : decode (kB k_MO_wantsTerm) 57 = .ok (.iconst 1, 1) := by decide +kernel
theorem d_MO_wantsTerm_58 : decode (kB k_MO_wantsTerm) 58 = .ok (.goto (4), 3) := by decide +kernel
theorem d_MO_wantsTerm_61 : decode (kB k_MO_wantsTerm) 61 = .ok (.iconst 0, 1) := by decide +kernel
theorem d_MO_wantsTerm_62 : decode (kB k_MO_wantsTerm) 62 = .ok (.ireturn, 1) := by decide +kernel
theorem d_MO_wantsTerm_63 : decode (kB k_MO_wantsTerm) 63 = .ok (.iinc 1 (-1), 3) := by decide +kernel
theorem d_MO_wantsTerm_66 : decode (kB k_MO_wantsTerm) 66 = .ok (.goto (-59), 3) := by decide +kernel
theorem d_MO_wantsTerm_69 : decode (kB k_MO_wantsTerm) 69 = .ok (.iconst 0, 1) := by decide +kernel
theorem d_MO_wantsTerm_70 : decode (kB k_MO_wantsTerm) 70 = .ok (.ireturn, 1) := by decide +kernel
theorem d_MO_isGood_0 : decode (kB k_MO_isGood) 0 = .ok (.iload_n 0, 1) := by decide +kernel
theorem d_MO_isGood_1 : decode (kB k_MO_isGood) 1 = .ok (.iconst 0, 1) := by decide +kernel
theorem d_MO_isGood_2 : decode (kB k_MO_isGood) 2 = .ok (.bipush 11, 2) := by decide +kernel
theorem d_MO_isGood_4 : decode (kB k_MO_isGood) 4 = .ok (.invokestatic 54, 3) := by decide +kernel
theorem d_MO_isGood_7 : decode (kB k_MO_isGood) 7 = .ok (.ifCond .eq (17), 3) := by decide +kernel
theorem d_MO_isGood_10 : decode (kB k_MO_isGood) 10 = .ok (.dload_n 2, 1) := by decide +kernel
theorem d_MO_isGood_11 : decode (kB k_MO_isGood) 11 = .ok (.dconst 0, 1) := by decide +kernel
theorem d_MO_isGood_12 : decode (kB k_MO_isGood) 12 = .ok (.dcmp .l, 1) := by decide +kernel
theorem d_MO_isGood_13 : decode (kB k_MO_isGood) 13 = .ok (.ifCond .le (11), 3) := by decide +kernel
theorem d_MO_isGood_16 : decode (kB k_MO_isGood) 16 = .ok (.dload_n 2, 1) := by decide +kernel
theorem d_MO_isGood_17 : decode (kB k_MO_isGood) 17 = .ok (.ldc2_w 74, 3) := by decide +kernel
theorem d_MO_isGood_20 : decode (kB k_MO_isGood) 20 = .ok (.dcmp .g, 1) := by decide +kernel
theorem d_MO_isGood_21 : decode (kB k_MO_isGood) 21 = .ok (.ifCond .le (5), 3) := by decide +kernel
theorem d_MO_isGood_24 : decode (kB k_MO_isGood) 24 = .ok (.iconst 0, 1) := by decide +kernel
theorem d_MO_isGood_25 : decode (kB k_MO_isGood) 25 = .ok (.ireturn, 1) := by decide +kernel
theorem d_MO_isGood_26 : decode (kB k_MO_isGood) 26 = .ok (.iload_n 0, 1) := by decide +kernel
theorem d_MO_isGood_27 : decode (kB k_MO_isGood) 27 = .ok (.iconst 1, 1) := by decide +kernel
theorem d_MO_isGood_28 : decode (kB k_MO_isGood) 28 = .ok (.if_icmp .gt (13), 3) := by decide +kernel
theorem d_MO_isGood_31 : decode (kB k_MO_isGood) 31 = .ok (.iload_n 1, 1) := by decide +kernel
theorem d_MO_isGood_32 : decode (kB k_MO_isGood) 32 = .ok (.iconst 0, 1) := by decide +kernel
theorem d_MO_isGood_33 : decode (kB k_MO_isGood) 33 = .ok (.bipush 15, 2) := by decide +kernel
theorem d_MO_isGood_35 : decode (kB k_MO_isGood) 35 = .ok (.invokestatic 54, 3) := by decide +kernel
theorem d_MO_isGood_38 : decode (kB k_MO_isGood) 38 = .ok (.ifCond .eq (42), 3) := by decide +kernel
theorem d_MO_isGood_41 : decode (kB k_MO_isGood) 41 = .ok (.iload_n 0, 1) := by decide +kernel
theorem d_MO_isGood_42 : decode (kB k_MO_isGood) 42 = .ok (.iconst 2, 1) := by decide +kernel
theorem d_MO_isGood_43 : decode (kB k_MO_isGood) 43 = .ok (.if_icmp .eq (8), 3) := by decide +kernel
theorem d_MO_isGood_46 : decode (kB k_MO_isGood) 46 = .ok (.iload_n 0, 1) := by decide +kernel
theorem d_MO_isGood_47 : decode (kB k_MO_isGood) 47 = .ok (.iconst 3, 1) := by decide +kernel
theorem d_MO_isGood_48 : decode (kB k_MO_isGood) 48 = .ok (.if_icmp .ne (13), 3) := by decide +kernel
theorem d_MO_isGood_51 : decode (kB k_MO_isGood) 51 = .ok (.iload_n 1, 1) := by decide +kernel
theorem d_MO_isGood_52 : decode (kB k_MO_isGood) 52 = .ok (.iconst 1, 1) := by decide +kernel
theorem d_MO_isGood_53 : decode (kB k_MO_isGood) 53 = .ok (.bipush 24, 2) := by decide +kernel
theorem d_MO_isGood_55 : decode (kB k_MO_isGood) 55 = .ok (.invokestatic 54, 3) := by decide +kernel
theorem d_MO_isGood_58 : decode (kB k_MO_isGood) 58 = .ok (.ifCond .eq (22), 3) := by decide +kernel
theorem d_MO_isGood_61 : decode (kB k_MO_isGood) 61 = .ok (.iload_n 0, 1) := by decide +kernel
theorem d_MO_isGood_62 : decode (kB k_MO_isGood) 62 = .ok (.iconst 5, 1) := by decide +kernel
theorem d_MO_isGood_63 : decode (kB k_MO_isGood) 63 = .ok (.bipush 9, 2) := by decide +kernel
theorem d_MO_isGood_65 : decode (kB k_MO_isGood) 65 = .ok (.invokestatic 54, 3) := by decide +kernel
theorem d_MO_isGood_68 : decode (kB k_MO_isGood) 68 = .ok (.ifCond .eq (14), 3) := by decide +kernel
theorem d_MO_isGood_71 : decode (kB k_MO_isGood) 71 = .ok (.iload_n 1, 1) := by decide +kernel
theorem d_MO_isGood_72 : decode (kB k_MO_isGood) 72 = .ok (.iconst 1, 1) := by decide +kernel
theorem d_MO_isGood_73 : decode (kB k_MO_isGood) 73 = .ok (.iconst 4, 1) := by decide +kernel
theorem d_MO_isGood_74 : decode (kB k_MO_isGood) 74 = .ok (.invokestatic 54, 3) := by decide +kernel
theorem d_MO_isGood_77 : decode (kB k_MO_isGood) 77 = .ok (.ifCond .ne (5), 3) := by decide +kernel
theorem d_MO_isGood_80 : decode (kB k_MO_isGood) 80 = .ok (.iconst 0, 1) := by decide +kernel
theorem d_MO_isGood_81 : decode (kB k_MO_isGood) 81 = .ok (.ireturn, 1) := by decide +kernel
theorem d_MO_isGood_82 : decode (kB k_MO_isGood) 82 = .ok (.iload_n 0, 1) := by decide +kernel
theorem d_MO_isGood_83 : decode (kB k_MO_isGood) 83 = .ok (.iconst 2, 1) := by decide +kernel
theorem d_MO_isGood_84 : decode (kB k_MO_isGood) 84 = .ok (.if_icmp .lt (38), 3) := by decide +kernel
theorem d_MO_isGood_87 : decode (kB k_MO_isGood) 87 = .ok (.iload_n 0, 1) := by decide +kernel
theorem d_MO_isGood_88 : decode (kB k_MO_isGood) 88 = .ok (.iconst 4, 1) := by decide +kernel
theorem d_MO_isGood_89 : decode (kB k_MO_isGood) 89 = .ok (.if_icmp .gt (33), 3) := by decide +kernel
theorem d_MO_isGood_92 : decode (kB k_MO_isGood) 92 = .ok (.dload_n 2, 1) := by decide +kernel
theorem d_MO_isGood_93 : decode (kB k_MO_isGood) 93 = .ok (.dconst 1, 1) := by decide +kernel
theorem d_MO_isGood_94 : decode (kB k_MO_isGood) 94 = .ok (.dcmp .l, 1) := by decide +kernel
theorem d_MO_isGood_95 : decode (kB k_MO_isGood) 95 = .ok (.ifCond .eq (27), 3) := by decide +kernel
theorem d_MO_isGood_98 : decode (kB k_MO_isGood) 98 = .ok (.dload_n 2, 1) := by decide +kernel
theorem d_MO_isGood_99 : decode (kB k_MO_isGood) 99 = .ok (.ldc2_w 29, 3) := by decide +kernel
theorem d_MO_isGood_102 : decode (kB k_MO_isGood) 102 = .ok (.dcmp .l, 1) := by decide +kernel
theorem d_MO_isGood_103 : decode (kB k_MO_isGood) 103 = .ok (.ifCond .eq (19), 3) := by decide +kernel
theorem d_MO_isGood_106 : decode (kB k_MO_isGood) 106 = .ok (.dload_n 2, 1) := by decide +kernel
theorem d_MO_isGood_107 : decode (kB k_MO_isGood) 107 = .ok (.ldc2_w 76, 3) := by decide +kernel
theorem d_MO_isGood_110 : decode (kB k_MO_isGood) 110 = .ok (.dcmp .l, 1) := by decide +kernel
theorem d_MO_isGood_111 : decode (kB k_MO_isGood) 111 = .ok (.ifCond .eq (11), 3) := by decide +kernel
theorem d_MO_isGood_114 : decode (kB k_MO_isGood) 114 = .ok (.dload_n 2, 1) := by decide +kernel
theorem d_MO_isGood_115 : decode (kB k_MO_isGood) 115 = .ok (.ldc2_w 78, 3) := by decide +kernel
theorem d_MO_isGood_118 : decode (kB k_MO_isGood) 118 = .ok (.dcmp .l, 1) := by decide +kernel
theorem d_MO_isGood_119 : decode (kB k_MO_isGood) 119 = .ok (.ifCond .ne (7), 3) := by decide +kernel
theorem d_MO_isGood_122 : decode (kB k_MO_isGood) 122 = .ok (.iconst 1, 1) := by decide +kernel
theorem d_MO_isGood_123 : decode (kB k_MO_isGood) 123 = .ok (.goto (4), 3) := by decide +kernel
theorem d_MO_isGood_126 : decode (kB k_MO_isGood) 126 = .ok (.iconst 0, 1) := by decide +kernel
theorem d_MO_isGood_127 : decode (kB k_MO_isGood) 127 = .ok (.ireturn, 1) := by decide +kernel
theorem d_MO_token_0 : decode (kB k_MO_token) 0 = .ok (.iload_n 1, 1) := by decide +kernel
theorem d_MO_token_1 : decode (kB k_MO_token) 1 = .ok (.iload_n 2, 1) := by decide +kernel
theorem d_MO_token_2 : decode (kB k_MO_token) 2 = .ok (.dload_n 3, 1) := by decide +kernel
theorem d_MO_token_3 : decode (kB k_MO_token) 3 = .ok (.invokestatic 80, 3) := by decide +kernel
theorem d_MO_token_6 : decode (kB k_MO_token) 6 = .ok (.ifCond .ne (9), 3) := by decide +kernel
theorem d_MO_token_9 : decode (kB k_MO_token) 9 = .ok (.aload_n 0, 1) := by decide +kernel
theorem d_MO_token_10 : decode (kB k_MO_token) 10 = .ok (.iconst 1, 1) := by decide +kernel
theorem d_MO_token_11 : decode (kB k_MO_token) 11 = .ok (.invokevirtual 58, 3) := by decide +kernel
theorem d_MO_token_14 : decode (kB k_MO_token) 14 = .ok (.ireturn, 1) := by decide +kernel
theorem d_MO_token_15 : decode (kB k_MO_token) 15 = .ok (.aload_n 0, 1) := by decide +kernel
theorem d_MO_token_16 : decode (kB k_MO_token) 16 = .ok (.getfield 68, 3) := by decide +kernel
theorem d_MO_token_19 : decode (kB k_MO_token) 19 = .ok (.bipush 24, 2) := by decide +kernel
theorem d_MO_token_21 : decode (kB k_MO_token) 21 = .ok (.if_icmp .eq (10), 3) := by decide +kernel
theorem d_MO_token_24 : decode (kB k_MO_token) 24 = .ok (.aload_n 0, 1) := by decide +kernel
theorem d_MO_token_25 : decode (kB k_MO_token) 25 = .ok (.invokevirtual 84, 3) := by decide +kernel
theorem d_MO_token_28 : decode (kB k_MO_token) 28 = .ok (.ifCond .ne (9), 3) := by decide +kernel
theorem d_MO_token_31 : decode (kB k_MO_token) 31 = .ok (.aload_n 0, 1) := by decide +kernel
theorem d_MO_token_32 : decode (kB k_MO_token) 32 = .ok (.iconst 2, 1) := by decide +kernel
theorem d_MO_token_33 : decode (kB k_MO_token) 33 = .ok (.invokevirtual 58, 3) := by decide +kernel
theorem d_MO_token_36 : decode (kB k_MO_token) 36 = .ok (.ireturn, 1) := by decide +kernel
theorem d_MO_token_37 : decode (kB k_MO_token) 37 = .ok (.aload_n 0, 1) := by decide +kernel
theorem d_MO_token_38 : decode (kB k_MO_token) 38 = .ok (.invokevirtual 88, 3) := by decide +kernel
theorem d_MO_token_41 : decode (kB k_MO_token) 41 = .ok (.ifCond .eq (13), 3) := by decide +kernel
theorem d_MO_token_44 : decode (kB k_MO_token) 44 = .ok (.iload_n 1, 1) := by decide +kernel
theorem d_MO_token_45 : decode (kB k_MO_token) 45 = .ok (.ifCond .eq (9), 3) := by decide +kernel
theorem d_MO_token_48 : decode (kB k_MO_token) 48 = .ok (.aload_n 0, 1) := by decide +kernel
theorem d_MO_token_49 : decode (kB k_MO_token) 49 = .ok (.iconst 3, 1) := by decide +kernel
theorem d_MO_token_50 : decode (kB k_MO_token) 50 = .ok (.invokevirtual 58, 3) := by decide +kernel
theorem d_MO_token_53 : decode (kB k_MO_token) 53 = .ok (.ireturn, 1) := by decide +kernel
theorem d_MO_token_54 : decode (kB k_MO_token) 54 = .ok (.aload_n 0, 1) := by decide +kernel
theorem d_MO_token_55 : decode (kB k_MO_token) 55 = .ok (.iconst 0, 1) := by decide +kernel
theorem d_MO_token_56 : decode (kB k_MO_token) 56 = .ok (.putfield 50, 3) := by decide +kernel
theorem d_MO_token_59 : decode (kB k_MO_token) 59 = .ok (.aload_n 0, 1) := by decide +kernel
theorem d_MO_token_60 : decode (kB k_MO_token) 60 = .ok (.iload_n 1, 1) := by decide +kernel
theorem d_MO_token_61 : decode (kB k_MO_token) 61 = .ok (.iload_n 2, 1) := by decide +kernel
theorem d_MO_token_62 : decode (kB k_MO_token) 62 = .ok (.dload_n 3, 1) := by decide +kernel
theorem d_MO_token_63 : decode (kB k_MO_token) 63 = .ok (.invokevirtual 92, 3) := by decide +kernel
theorem d_MO_token_66 : decode (kB k_MO_token) 66 = .ok (.aload_n 0, 1) := by decide +kernel
theorem d_MO_token_67 : decode (kB k_MO_token) 67 = .ok (.getfield 68, 3) := by decide +kernel
theorem d_MO_token_70 : decode (kB k_MO_token) 70 = .ok (.ireturn, 1) := by decide +kernel
theorem d_MO_add_0 : decode (kB k_MO_add) 0 = .ok (.aload_n 0, 1) := by decide +kernel
theorem d_MO_add_1 : decode (kB k_MO_add) 1 = .ok (.getfield 19, 3) := by decide +kernel
theorem d_MO_add_4 : decode (kB k_MO_add) 4 = .ok (.aload_n 0, 1) := by decide +kernel
theorem d_MO_add_5 : decode (kB k_MO_add) 5 = .ok (.getfield 68, 3) := by decide +kernel
theorem d_MO_add_8 : decode (kB k_MO_add) 8 = .ok (.iload_n 1, 1) := by decide +kernel
theorem d_MO_add_9 : decode (kB k_MO_add) 9 = .ok (.iastore, 1) := by decide +kernel
theorem d_MO_add_10 : decode (kB k_MO_add) 10 = .ok (.aload_n 0, 1) := by decide +kernel
theorem d_MO_add_11 : decode (kB k_MO_add) 11 = .ok (.getfield 22, 3) := by decide +kernel
theorem d_MO_add_14 : decode (kB k_MO_add) 14 = .ok (.aload_n 0, 1) := by decide +kernel
theorem d_MO_add_15 : decode (kB k_MO_add) 15 = .ok (.getfield 68, 3) := by decide +kernel
theorem d_MO_add_18 : decode (kB k_MO_add) 18 = .ok (.iload_n 2, 1) := by decide +kernel
theorem d_MO_add_19 : decode (kB k_MO_add) 19 = .ok (.iastore, 1) := by decide +kernel
theorem d_MO_add_20 : decode (kB k_MO_add) 20 = .ok (.aload_n 0, 1) := by decide +kernel
theorem d_MO_add_21 : decode (kB k_MO_add) 21 = .ok (.getfield 25, 3) := by decide +kernel
theorem d_MO_add_24 : decode (kB k_MO_add) 24 = .ok (.aload_n 0, 1) := by decide +kernel
theorem d_MO_add_25 : decode (kB k_MO_add) 25 = .ok (.getfield 68, 3) := by decide +kernel
theorem d_MO_add_28 : decode (kB k_MO_add) 28 = .ok (.dload_n 3, 1) := by decide +kernel
theorem d_MO_add_29 : decode (kB k_MO_add) 29 = .ok (.dastore, 1) := by decide +kernel
theorem d_MO_add_30 : decode (kB k_MO_add) 30 = .ok (.aload_n 0, 1) := by decide +kernel
theorem d_MO_add_31 : decode (kB k_MO_add) 31 = .ok (.dup, 1) := by decide +kernel
theorem d_MO_add_32 : decode (kB k_MO_add) 32 = .ok (.getfield 68, 3) := by decide +kernel
theorem d_MO_add_35 : decode (kB k_MO_add) 35 = .ok (.iconst 1, 1) := by decide +kernel
theorem d_MO_add_36 : decode (kB k_MO_add) 36 = .ok (.iadd, 1) := by decide +kernel
theorem d_MO_add_37 : decode (kB k_MO_add) 37 = .ok (.putfield 68, 3) := by decide +kernel
theorem d_MO_add_40 : decode (kB k_MO_add) 40 = .ok (.return_, 1) := by decide +kernel
theorem d_MO_clear_0 : decode (kB k_MO_clear) 0 = .ok (.aload_n 0, 1) := by decide +kernel
theorem d_MO_clear_1 : decode (kB k_MO_clear) 1 = .ok (.iconst 0, 1) := by decide +kernel
theorem d_MO_clear_2 : decode (kB k_MO_clear) 2 = .ok (.putfield 50, 3) := by decide +kernel
theorem d_MO_clear_5 : decode (kB k_MO_clear) 5 = .ok (.aload_n 0, 1) := by decide +kernel
theorem d_MO_clear_6 : decode (kB k_MO_clear) 6 = .ok (.getfield 68, 3) := by decide +kernel
theorem d_MO_clear_9 : decode (kB k_MO_clear) 9 = .ok (.istore_n 1, 1) := by decide +kernel
theorem d_MO_clear_10 : decode (kB k_MO_clear) 10 = .ok (.aload_n 0, 1) := by decide +kernel
theorem d_MO_clear_11 : decode (kB k_MO_clear) 11 = .ok (.iconst 0, 1) := by decide +kernel
theorem d_MO_clear_12 : decode (kB k_MO_clear) 12 = .ok (.putfield 68, 3) := by decide +kernel
theorem d_MO_clear_15 : decode (kB k_MO_clear) 15 = .ok (.iload_n 1, 1) := by decide +kernel
theorem d_MO_clear_16 : decode (kB k_MO_clear) 16 = .ok (.ireturn, 1) := by decide +kernel
theorem d_MO_wanted_0 : decode (kB k_MO_wanted) 0 = .ok (.aload_n 0, 1) := by decide +kernel
theorem d_MO_wanted_1 : decode (kB k_MO_wanted) 1 = .ok (.iconst 0, 1) := by decide +kernel
theorem d_MO_wanted_2 : decode (kB k_MO_wanted) 2 = .ok (.putfield 50, 3) := by decide +kernel
theorem d_MO_wanted_5 : decode (kB k_MO_wanted) 5 = .ok (.aload_n 0, 1) := by decide +kernel
theorem d_MO_wanted_6 : decode (kB k_MO_wanted) 6 = .ok (.invokevirtual 84, 3) := by decide +kernel
theorem d_MO_wanted_9 : decode (kB k_MO_wanted) 9 = .ok (.ireturn, 1) := by decide +kernel
theorem d_MO_places_0 : decode (kB k_MO_places) 0 = .ok (.iconst 0, 1) := by decide +kernel
theorem d_MO_places_1 : decode (kB k_MO_places) 1 = .ok (.istore_n 3, 1) := by decide +kernel
theorem d_MO_places_2 : decode (kB k_MO_places) 2 = .ok (.iconst 0, 1) := by decide +kernel
theorem d_MO_places_3 : decode (kB k_MO_places) 3 = .ok (.istore 4, 2) := by decide +kernel
theorem d_MO_places_5 : decode (kB k_MO_places) 5 = .ok (.iload 4, 2) := by decide +kernel
theorem d_MO_places_7 : decode (kB k_MO_places) 7 = .ok (.aload_n 0, 1) := by decide +kernel
theorem d_MO_places_8 : decode (kB k_MO_places) 8 = .ok (.getfield 13, 3) := by decide +kernel
theorem d_MO_places_11 : decode (kB k_MO_places) 11 = .ok (.iload_n 1, 1) := by decide +kernel
theorem d_MO_places_12 : decode (kB k_MO_places) 12 = .ok (.iaload, 1) := by decide +kernel
theorem d_MO_places_13 : decode (kB k_MO_places) 13 = .ok (.if_icmp .ge (32), 3) := by decide +kernel
theorem d_MO_places_16 : decode (kB k_MO_places) 16 = .ok (.aload_n 0, 1) := by decide +kernel
theorem d_MO_places_17 : decode (kB k_MO_places) 17 = .ok (.getfield 7, 3) := by decide +kernel
theorem d_MO_places_20 : decode (kB k_MO_places) 20 = .ok (.bipush 24, 2) := by decide +kernel
theorem d_MO_places_22 : decode (kB k_MO_places) 22 = .ok (.iload_n 1, 1) := by decide +kernel
theorem d_MO_places_23 : decode (kB k_MO_places) 23 = .ok (.imul, 1) := by decide +kernel
theorem d_MO_places_24 : decode (kB k_MO_places) 24 = .ok (.iload 4, 2) := by decide +kernel
theorem d_MO_places_26 : decode (kB k_MO_places) 26 = .ok (.iadd, 1) := by decide +kernel
theorem d_MO_places_27 : decode (kB k_MO_places) 27 = .ok (.iaload, 1) := by decide +kernel
theorem d_MO_places_28 : decode (kB k_MO_places) 28 = .ok (.iload_n 2, 1) := by decide +kernel
theorem d_MO_places_29 : decode (kB k_MO_places) 29 = .ok (.if_icmp .ne (10), 3) := by decide +kernel
theorem d_MO_places_32 : decode (kB k_MO_places) 32 = .ok (.iload_n 3, 1) := by decide +kernel
theorem d_MO_places_33 : decode (kB k_MO_places) 33 = .ok (.iconst 1, 1) := by decide +kernel
theorem d_MO_places_34 : decode (kB k_MO_places) 34 = .ok (.iload 4, 2) := by decide +kernel
theorem d_MO_places_36 : decode (kB k_MO_places) 36 = .ok (.ishl, 1) := by decide +kernel
theorem d_MO_places_37 : decode (kB k_MO_places) 37 = .ok (.ior, 1) := by decide +kernel
theorem d_MO_places_38 : decode (kB k_MO_places) 38 = .ok (.istore_n 3, 1) := by decide +kernel
theorem d_MO_places_39 : decode (kB k_MO_places) 39 = .ok (.iinc 4 1, 3) := by decide +kernel
theorem d_MO_places_42 : decode (kB k_MO_places) 42 = .ok (.goto (-37), 3) := by decide +kernel
theorem d_MO_places_45 : decode (kB k_MO_places) 45 = .ok (.iload_n 3, 1) := by decide +kernel
theorem d_MO_places_46 : decode (kB k_MO_places) 46 = .ok (.ireturn, 1) := by decide +kernel
theorem d_MO_hitsOf_0 : decode (kB k_MO_hitsOf) 0 = .ok (.aload_n 0, 1) := by decide +kernel
theorem d_MO_hitsOf_1 : decode (kB k_MO_hitsOf) 1 = .ok (.getfield 19, 3) := by decide +kernel
theorem d_MO_hitsOf_4 : decode (kB k_MO_hitsOf) 4 = .ok (.iload_n 1, 1) := by decide +kernel
theorem d_MO_hitsOf_5 : decode (kB k_MO_hitsOf) 5 = .ok (.iaload, 1) := by decide +kernel
theorem d_MO_hitsOf_6 : decode (kB k_MO_hitsOf) 6 = .ok (.istore_n 3, 1) := by decide +kernel
theorem d_MO_hitsOf_7 : decode (kB k_MO_hitsOf) 7 = .ok (.iload_n 3, 1) := by decide +kernel
theorem d_MO_hitsOf_8 : decode (kB k_MO_hitsOf) 8 = .ok (.ifCond .ne (15), 3) := by decide +kernel
theorem d_MO_hitsOf_11 : decode (kB k_MO_hitsOf) 11 = .ok (.aload_n 0, 1) := by decide +kernel
theorem d_MO_hitsOf_12 : decode (kB k_MO_hitsOf) 12 = .ok (.iload_n 2, 1) := by decide +kernel
theorem d_MO_hitsOf_13 : decode (kB k_MO_hitsOf) 13 = .ok (.aload_n 0, 1) := by decide +kernel
theorem d_MO_hitsOf_14 : decode (kB k_MO_hitsOf) 14 = .ok (.getfield 22, 3) := by decide +kernel
theorem d_MO_hitsOf_17 : decode (kB k_MO_hitsOf) 17 = .ok (.iload_n 1, 1) := by decide +kernel
theorem d_MO_hitsOf_18 : decode (kB k_MO_hitsOf) 18 = .ok (.iaload, 1) := by decide +kernel
theorem d_MO_hitsOf_19 : decode (kB k_MO_hitsOf) 19 = .ok (.invokevirtual 96, 3) := by decide +kernel
theorem d_MO_hitsOf_22 : decode (kB k_MO_hitsOf) 22 = .ok (.ireturn, 1) := by decide +kernel
theorem d_MO_hitsOf_23 : decode (kB k_MO_hitsOf) 23 = .ok (.iload_n 3, 1) := by decide +kernel
theorem d_MO_hitsOf_24 : decode (kB k_MO_hitsOf) 24 = .ok (.iconst 1, 1) := by decide +kernel
theorem d_MO_hitsOf_25 : decode (kB k_MO_hitsOf) 25 = .ok (.if_icmp .ne (26), 3) := by decide +kernel
theorem d_MO_hitsOf_28 : decode (kB k_MO_hitsOf) 28 = .ok (.aload_n 0, 1) := by decide +kernel
theorem d_MO_hitsOf_29 : decode (kB k_MO_hitsOf) 29 = .ok (.iload_n 2, 1) := by decide +kernel
theorem d_MO_hitsOf_30 : decode (kB k_MO_hitsOf) 30 = .ok (.aload_n 0, 1) := by decide +kernel
theorem d_MO_hitsOf_31 : decode (kB k_MO_hitsOf) 31 = .ok (.getfield 22, 3) := by decide +kernel
theorem d_MO_hitsOf_34 : decode (kB k_MO_hitsOf) 34 = .ok (.iload_n 1, 1) := by decide +kernel
theorem d_MO_hitsOf_35 : decode (kB k_MO_hitsOf) 35 = .ok (.iaload, 1) := by decide +kernel
theorem d_MO_hitsOf_36 : decode (kB k_MO_hitsOf) 36 = .ok (.invokevirtual 96, 3) := by decide +kernel
theorem d_MO_hitsOf_39 : decode (kB k_MO_hitsOf) 39 = .ok (.iconst 1, 1) := by decide +kernel
theorem d_MO_hitsOf_40 : decode (kB k_MO_hitsOf) 40 = .ok (.aload_n 0, 1) := by decide +kernel
theorem d_MO_hitsOf_41 : decode (kB k_MO_hitsOf) 41 = .ok (.getfield 16, 3) := by decide +kernel
theorem d_MO_hitsOf_44 : decode (kB k_MO_hitsOf) 44 = .ok (.iload_n 2, 1) := by decide +kernel
theorem d_MO_hitsOf_45 : decode (kB k_MO_hitsOf) 45 = .ok (.iaload, 1) := by decide +kernel
theorem d_MO_hitsOf_46 : decode (kB k_MO_hitsOf) 46 = .ok (.ishl, 1) := by decide +kernel
theorem d_MO_hitsOf_47 : decode (kB k_MO_hitsOf) 47 = .ok (.iconst 1, 1) := by decide +kernel
theorem d_MO_hitsOf_48 : decode (kB k_MO_hitsOf) 48 = .ok (.isub, 1) := by decide +kernel
theorem d_MO_hitsOf_49 : decode (kB k_MO_hitsOf) 49 = .ok (.iand, 1) := by decide +kernel
theorem d_MO_hitsOf_50 : decode (kB k_MO_hitsOf) 50 = .ok (.ireturn, 1) := by decide +kernel
theorem d_MO_hitsOf_51 : decode (kB k_MO_hitsOf) 51 = .ok (.iconst 0, 1) := by decide +kernel
theorem d_MO_hitsOf_52 : decode (kB k_MO_hitsOf) 52 = .ok (.istore 4, 2) := by decide +kernel
theorem d_MO_hitsOf_54 : decode (kB k_MO_hitsOf) 54 = .ok (.iconst 0, 1) := by decide +kernel
theorem d_MO_hitsOf_55 : decode (kB k_MO_hitsOf) 55 = .ok (.istore 5, 2) := by decide +kernel
theorem d_MO_hitsOf_57 : decode (kB k_MO_hitsOf) 57 = .ok (.iconst 1, 1) := by decide +kernel
theorem d_MO_hitsOf_58 : decode (kB k_MO_hitsOf) 58 = .ok (.istore 6, 2) := by decide +kernel
theorem d_MO_hitsOf_60 : decode (kB k_MO_hitsOf) 60 = .ok (.iload 6, 2) := by decide +kernel
theorem d_MO_hitsOf_62 : decode (kB k_MO_hitsOf) 62 = .ok (.aload_n 0, 1) := by decide +kernel
theorem d_MO_hitsOf_63 : decode (kB k_MO_hitsOf) 63 = .ok (.iload_n 1, 1) := by decide +kernel
theorem d_MO_hitsOf_64 : decode (kB k_MO_hitsOf) 64 = .ok (.invokevirtual 71, 3) := by decide +kernel
theorem d_MO_hitsOf_67 : decode (kB k_MO_hitsOf) 67 = .ok (.if_icmp .gt (28), 3) := by decide +kernel
theorem d_MO_hitsOf_70 : decode (kB k_MO_hitsOf) 70 = .ok (.iload 4, 2) := by decide +kernel
theorem d_MO_hitsOf_72 : decode (kB k_MO_hitsOf) 72 = .ok (.aload_n 0, 1) := by decide +kernel
theorem d_MO_hitsOf_73 : decode (kB k_MO_hitsOf) 73 = .ok (.iload_n 2, 1) := by decide +kernel
theorem d_MO_hitsOf_74 : decode (kB k_MO_hitsOf) 74 = .ok (.aload_n 0, 1) := by decide +kernel
theorem d_MO_hitsOf_75 : decode (kB k_MO_hitsOf) 75 = .ok (.getfield 22, 3) := by decide +kernel
theorem d_MO_hitsOf_78 : decode (kB k_MO_hitsOf) 78 = .ok (.iload_n 1, 1) := by decide +kernel
theorem d_MO_hitsOf_79 : decode (kB k_MO_hitsOf) 79 = .ok (.iload 6, 2) := by decide +kernel
theorem d_MO_hitsOf_81 : decode (kB k_MO_hitsOf) 81 = .ok (.iadd, 1) := by decide +kernel
theorem d_MO_hitsOf_82 : decode (kB k_MO_hitsOf) 82 = .ok (.iaload, 1) := by decide +kernel
theorem d_MO_hitsOf_83 : decode (kB k_MO_hitsOf) 83 = .ok (.invokevirtual 96, 3) := by decide +kernel
theorem d_MO_hitsOf_86 : decode (kB k_MO_hitsOf) 86 = .ok (.ior, 1) := by decide +kernel
theorem d_MO_hitsOf_87 : decode (kB k_MO_hitsOf) 87 = .ok (.istore 4, 2) := by decide +kernel
theorem d_MO_hitsOf_89 : decode (kB k_MO_hitsOf) 89 = .ok (.iinc 6 1, 3) := by decide +kernel
theorem d_MO_hitsOf_92 : decode (kB k_MO_hitsOf) 92 = .ok (.goto (-32), 3) := by decide +kernel
theorem d_MO_hitsOf_95 : decode (kB k_MO_hitsOf) 95 = .ok (.iload_n 3, 1) := by decide +kernel
theorem d_MO_hitsOf_96 : decode (kB k_MO_hitsOf) 96 = .ok (.iconst 4, 1) := by decide +kernel
theorem d_MO_hitsOf_97 : decode (kB k_MO_hitsOf) 97 = .ok (.if_icmp .ne (6), 3) := by decide +kernel
theorem d_MO_hitsOf_100 : decode (kB k_MO_hitsOf) 100 = .ok (.iload 4, 2) := by decide +kernel
theorem d_MO_hitsOf_102 : decode (kB k_MO_hitsOf) 102 = .ok (.ireturn, 1) := by decide +kernel
theorem d_MO_hitsOf_103 : decode (kB k_MO_hitsOf) 103 = .ok (.iconst 0, 1) := by decide +kernel
theorem d_MO_hitsOf_104 : decode (kB k_MO_hitsOf) 104 = .ok (.istore 6, 2) := by decide +kernel
theorem d_MO_hitsOf_106 : decode (kB k_MO_hitsOf) 106 = .ok (.iload 6, 2) := by decide +kernel
theorem d_MO_hitsOf_108 : decode (kB k_MO_hitsOf) 108 = .ok (.aload_n 0, 1) := by decide +kernel
theorem d_MO_hitsOf_109 : decode (kB k_MO_hitsOf) 109 = .ok (.getfield 13, 3) := by decide +kernel
theorem d_MO_hitsOf_112 : decode (kB k_MO_hitsOf) 112 = .ok (.iload_n 2, 1) := by decide +kernel
theorem d_MO_hitsOf_113 : decode (kB k_MO_hitsOf) 113 = .ok (.iaload, 1) := by decide +kernel
theorem d_MO_hitsOf_114 : decode (kB k_MO_hitsOf) 114 = .ok (.if_icmp .ge (59), 3) := by decide +kernel
theorem d_MO_hitsOf_117 : decode (kB k_MO_hitsOf) 117 = .ok (.iload_n 3, 1) := by decide +kernel
theorem d_MO_hitsOf_118 : decode (kB k_MO_hitsOf) 118 = .ok (.iconst 2, 1) := by decide +kernel
theorem d_MO_hitsOf_119 : decode (kB k_MO_hitsOf) 119 = .ok (.if_icmp .ne (17), 3) := by decide +kernel
theorem d_MO_hitsOf_122 : decode (kB k_MO_hitsOf) 122 = .ok (.aload_n 0, 1) := by decide +kernel
theorem d_MO_hitsOf_123 : decode (kB k_MO_hitsOf) 123 = .ok (.iload_n 1, 1) := by decide +kernel
theorem d_MO_hitsOf_124 : decode (kB k_MO_hitsOf) 124 = .ok (.iload_n 2, 1) := by decide +kernel
theorem d_MO_hitsOf_125 : decode (kB k_MO_hitsOf) 125 = .ok (.iload 6, 2) := by decide +kernel
theorem d_MO_hitsOf_127 : decode (kB k_MO_hitsOf) 127 = .ok (.invokevirtual 100, 3) := by decide +kernel
theorem d_MO_hitsOf_130 : decode (kB k_MO_hitsOf) 130 = .ok (.ifCond .eq (37), 3) := by decide +kernel
theorem d_MO_hitsOf_133 : decode (kB k_MO_hitsOf) 133 = .ok (.goto (25), 3) := by decide +kernel
theorem d_MO_hitsOf_136 : decode (kB k_MO_hitsOf) 136 = .ok (.iload 4, 2) := by decide +kernel
theorem d_MO_hitsOf_138 : decode (kB k_MO_hitsOf) 138 = .ok (.iload 6, 2) := by decide +kernel
theorem d_MO_hitsOf_140 : decode (kB k_MO_hitsOf) 140 = .ok (.ishr, 1) := by decide +kernel
theorem d_MO_hitsOf_141 : decode (kB k_MO_hitsOf) 141 = .ok (.iconst 1, 1) := by decide +kernel
theorem d_MO_hitsOf_142 : decode (kB k_MO_hitsOf) 142 = .ok (.iand, 1) := by decide +kernel
theorem d_MO_hitsOf_143 : decode (kB k_MO_hitsOf) 143 = .ok (.iconst 1, 1) := by decide +kernel
theorem d_MO_hitsOf_144 : decode (kB k_MO_hitsOf) 144 = .ok (.if_icmp .ne (23), 3) := by decide +kernel
theorem d_MO_hitsOf_147 : decode (kB k_MO_hitsOf) 147 = .ok (.aload_n 0, 1) := by decide +kernel
theorem d_MO_hitsOf_148 : decode (kB k_MO_hitsOf) 148 = .ok (.iload_n 1, 1) := by decide +kernel
theorem d_MO_hitsOf_149 : decode (kB k_MO_hitsOf) 149 = .ok (.iload_n 2, 1) := by decide +kernel
theorem d_MO_hitsOf_150 : decode (kB k_MO_hitsOf) 150 = .ok (.iload 6, 2) := by decide +kernel
theorem d_MO_hitsOf_152 : decode (kB k_MO_hitsOf) 152 = .ok (.invokevirtual 103, 3) := by decide +kernel
theorem d_MO_hitsOf_155 : decode (kB k_MO_hitsOf) 155 = .ok (.ifCond .eq (12), 3) := by decide +kernel
theorem d_MO_hitsOf_158 : decode (kB k_MO_hitsOf) 158 = .ok (.iload 5, 2) := by decide +kernel
theorem d_MO_hitsOf_160 : decode (kB k_MO_hitsOf) 160 = .ok (.iconst 1, 1) := by decide +kernel
theorem d_MO_hitsOf_161 : decode (kB k_MO_hitsOf) 161 = .ok (.iload 6, 2) := by decide +kernel
theorem d_MO_hitsOf_163 : decode (kB k_MO_hitsOf) 163 = .ok (.ishl, 1) := by decide +kernel
theorem d_MO_hitsOf_164 : decode (kB k_MO_hitsOf) 164 = .ok (.ior, 1) := by decide +kernel
theorem d_MO_hitsOf_165 : decode (kB k_MO_hitsOf) 165 = .ok (.istore 5, 2) := by decide +kernel
theorem d_MO_hitsOf_167 : decode (kB k_MO_hitsOf) 167 = .ok (.iinc 6 1, 3) := by decide +kernel
theorem d_MO_hitsOf_170 : decode (kB k_MO_hitsOf) 170 = .ok (.goto (-64), 3) := by decide +kernel
theorem d_MO_hitsOf_173 : decode (kB k_MO_hitsOf) 173 = .ok (.iload 5, 2) := by decide +kernel
theorem d_MO_hitsOf_175 : decode (kB k_MO_hitsOf) 175 = .ok (.ireturn, 1) := by decide +kernel
theorem d_MO_isNear_0 : decode (kB k_MO_isNear) 0 = .ok (.iload_n 3, 1) := by decide +kernel
theorem d_MO_isNear_1 : decode (kB k_MO_isNear) 1 = .ok (.istore 4, 2) := by decide +kernel
theorem d_MO_isNear_3 : decode (kB k_MO_isNear) 3 = .ok (.aload_n 0, 1) := by decide +kernel
theorem d_MO_isNear_4 : decode (kB k_MO_isNear) 4 = .ok (.getfield 7, 3) := by decide +kernel
theorem d_MO_isNear_7 : decode (kB k_MO_isNear) 7 = .ok (.bipush 24, 2) := by decide +kernel
theorem d_MO_isNear_9 : decode (kB k_MO_isNear) 9 = .ok (.iload_n 2, 1) := by decide +kernel
theorem d_MO_isNear_10 : decode (kB k_MO_isNear) 10 = .ok (.imul, 1) := by decide +kernel
theorem d_MO_isNear_11 : decode (kB k_MO_isNear) 11 = .ok (.iload 4, 2) := by decide +kernel
theorem d_MO_isNear_13 : decode (kB k_MO_isNear) 13 = .ok (.iadd, 1) := by decide +kernel
theorem d_MO_isNear_14 : decode (kB k_MO_isNear) 14 = .ok (.iaload, 1) := by decide +kernel
theorem d_MO_isNear_15 : decode (kB k_MO_isNear) 15 = .ok (.aload_n 0, 1) := by decide +kernel
theorem d_MO_isNear_16 : decode (kB k_MO_isNear) 16 = .ok (.getfield 22, 3) := by decide +kernel
theorem d_MO_isNear_19 : decode (kB k_MO_isNear) 19 = .ok (.iload_n 1, 1) := by decide +kernel
theorem d_MO_isNear_20 : decode (kB k_MO_isNear) 20 = .ok (.iconst 1, 1) := by decide +kernel
theorem d_MO_isNear_21 : decode (kB k_MO_isNear) 21 = .ok (.iadd, 1) := by decide +kernel
theorem d_MO_isNear_22 : decode (kB k_MO_isNear) 22 = .ok (.iaload, 1) := by decide +kernel
theorem d_MO_isNear_23 : decode (kB k_MO_isNear) 23 = .ok (.if_icmp .eq (5), 3) := by decide +kernel
theorem d_MO_isNear_26 : decode (kB k_MO_isNear) 26 = .ok (.iconst 0, 1) := by decide +kernel
theorem d_MO_isNear_27 : decode (kB k_MO_isNear) 27 = .ok (.ireturn, 1) := by decide +kernel
theorem d_MO_isNear_28 : decode (kB k_MO_isNear) 28 = .ok (.iconst 2, 1) := by decide +kernel
theorem d_MO_isNear_29 : decode (kB k_MO_isNear) 29 = .ok (.istore 5, 2) := by decide +kernel
theorem d_MO_isNear_31 : decode (kB k_MO_isNear) 31 = .ok (.iload 5, 2) := by decide +kernel
theorem d_MO_isNear_33 : decode (kB k_MO_isNear) 33 = .ok (.aload_n 0, 1) := by decide +kernel
theorem d_MO_isNear_34 : decode (kB k_MO_isNear) 34 = .ok (.iload_n 1, 1) := by decide +kernel
theorem d_MO_isNear_35 : decode (kB k_MO_isNear) 35 = .ok (.invokevirtual 71, 3) := by decide +kernel
theorem d_MO_isNear_38 : decode (kB k_MO_isNear) 38 = .ok (.if_icmp .gt (87), 3) := by decide +kernel
theorem d_MO_isNear_41 : decode (kB k_MO_isNear) 41 = .ok (.iload 4, 2) := by decide +kernel
theorem d_MO_isNear_43 : decode (kB k_MO_isNear) 43 = .ok (.iconst 1, 1) := by decide +kernel
theorem d_MO_isNear_44 : decode (kB k_MO_isNear) 44 = .ok (.iadd, 1) := by decide +kernel
theorem d_MO_isNear_45 : decode (kB k_MO_isNear) 45 = .ok (.istore 6, 2) := by decide +kernel
theorem d_MO_isNear_47 : decode (kB k_MO_isNear) 47 = .ok (.iload 6, 2) := by decide +kernel
theorem d_MO_isNear_49 : decode (kB k_MO_isNear) 49 = .ok (.aload_n 0, 1) := by decide +kernel
theorem d_MO_isNear_50 : decode (kB k_MO_isNear) 50 = .ok (.getfield 13, 3) := by decide +kernel
theorem d_MO_isNear_53 : decode (kB k_MO_isNear) 53 = .ok (.iload_n 2, 1) := by decide +kernel
theorem d_MO_isNear_54 : decode (kB k_MO_isNear) 54 = .ok (.iaload, 1) := by decide +kernel
theorem d_MO_isNear_55 : decode (kB k_MO_isNear) 55 = .ok (.if_icmp .ge (33), 3) := by decide +kernel
theorem d_MO_isNear_58 : decode (kB k_MO_isNear) 58 = .ok (.aload_n 0, 1) := by decide +kernel
theorem d_MO_isNear_59 : decode (kB k_MO_isNear) 59 = .ok (.getfield 7, 3) := by decide +kernel
theorem d_MO_isNear_62 : decode (kB k_MO_isNear) 62 = .ok (.bipush 24, 2) := by decide +kernel
theorem d_MO_isNear_64 : decode (kB k_MO_isNear) 64 = .ok (.iload_n 2, 1) := by decide +kernel
theorem d_MO_isNear_65 : decode (kB k_MO_isNear) 65 = .ok (.imul, 1) := by decide +kernel
theorem d_MO_isNear_66 : decode (kB k_MO_isNear) 66 = .ok (.iload 6, 2) := by decide +kernel
theorem d_MO_isNear_68 : decode (kB k_MO_isNear) 68 = .ok (.iadd, 1) := by decide +kernel
theorem d_MO_isNear_69 : decode (kB k_MO_isNear) 69 = .ok (.iaload, 1) := by decide +kernel
theorem d_MO_isNear_70 : decode (kB k_MO_isNear) 70 = .ok (.aload_n 0, 1) := by decide +kernel
theorem d_MO_isNear_71 : decode (kB k_MO_isNear) 71 = .ok (.getfield 22, 3) := by decide +kernel
theorem d_MO_isNear_74 : decode (kB k_MO_isNear) 74 = .ok (.iload_n 1, 1) := by decide +kernel
theorem d_MO_isNear_75 : decode (kB k_MO_isNear) 75 = .ok (.iload 5, 2) := by decide +kernel
theorem d_MO_isNear_77 : decode (kB k_MO_isNear) 77 = .ok (.iadd, 1) := by decide +kernel
theorem d_MO_isNear_78 : decode (kB k_MO_isNear) 78 = .ok (.iaload, 1) := by decide +kernel
theorem d_MO_isNear_79 : decode (kB k_MO_isNear) 79 = .ok (.if_icmp .eq (9), 3) := by decide +kernel
theorem d_MO_isNear_82 : decode (kB k_MO_isNear) 82 = .ok (.iinc 6 1, 3) := by decide +kernel
theorem d_MO_isNear_85 : decode (kB k_MO_isNear) 85 = .ok (.goto (-38), 3) := by decide +kernel
theorem d_MO_isNear_88 : decode (kB k_MO_isNear) 88 = .ok (.iload 6, 2) := by decide +kernel
theorem d_MO_isNear_90 : decode (kB k_MO_isNear) 90 = .ok (.aload_n 0, 1) := by decide +kernel
theorem d_MO_isNear_91 : decode (kB k_MO_isNear) 91 = .ok (.getfield 13, 3) := by decide +kernel
theorem d_MO_isNear_94 : decode (kB k_MO_isNear) 94 = .ok (.iload_n 2, 1) := by decide +kernel
theorem d_MO_isNear_95 : decode (kB k_MO_isNear) 95 = .ok (.iaload, 1) := by decide +kernel
theorem d_MO_isNear_96 : decode (kB k_MO_isNear) 96 = .ok (.if_icmp .eq (17), 3) := by decide +kernel
theorem d_MO_isNear_99 : decode (kB k_MO_isNear) 99 = .ok (.iload 6, 2) := by decide +kernel
theorem d_MO_isNear_101 : decode (kB k_MO_isNear) 101 = .ok (.iload 4, 2) := by decide +kernel
theorem d_MO_isNear_103 : decode (kB k_MO_isNear) 103 = .ok (.isub, 1) := by decide +kernel
theorem d_MO_isNear_104 : decode (kB k_MO_isNear) 104 = .ok (.aload_n 0, 1) := by decide +kernel
theorem d_MO_isNear_105 : decode (kB k_MO_isNear) 105 = .ok (.getfield 22, 3) := by decide +kernel
theorem d_MO_isNear_108 : decode (kB k_MO_isNear) 108 = .ok (.iload_n 1, 1) := by decide +kernel
theorem d_MO_isNear_109 : decode (kB k_MO_isNear) 109 = .ok (.iaload, 1) := by decide +kernel
theorem d_MO_isNear_110 : decode (kB k_MO_isNear) 110 = .ok (.if_icmp .le (5), 3) := by decide +kernel
theorem d_MO_isNear_113 : decode (kB k_MO_isNear) 113 = .ok (.iconst 0, 1) := by decide +kernel
theorem d_MO_isNear_114 : decode (kB k_MO_isNear) 114 = .ok (.ireturn, 1) := by decide +kernel
theorem d_MO_isNear_115 : decode (kB k_MO_isNear) 115 = .ok (.iload 6, 2) := by decide +kernel
theorem d_MO_isNear_117 : decode (kB k_MO_isNear) 117 = .ok (.istore 4, 2) := by decide +kernel
theorem d_MO_isNear_119 : decode (kB k_MO_isNear) 119 = .ok (.iinc 5 1, 3) := by decide +kernel
theorem d_MO_isNear_122 : decode (kB k_MO_isNear) 122 = .ok (.goto (-91), 3) := by decide +kernel
theorem d_MO_isNear_125 : decode (kB k_MO_isNear) 125 = .ok (.iconst 1, 1) := by decide +kernel
theorem d_MO_isNear_126 : decode (kB k_MO_isNear) 126 = .ok (.ireturn, 1) := by decide +kernel
theorem d_MO_isAround_0 : decode (kB k_MO_isAround) 0 = .ok (.iconst 1, 1) := by decide +kernel
theorem d_MO_isAround_1 : decode (kB k_MO_isAround) 1 = .ok (.istore 4, 2) := by decide +kernel
theorem d_MO_isAround_3 : decode (kB k_MO_isAround) 3 = .ok (.iload 4, 2) := by decide +kernel
theorem d_MO_isAround_5 : decode (kB k_MO_isAround) 5 = .ok (.aload_n 0, 1) := by decide +kernel
theorem d_MO_isAround_6 : decode (kB k_MO_isAround) 6 = .ok (.iload_n 1, 1) := by decide +kernel
theorem d_MO_isAround_7 : decode (kB k_MO_isAround) 7 = .ok (.invokevirtual 71, 3) := by decide +kernel
theorem d_MO_isAround_10 : decode (kB k_MO_isAround) 10 = .ok (.if_icmp .gt (79), 3) := by decide +kernel
theorem d_MO_isAround_13 : decode (kB k_MO_isAround) 13 = .ok (.iconst 0, 1) := by decide +kernel
theorem d_MO_isAround_14 : decode (kB k_MO_isAround) 14 = .ok (.istore 5, 2) := by decide +kernel
theorem d_MO_isAround_16 : decode (kB k_MO_isAround) 16 = .ok (.iload_n 3, 1) := by decide +kernel
theorem d_MO_isAround_17 : decode (kB k_MO_isAround) 17 = .ok (.istore 6, 2) := by decide +kernel
theorem d_MO_isAround_19 : decode (kB k_MO_isAround) 19 = .ok (.iload 6, 2) := by decide +kernel
theorem d_MO_isAround_21 : decode (kB k_MO_isAround) 21 = .ok (.aload_n 0, 1) := by decide +kernel
theorem d_MO_isAround_22 : decode (kB k_MO_isAround) 22 = .ok (.getfield 13, 3) := by decide +kernel
theorem d_MO_isAround_25 : decode (kB k_MO_isAround) 25 = .ok (.iload_n 2, 1) := by decide +kernel
theorem d_MO_isAround_26 : decode (kB k_MO_isAround) 26 = .ok (.iaload, 1) := by decide +kernel
theorem d_MO_isAround_27 : decode (kB k_MO_isAround) 27 = .ok (.if_icmp .ge (49), 3) := by decide +kernel
theorem d_MO_isAround_30 : decode (kB k_MO_isAround) 30 = .ok (.iload 6, 2) := by decide +kernel
theorem d_MO_isAround_32 : decode (kB k_MO_isAround) 32 = .ok (.iload_n 3, 1) := by decide +kernel
theorem d_MO_isAround_33 : decode (kB k_MO_isAround) 33 = .ok (.aload_n 0, 1) := by decide +kernel
theorem d_MO_isAround_34 : decode (kB k_MO_isAround) 34 = .ok (.getfield 22, 3) := by decide +kernel
theorem d_MO_isAround_37 : decode (kB k_MO_isAround) 37 = .ok (.iload_n 1, 1) := by decide +kernel
theorem d_MO_isAround_38 : decode (kB k_MO_isAround) 38 = .ok (.iaload, 1) := by decide +kernel
theorem d_MO_isAround_39 : decode (kB k_MO_isAround) 39 = .ok (.iadd, 1) := by decide +kernel
theorem d_MO_isAround_40 : decode (kB k_MO_isAround) 40 = .ok (.if_icmp .ge (36), 3) := by decide +kernel
theorem d_MO_isAround_43 : decode (kB k_MO_isAround) 43 = .ok (.aload_n 0, 1) := by decide +kernel
theorem d_MO_isAround_44 : decode (kB k_MO_isAround) 44 = .ok (.getfield 7, 3) := by decide +kernel
theorem d_MO_isAround_47 : decode (kB k_MO_isAround) 47 = .ok (.bipush 24, 2) := by decide +kernel
theorem d_MO_isAround_49 : decode (kB k_MO_isAround) 49 = .ok (.iload_n 2, 1) := by decide +kernel
theorem d_MO_isAround_50 : decode (kB k_MO_isAround) 50 = .ok (.imul, 1) := by decide +kernel
theorem d_MO_isAround_51 : decode (kB k_MO_isAround) 51 = .ok (.iload 6, 2) := by decide +kernel
theorem d_MO_isAround_53 : decode (kB k_MO_isAround) 53 = .ok (.iadd, 1) := by decide +kernel
theorem d_MO_isAround_54 : decode (kB k_MO_isAround) 54 = .ok (.iaload, 1) := by decide +kernel
theorem d_MO_isAround_55 : decode (kB k_MO_isAround) 55 = .ok (.aload_n 0, 1) := by decide +kernel
theorem d_MO_isAround_56 : decode (kB k_MO_isAround) 56 = .ok (.getfield 22, 3) := by decide +kernel
theorem d_MO_isAround_59 : decode (kB k_MO_isAround) 59 = .ok (.iload_n 1, 1) := by decide +kernel
theorem d_MO_isAround_60 : decode (kB k_MO_isAround) 60 = .ok (.iload 4, 2) := by decide +kernel
theorem d_MO_isAround_62 : decode (kB k_MO_isAround) 62 = .ok (.iadd, 1) := by decide +kernel
theorem d_MO_isAround_63 : decode (kB k_MO_isAround) 63 = .ok (.iaload, 1) := by decide +kernel
theorem d_MO_isAround_64 : decode (kB k_MO_isAround) 64 = .ok (.if_icmp .ne (6), 3) := by decide +kernel
theorem d_MO_isAround_67 : decode (kB k_MO_isAround) 67 = .ok (.iconst 1, 1) := by decide +kernel
theorem d_MO_isAround_68 : decode (kB k_MO_isAround) 68 = .ok (.istore 5, 2) := by decide +kernel
theorem d_MO_isAround_70 : decode (kB k_MO_isAround) 70 = .ok (.iinc 6 1, 3) := by decide +kernel
theorem d_MO_isAround_73 : decode (kB k_MO_isAround) 73 = .ok (.goto (-54), 3) := by decide +kernel
theorem d_MO_isAround_76 : decode (kB k_MO_isAround) 76 = .ok (.iload 5, 2) := by decide +kernel
theorem d_MO_isAround_78 : decode (kB k_MO_isAround) 78 = .ok (.ifCond .ne (5), 3) := by decide +kernel
theorem d_MO_isAround_81 : decode (kB k_MO_isAround) 81 = .ok (.iconst 0, 1) := by decide +kernel
theorem d_MO_isAround_82 : decode (kB k_MO_isAround) 82 = .ok (.ireturn, 1) := by decide +kernel
theorem d_MO_isAround_83 : decode (kB k_MO_isAround) 83 = .ok (.iinc 4 1, 3) := by decide +kernel
theorem d_MO_isAround_86 : decode (kB k_MO_isAround) 86 = .ok (.goto (-83), 3) := by decide +kernel
theorem d_MO_isAround_89 : decode (kB k_MO_isAround) 89 = .ok (.iconst 1, 1) := by decide +kernel
theorem d_MO_isAround_90 : decode (kB k_MO_isAround) 90 = .ok (.ireturn, 1) := by decide +kernel
theorem d_MO_bits_0 : decode (kB k_MO_bits) 0 = .ok (.iconst 0, 1) := by decide +kernel
theorem d_MO_bits_1 : decode (kB k_MO_bits) 1 = .ok (.istore_n 1, 1) := by decide +kernel
theorem d_MO_bits_2 : decode (kB k_MO_bits) 2 = .ok (.iload_n 0, 1) := by decide +kernel
theorem d_MO_bits_3 : decode (kB k_MO_bits) 3 = .ok (.istore_n 2, 1) := by decide +kernel
theorem d_MO_bits_4 : decode (kB k_MO_bits) 4 = .ok (.iload_n 2, 1) := by decide +kernel
theorem d_MO_bits_5 : decode (kB k_MO_bits) 5 = .ok (.ifCond .eq (15), 3) := by decide +kernel
theorem d_MO_bits_8 : decode (kB k_MO_bits) 8 = .ok (.iinc 1 1, 3) := by decide +kernel
theorem d_MO_bits_11 : decode (kB k_MO_bits) 11 = .ok (.iload_n 2, 1) := by decide +kernel
theorem d_MO_bits_12 : decode (kB k_MO_bits) 12 = .ok (.iload_n 2, 1) := by decide +kernel
theorem d_MO_bits_13 : decode (kB k_MO_bits) 13 = .ok (.iconst 1, 1) := by decide +kernel
theorem d_MO_bits_14 : decode (kB k_MO_bits) 14 = .ok (.isub, 1) := by decide +kernel
theorem d_MO_bits_15 : decode (kB k_MO_bits) 15 = .ok (.iand, 1) := by decide +kernel
theorem d_MO_bits_16 : decode (kB k_MO_bits) 16 = .ok (.istore_n 2, 1) := by decide +kernel
theorem d_MO_bits_17 : decode (kB k_MO_bits) 17 = .ok (.goto (-13), 3) := by decide +kernel
theorem d_MO_bits_20 : decode (kB k_MO_bits) 20 = .ok (.iload_n 1, 1) := by decide +kernel
theorem d_MO_bits_21 : decode (kB k_MO_bits) 21 = .ok (.ireturn, 1) := by decide +kernel
theorem d_MO_all_0 : decode (kB k_MO_all) 0 = .ok (.iconst 0, 1) := by decide +kernel
theorem d_MO_all_1 : decode (kB k_MO_all) 1 = .ok (.istore_n 1, 1) := by decide +kernel
theorem d_MO_all_2 : decode (kB k_MO_all) 2 = .ok (.iconst 0, 1) := by decide +kernel
theorem d_MO_all_3 : decode (kB k_MO_all) 3 = .ok (.istore_n 2, 1) := by decide +kernel
theorem d_MO_all_4 : decode (kB k_MO_all) 4 = .ok (.iload_n 2, 1) := by decide +kernel
theorem d_MO_all_5 : decode (kB k_MO_all) 5 = .ok (.aload_n 0, 1) := by decide +kernel
theorem d_MO_all_6 : decode (kB k_MO_all) 6 = .ok (.getfield 62, 3) := by decide +kernel
theorem d_MO_all_9 : decode (kB k_MO_all) 9 = .ok (.if_icmp .ge (18), 3) := by decide +kernel
theorem d_MO_all_12 : decode (kB k_MO_all) 12 = .ok (.iload_n 1, 1) := by decide +kernel
theorem d_MO_all_13 : decode (kB k_MO_all) 13 = .ok (.aload_n 0, 1) := by decide +kernel
theorem d_MO_all_14 : decode (kB k_MO_all) 14 = .ok (.getfield 13, 3) := by decide +kernel
theorem d_MO_all_17 : decode (kB k_MO_all) 17 = .ok (.iload_n 2, 1) := by decide +kernel
theorem d_MO_all_18 : decode (kB k_MO_all) 18 = .ok (.iaload, 1) := by decide +kernel
theorem d_MO_all_19 : decode (kB k_MO_all) 19 = .ok (.iadd, 1) := by decide +kernel
theorem d_MO_all_20 : decode (kB k_MO_all) 20 = .ok (.istore_n 1, 1) := by decide +kernel
theorem d_MO_all_21 : decode (kB k_MO_all) 21 = .ok (.iinc 2 1, 3) := by decide +kernel
theorem d_MO_all_24 : decode (kB k_MO_all) 24 = .ok (.goto (-20), 3) := by decide +kernel
theorem d_MO_all_27 : decode (kB k_MO_all) 27 = .ok (.iload_n 1, 1) := by decide +kernel
theorem d_MO_all_28 : decode (kB k_MO_all) 28 = .ok (.ireturn, 1) := by decide +kernel
theorem d_MO_lg_0 : decode (kB k_MO_lg) 0 = .ok (.dload_n 0, 1) := by decide +kernel
theorem d_MO_lg_1 : decode (kB k_MO_lg) 1 = .ok (.dstore_n 2, 1) := by decide +kernel
theorem d_MO_lg_2 : decode (kB k_MO_lg) 2 = .ok (.iconst 0, 1) := by decide +kernel
theorem d_MO_lg_3 : decode (kB k_MO_lg) 3 = .ok (.istore 4, 2) := by decide +kernel
theorem d_MO_lg_5 : decode (kB k_MO_lg) 5 = .ok (.dload_n 0, 1) := by decide +kernel
theorem d_MO_lg_6 : decode (kB k_MO_lg) 6 = .ok (.ldc2_w 106, 3) := by decide +kernel
theorem d_MO_lg_9 : decode (kB k_MO_lg) 9 = .ok (.dcmp .l, 1) := by decide +kernel
theorem d_MO_lg_10 : decode (kB k_MO_lg) 10 = .ok (.ifCond .gt (7), 3) := by decide +kernel
theorem d_MO_lg_13 : decode (kB k_MO_lg) 13 = .ok (.ldc2_w 108, 3) := by decide +kernel
theorem d_MO_lg_16 : decode (kB k_MO_lg) 16 = .ok (.dreturn, 1) := by decide +kernel
theorem d_MO_lg_17 : decode (kB k_MO_lg) 17 = .ok (.dload_n 2, 1) := by decide +kernel
theorem d_MO_lg_18 : decode (kB k_MO_lg) 18 = .ok (.ldc2_w 29, 3) := by decide +kernel
theorem d_MO_lg_21 : decode (kB k_MO_lg) 21 = .ok (.dcmp .l, 1) := by decide +kernel
theorem d_MO_lg_22 : decode (kB k_MO_lg) 22 = .ok (.ifCond .lt (15), 3) := by decide +kernel
theorem d_MO_lg_25 : decode (kB k_MO_lg) 25 = .ok (.dload_n 2, 1) := by decide +kernel
theorem d_MO_lg_26 : decode (kB k_MO_lg) 26 = .ok (.ldc2_w 29, 3) := by decide +kernel
theorem d_MO_lg_29 : decode (kB k_MO_lg) 29 = .ok (.ddiv, 1) := by decide +kernel
theorem d_MO_lg_30 : decode (kB k_MO_lg) 30 = .ok (.dstore_n 2, 1) := by decide +kernel
theorem d_MO_lg_31 : decode (kB k_MO_lg) 31 = .ok (.iinc 4 1, 3) := by decide +kernel
theorem d_MO_lg_34 : decode (kB k_MO_lg) 34 = .ok (.goto (-17), 3) := by decide +kernel
theorem d_MO_lg_37 : decode (kB k_MO_lg) 37 = .ok (.dload_n 2, 1) := by decide +kernel
theorem d_MO_lg_38 : decode (kB k_MO_lg) 38 = .ok (.dconst 1, 1) := by decide +kernel
theorem d_MO_lg_39 : decode (kB k_MO_lg) 39 = .ok (.dcmp .g, 1) := by decide +kernel
theorem d_MO_lg_40 : decode (kB k_MO_lg) 40 = .ok (.ifCond .ge (15), 3) := by decide +kernel
theorem d_MO_lg_43 : decode (kB k_MO_lg) 43 = .ok (.dload_n 2, 1) := by decide +kernel
theorem d_MO_lg_44 : decode (kB k_MO_lg) 44 = .ok (.ldc2_w 29, 3) := by decide +kernel
theorem d_MO_lg_47 : decode (kB k_MO_lg) 47 = .ok (.dmul, 1) := by decide +kernel
theorem d_MO_lg_48 : decode (kB k_MO_lg) 48 = .ok (.dstore_n 2, 1) := by decide +kernel
theorem d_MO_lg_49 : decode (kB k_MO_lg) 49 = .ok (.iinc 4 (-1), 3) := by decide +kernel
theorem d_MO_lg_52 : decode (kB k_MO_lg) 52 = .ok (.goto (-15), 3) := by decide +kernel
theorem d_MO_lg_55 : decode (kB k_MO_lg) 55 = .ok (.iload 4, 2) := by decide +kernel
theorem d_MO_lg_57 : decode (kB k_MO_lg) 57 = .ok (.i2d, 1) := by decide +kernel
theorem d_MO_lg_58 : decode (kB k_MO_lg) 58 = .ok (.dload_n 2, 1) := by decide +kernel
theorem d_MO_lg_59 : decode (kB k_MO_lg) 59 = .ok (.dconst 1, 1) := by decide +kernel
theorem d_MO_lg_60 : decode (kB k_MO_lg) 60 = .ok (.dsub, 1) := by decide +kernel
theorem d_MO_lg_61 : decode (kB k_MO_lg) 61 = .ok (.dadd, 1) := by decide +kernel
theorem d_MO_lg_62 : decode (kB k_MO_lg) 62 = .ok (.dreturn, 1) := by decide +kernel
theorem d_MO_ex_0 : decode (kB k_MO_ex) 0 = .ok (.dload_n 0, 1) := by decide +kernel
theorem d_MO_ex_1 : decode (kB k_MO_ex) 1 = .ok (.ldc2_w 108, 3) := by decide +kernel
theorem d_MO_ex_4 : decode (kB k_MO_ex) 4 = .ok (.dcmp .l, 1) := by decide +kernel
theorem d_MO_ex_5 : decode (kB k_MO_ex) 5 = .ok (.ifCond .gt (5), 3) := by decide +kernel
theorem d_MO_ex_8 : decode (kB k_MO_ex) 8 = .ok (.dconst 0, 1) := by decide +kernel
theorem d_MO_ex_9 : decode (kB k_MO_ex) 9 = .ok (.dreturn, 1) := by decide +kernel
theorem d_MO_ex_10 : decode (kB k_MO_ex) 10 = .ok (.dload_n 0, 1) := by decide +kernel
theorem d_MO_ex_11 : decode (kB k_MO_ex) 11 = .ok (.d2i, 1) := by decide +kernel
theorem d_MO_ex_12 : decode (kB k_MO_ex) 12 = .ok (.istore_n 2, 1) := by decide +kernel
theorem d_MO_ex_13 : decode (kB k_MO_ex) 13 = .ok (.iload_n 2, 1) := by decide +kernel
theorem d_MO_ex_14 : decode (kB k_MO_ex) 14 = .ok (.i2d, 1) := by decide +kernel
theorem d_MO_ex_15 : decode (kB k_MO_ex) 15 = .ok (.dload_n 0, 1) := by decide +kernel
theorem d_MO_ex_16 : decode (kB k_MO_ex) 16 = .ok (.dcmp .l, 1) := by decide +kernel
theorem d_MO_ex_17 : decode (kB k_MO_ex) 17 = .ok (.ifCond .le (6), 3) := by decide +kernel
theorem d_MO_ex_20 : decode (kB k_MO_ex) 20 = .ok (.iinc 2 (-1), 3) := by decide +kernel
theorem d_MO_ex_23 : decode (kB k_MO_ex) 23 = .ok (.dconst 1, 1) := by decide +kernel
theorem d_MO_ex_24 : decode (kB k_MO_ex) 24 = .ok (.dload_n 0, 1) := by decide +kernel
theorem d_MO_ex_25 : decode (kB k_MO_ex) 25 = .ok (.iload_n 2, 1) := by decide +kernel
theorem d_MO_ex_26 : decode (kB k_MO_ex) 26 = .ok (.i2d, 1) := by decide +kernel
theorem d_MO_ex_27 : decode (kB k_MO_ex) 27 = .ok (.dsub, 1) := by decide +kernel
theorem d_MO_ex_28 : decode (kB k_MO_ex) 28 = .ok (.dadd, 1) := by decide +kernel
theorem d_MO_ex_29 : decode (kB k_MO_ex) 29 = .ok (.dstore_n 3, 1) := by decide +kernel
theorem d_MO_ex_30 : decode (kB k_MO_ex) 30 = .ok (.iconst 0, 1) := by decide +kernel
theorem d_MO_ex_31 : decode (kB k_MO_ex) 31 = .ok (.istore 5, 2) := by decide +kernel
theorem d_MO_ex_33 : decode (kB k_MO_ex) 33 = .ok (.iload 5, 2) := by decide +kernel
theorem d_MO_ex_35 : decode (kB k_MO_ex) 35 = .ok (.iload_n 2, 1) := by decide +kernel
theorem d_MO_ex_36 : decode (kB k_MO_ex) 36 = .ok (.if_icmp .ge (15), 3) := by decide +kernel
theorem d_MO_ex_39 : decode (kB k_MO_ex) 39 = .ok (.dload_n 3, 1) := by decide +kernel
theorem d_MO_ex_40 : decode (kB k_MO_ex) 40 = .ok (.ldc2_w 29, 3) := by decide +kernel
theorem d_MO_ex_43 : decode (kB k_MO_ex) 43 = .ok (.dmul, 1) := by decide +kernel
theorem d_MO_ex_44 : decode (kB k_MO_ex) 44 = .ok (.dstore_n 3, 1) := by decide +kernel
theorem d_MO_ex_45 : decode (kB k_MO_ex) 45 = .ok (.iinc 5 1, 3) := by decide +kernel
theorem d_MO_ex_48 : decode (kB k_MO_ex) 48 = .ok (.goto (-15), 3) := by decide +kernel
theorem d_MO_ex_51 : decode (kB k_MO_ex) 51 = .ok (.iconst 0, 1) := by decide +kernel
theorem d_MO_ex_52 : decode (kB k_MO_ex) 52 = .ok (.istore 5, 2) := by decide +kernel
theorem d_MO_ex_54 : decode (kB k_MO_ex) 54 = .ok (.iload 5, 2) := by decide +kernel
theorem d_MO_ex_56 : decode (kB k_MO_ex) 56 = .ok (.iload_n 2, 1) := by decide +kernel
theorem d_MO_ex_57 : decode (kB k_MO_ex) 57 = .ok (.if_icmp .le (15), 3) := by decide +kernel
theorem d_MO_ex_60 : decode (kB k_MO_ex) 60 = .ok (.dload_n 3, 1) := by decide +kernel
theorem d_MO_ex_61 : decode (kB k_MO_ex) 61 = .ok (.ldc2_w 29, 3) := by decide +kernel
theorem d_MO_ex_64 : decode (kB k_MO_ex) 64 = .ok (.ddiv, 1) := by decide +kernel
theorem d_MO_ex_65 : decode (kB k_MO_ex) 65 = .ok (.dstore_n 3, 1) := by decide +kernel
theorem d_MO_ex_66 : decode (kB k_MO_ex) 66 = .ok (.iinc 5 (-1), 3) := by decide +kernel
theorem d_MO_ex_69 : decode (kB k_MO_ex) 69 = .ok (.goto (-15), 3) := by decide +kernel
theorem d_MO_ex_72 : decode (kB k_MO_ex) 72 = .ok (.dload_n 3, 1) := by decide +kernel
theorem d_MO_ex_73 : decode (kB k_MO_ex) 73 = .ok (.dreturn, 1) := by decide +kernel
