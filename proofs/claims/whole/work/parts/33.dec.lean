/-! what the bytes say (written by gen/names.py) -/
theorem d_BF_ratio_0 : decode (kB k_BF_ratio) 0 = .ok (.dload_n 2, 1) := by decide +kernel
theorem d_BF_ratio_1 : decode (kB k_BF_ratio) 1 = .ok (.dconst 0, 1) := by decide +kernel
theorem d_BF_ratio_2 : decode (kB k_BF_ratio) 2 = .ok (.dcmp .l, 1) := by decide +kernel
theorem d_BF_ratio_3 : decode (kB k_BF_ratio) 3 = .ok (.ifCond .le (9), 3) := by decide +kernel
theorem d_BF_ratio_6 : decode (kB k_BF_ratio) 6 = .ok (.dload_n 0, 1) := by decide +kernel
theorem d_BF_ratio_7 : decode (kB k_BF_ratio) 7 = .ok (.dload_n 2, 1) := by decide +kernel
theorem d_BF_ratio_8 : decode (kB k_BF_ratio) 8 = .ok (.ddiv, 1) := by decide +kernel
theorem d_BF_ratio_9 : decode (kB k_BF_ratio) 9 = .ok (.goto (4), 3) := by decide +kernel
theorem d_BF_ratio_12 : decode (kB k_BF_ratio) 12 = .ok (.dconst 0, 1) := by decide +kernel
theorem d_BF_ratio_13 : decode (kB k_BF_ratio) 13 = .ok (.dreturn, 1) := by decide +kernel
theorem d_BF_lg_0 : decode (kB k_BF_lg) 0 = .ok (.dload_n 0, 1) := by decide +kernel
theorem d_BF_lg_1 : decode (kB k_BF_lg) 1 = .ok (.ldc2_w 251, 3) := by decide +kernel
theorem d_BF_lg_4 : decode (kB k_BF_lg) 4 = .ok (.dcmp .g, 1) := by decide +kernel
theorem d_BF_lg_5 : decode (kB k_BF_lg) 5 = .ok (.ifCond .gt (7), 3) := by decide +kernel
theorem d_BF_lg_8 : decode (kB k_BF_lg) 8 = .ok (.ldc2_w 253, 3) := by decide +kernel
theorem d_BF_lg_11 : decode (kB k_BF_lg) 11 = .ok (.dreturn, 1) := by decide +kernel
theorem d_BF_lg_12 : decode (kB k_BF_lg) 12 = .ok (.dload_n 0, 1) := by decide +kernel
theorem d_BF_lg_13 : decode (kB k_BF_lg) 13 = .ok (.dstore_n 2, 1) := by decide +kernel
theorem d_BF_lg_14 : decode (kB k_BF_lg) 14 = .ok (.iconst 0, 1) := by decide +kernel
theorem d_BF_lg_15 : decode (kB k_BF_lg) 15 = .ok (.istore 4, 2) := by decide +kernel
theorem d_BF_lg_17 : decode (kB k_BF_lg) 17 = .ok (.dload_n 2, 1) := by decide +kernel
theorem d_BF_lg_18 : decode (kB k_BF_lg) 18 = .ok (.ldc2_w 245, 3) := by decide +kernel
theorem d_BF_lg_21 : decode (kB k_BF_lg) 21 = .ok (.dcmp .l, 1) := by decide +kernel
theorem d_BF_lg_22 : decode (kB k_BF_lg) 22 = .ok (.ifCond .lt (23), 3) := by decide +kernel
theorem d_BF_lg_25 : decode (kB k_BF_lg) 25 = .ok (.iload 4, 2) := by decide +kernel
theorem d_BF_lg_27 : decode (kB k_BF_lg) 27 = .ok (.sipush 1023, 3) := by decide +kernel
theorem d_BF_lg_30 : decode (kB k_BF_lg) 30 = .ok (.if_icmp .ge (15), 3) := by decide +kernel
theorem d_BF_lg_33 : decode (kB k_BF_lg) 33 = .ok (.dload_n 2, 1) := by decide +kernel
theorem d_BF_lg_34 : decode (kB k_BF_lg) 34 = .ok (.ldc2_w 245, 3) := by decide +kernel
theorem d_BF_lg_37 : decode (kB k_BF_lg) 37 = .ok (.ddiv, 1) := by decide +kernel
theorem d_BF_lg_38 : decode (kB k_BF_lg) 38 = .ok (.dstore_n 2, 1) := by decide +kernel
theorem d_BF_lg_39 : decode (kB k_BF_lg) 39 = .ok (.iinc 4 1, 3) := by decide +kernel
theorem d_BF_lg_42 : decode (kB k_BF_lg) 42 = .ok (.goto (-25), 3) := by decide +kernel
theorem d_BF_lg_45 : decode (kB k_BF_lg) 45 = .ok (.dload_n 2, 1) := by decide +kernel
theorem d_BF_lg_46 : decode (kB k_BF_lg) 46 = .ok (.dconst 1, 1) := by decide +kernel
theorem d_BF_lg_47 : decode (kB k_BF_lg) 47 = .ok (.dcmp .g, 1) := by decide +kernel
theorem d_BF_lg_48 : decode (kB k_BF_lg) 48 = .ok (.ifCond .ge (22), 3) := by decide +kernel
theorem d_BF_lg_51 : decode (kB k_BF_lg) 51 = .ok (.iload 4, 2) := by decide +kernel
theorem d_BF_lg_53 : decode (kB k_BF_lg) 53 = .ok (.bipush (-60), 2) := by decide +kernel
theorem d_BF_lg_55 : decode (kB k_BF_lg) 55 = .ok (.if_icmp .le (15), 3) := by decide +kernel
theorem d_BF_lg_58 : decode (kB k_BF_lg) 58 = .ok (.dload_n 2, 1) := by decide +kernel
theorem d_BF_lg_59 : decode (kB k_BF_lg) 59 = .ok (.ldc2_w 245, 3) := by decide +kernel
theorem d_BF_lg_62 : decode (kB k_BF_lg) 62 = .ok (.dmul, 1) := by decide +kernel
theorem d_BF_lg_63 : decode (kB k_BF_lg) 63 = .ok (.dstore_n 2, 1) := by decide +kernel
theorem d_BF_lg_64 : decode (kB k_BF_lg) 64 = .ok (.iinc 4 (-1), 3) := by decide +kernel
theorem d_BF_lg_67 : decode (kB k_BF_lg) 67 = .ok (.goto (-22), 3) := by decide +kernel
theorem d_BF_lg_70 : decode (kB k_BF_lg) 70 = .ok (.iload 4, 2) := by decide +kernel
theorem d_BF_lg_72 : decode (kB k_BF_lg) 72 = .ok (.i2d, 1) := by decide +kernel
theorem d_BF_lg_73 : decode (kB k_BF_lg) 73 = .ok (.dload_n 2, 1) := by decide +kernel
theorem d_BF_lg_74 : decode (kB k_BF_lg) 74 = .ok (.dconst 1, 1) := by decide +kernel
theorem d_BF_lg_75 : decode (kB k_BF_lg) 75 = .ok (.dsub, 1) := by decide +kernel
theorem d_BF_lg_76 : decode (kB k_BF_lg) 76 = .ok (.dadd, 1) := by decide +kernel
theorem d_BF_lg_77 : decode (kB k_BF_lg) 77 = .ok (.dreturn, 1) := by decide +kernel
theorem d_BF_ex_0 : decode (kB k_BF_ex) 0 = .ok (.dload_n 0, 1) := by decide +kernel
theorem d_BF_ex_1 : decode (kB k_BF_ex) 1 = .ok (.ldc2_w 253, 3) := by decide +kernel
theorem d_BF_ex_4 : decode (kB k_BF_ex) 4 = .ok (.dcmp .g, 1) := by decide +kernel
theorem d_BF_ex_5 : decode (kB k_BF_ex) 5 = .ok (.ifCond .gt (5), 3) := by decide +kernel
theorem d_BF_ex_8 : decode (kB k_BF_ex) 8 = .ok (.dconst 0, 1) := by decide +kernel
theorem d_BF_ex_9 : decode (kB k_BF_ex) 9 = .ok (.dreturn, 1) := by decide +kernel
theorem d_BF_ex_10 : decode (kB k_BF_ex) 10 = .ok (.dload_n 0, 1) := by decide +kernel
theorem d_BF_ex_11 : decode (kB k_BF_ex) 11 = .ok (.d2i, 1) := by decide +kernel
theorem d_BF_ex_12 : decode (kB k_BF_ex) 12 = .ok (.istore_n 2, 1) := by decide +kernel
theorem d_BF_ex_13 : decode (kB k_BF_ex) 13 = .ok (.iload_n 2, 1) := by decide +kernel
theorem d_BF_ex_14 : decode (kB k_BF_ex) 14 = .ok (.i2d, 1) := by decide +kernel
theorem d_BF_ex_15 : decode (kB k_BF_ex) 15 = .ok (.dload_n 0, 1) := by decide +kernel
theorem d_BF_ex_16 : decode (kB k_BF_ex) 16 = .ok (.dcmp .l, 1) := by decide +kernel
theorem d_BF_ex_17 : decode (kB k_BF_ex) 17 = .ok (.ifCond .le (6), 3) := by decide +kernel
theorem d_BF_ex_20 : decode (kB k_BF_ex) 20 = .ok (.iinc 2 (-1), 3) := by decide +kernel
theorem d_BF_ex_23 : decode (kB k_BF_ex) 23 = .ok (.dconst 1, 1) := by decide +kernel
theorem d_BF_ex_24 : decode (kB k_BF_ex) 24 = .ok (.dload_n 0, 1) := by decide +kernel
theorem d_BF_ex_25 : decode (kB k_BF_ex) 25 = .ok (.iload_n 2, 1) := by decide +kernel
theorem d_BF_ex_26 : decode (kB k_BF_ex) 26 = .ok (.i2d, 1) := by decide +kernel
theorem d_BF_ex_27 : decode (kB k_BF_ex) 27 = .ok (.dsub, 1) := by decide +kernel
theorem d_BF_ex_28 : decode (kB k_BF_ex) 28 = .ok (.dadd, 1) := by decide +kernel
theorem d_BF_ex_29 : decode (kB k_BF_ex) 29 = .ok (.dstore_n 3, 1) := by decide +kernel
theorem d_BF_ex_30 : decode (kB k_BF_ex) 30 = .ok (.iload_n 2, 1) := by decide +kernel
theorem d_BF_ex_31 : decode (kB k_BF_ex) 31 = .ok (.istore 5, 2) := by decide +kernel
theorem d_BF_ex_33 : decode (kB k_BF_ex) 33 = .ok (.iload 5, 2) := by decide +kernel
theorem d_BF_ex_35 : decode (kB k_BF_ex) 35 = .ok (.ifCond .ge (15), 3) := by decide +kernel
theorem d_BF_ex_38 : decode (kB k_BF_ex) 38 = .ok (.dload_n 3, 1) := by decide +kernel
theorem d_BF_ex_39 : decode (kB k_BF_ex) 39 = .ok (.ldc2_w 245, 3) := by decide +kernel
theorem d_BF_ex_42 : decode (kB k_BF_ex) 42 = .ok (.ddiv, 1) := by decide +kernel
theorem d_BF_ex_43 : decode (kB k_BF_ex) 43 = .ok (.dstore_n 3, 1) := by decide +kernel
theorem d_BF_ex_44 : decode (kB k_BF_ex) 44 = .ok (.iinc 5 1, 3) := by decide +kernel
theorem d_BF_ex_47 : decode (kB k_BF_ex) 47 = .ok (.goto (-14), 3) := by decide +kernel
theorem d_BF_ex_50 : decode (kB k_BF_ex) 50 = .ok (.iconst 0, 1) := by decide +kernel
theorem d_BF_ex_51 : decode (kB k_BF_ex) 51 = .ok (.istore 5, 2) := by decide +kernel
theorem d_BF_ex_53 : decode (kB k_BF_ex) 53 = .ok (.iload 5, 2) := by decide +kernel
theorem d_BF_ex_55 : decode (kB k_BF_ex) 55 = .ok (.iload_n 2, 1) := by decide +kernel
theorem d_BF_ex_56 : decode (kB k_BF_ex) 56 = .ok (.if_icmp .ge (15), 3) := by decide +kernel
theorem d_BF_ex_59 : decode (kB k_BF_ex) 59 = .ok (.dload_n 3, 1) := by decide +kernel
theorem d_BF_ex_60 : decode (kB k_BF_ex) 60 = .ok (.ldc2_w 245, 3) := by decide +kernel
theorem d_BF_ex_63 : decode (kB k_BF_ex) 63 = .ok (.dmul, 1) := by decide +kernel
theorem d_BF_ex_64 : decode (kB k_BF_ex) 64 = .ok (.dstore_n 3, 1) := by decide +kernel
theorem d_BF_ex_65 : decode (kB k_BF_ex) 65 = .ok (.iinc 5 1, 3) := by decide +kernel
theorem d_BF_ex_68 : decode (kB k_BF_ex) 68 = .ok (.goto (-15), 3) := by decide +kernel
theorem d_BF_ex_71 : decode (kB k_BF_ex) 71 = .ok (.dload_n 3, 1) := by decide +kernel
theorem d_BF_ex_72 : decode (kB k_BF_ex) 72 = .ok (.dreturn, 1) := by decide +kernel
theorem d_TX_init_0 : decode (kB k_TX_init) 0 = .ok (.aload_n 0, 1) := by decide +kernel
theorem d_TX_init_1 : decode (kB k_TX_init) 1 = .ok (.invokespecial 3, 3) := by decide +kernel
theorem d_TX_init_4 : decode (kB k_TX_init) 4 = .ok (.aload_n 0, 1) := by decide +kernel
theorem d_TX_init_5 : decode (kB k_TX_init) 5 = .ok (.bipush 12, 2) := by decide +kernel
theorem d_TX_init_7 : decode (kB k_TX_init) 7 = .ok (.bipush 24, 2) := by decide +kernel
theorem d_TX_init_9 : decode (kB k_TX_init) 9 = .ok (.multianewarray 9 2, 4) := by decide +kernel
theorem d_TX_init_13 : decode (kB k_TX_init) 13 = .ok (.putfield 11, 3) := by decide +kernel
theorem d_TX_init_16 : decode (kB k_TX_init) 16 = .ok (.aload_n 0, 1) := by decide +kernel
theorem d_TX_init_17 : decode (kB k_TX_init) 17 = .ok (.bipush 12, 2) := by decide +kernel
theorem d_TX_init_19 : decode (kB k_TX_init) 19 = .ok (.newarray .int, 2) := by decide +kernel
theorem d_TX_init_21 : decode (kB k_TX_init) 21 = .ok (.putfield 16, 3) := by decide +kernel
theorem d_TX_init_24 : decode (kB k_TX_init) 24 = .ok (.aload_n 0, 1) := by decide +kernel
theorem d_TX_init_25 : decode (kB k_TX_init) 25 = .ok (.bipush 12, 2) := by decide +kernel
theorem d_TX_init_27 : decode (kB k_TX_init) 27 = .ok (.newarray .int, 2) := by decide +kernel
theorem d_TX_init_29 : decode (kB k_TX_init) 29 = .ok (.putfield 20, 3) := by decide +kernel
theorem d_TX_init_32 : decode (kB k_TX_init) 32 = .ok (.aload_n 0, 1) := by decide +kernel
theorem d_TX_init_33 : decode (kB k_TX_init) 33 = .ok (.iconst 0, 1) := by decide +kernel
theorem d_TX_init_34 : decode (kB k_TX_init) 34 = .ok (.putfield 23, 3) := by decide +kernel
theorem d_TX_init_37 : decode (kB k_TX_init) 37 = .ok (.aload_n 0, 1) := by decide +kernel
theorem d_TX_init_38 : decode (kB k_TX_init) 38 = .ok (.iconst 0, 1) := by decide +kernel
theorem d_TX_init_39 : decode (kB k_TX_init) 39 = .ok (.putfield 27, 3) := by decide +kernel
theorem d_TX_init_42 : decode (kB k_TX_init) 42 = .ok (.return_, 1) := by decide +kernel
theorem d_TX_size_0 : decode (kB k_TX_size) 0 = .ok (.aload_n 0, 1) := by decide +kernel
theorem d_TX_size_1 : decode (kB k_TX_size) 1 = .ok (.getfield 23, 3) := by decide +kernel
theorem d_TX_size_4 : decode (kB k_TX_size) 4 = .ok (.ireturn, 1) := by decide +kernel
theorem d_TX_all_0 : decode (kB k_TX_all) 0 = .ok (.aload_n 0, 1) := by decide +kernel
theorem d_TX_all_1 : decode (kB k_TX_all) 1 = .ok (.getfield 27, 3) := by decide +kernel
theorem d_TX_all_4 : decode (kB k_TX_all) 4 = .ok (.ireturn, 1) := by decide +kernel
theorem d_TX_isFull_0 : decode (kB k_TX_isFull) 0 = .ok (.aload_n 0, 1) := by decide +kernel
theorem d_TX_isFull_1 : decode (kB k_TX_isFull) 1 = .ok (.getfield 23, 3) := by decide +kernel
theorem d_TX_isFull_4 : decode (kB k_TX_isFull) 4 = .ok (.bipush 12, 2) := by decide +kernel
theorem d_TX_isFull_6 : decode (kB k_TX_isFull) 6 = .ok (.if_icmp .ne (7), 3) := by decide +kernel
theorem d_TX_isFull_9 : decode (kB k_TX_isFull) 9 = .ok (.iconst 1, 1) := by decide +kernel
theorem d_TX_isFull_10 : decode (kB k_TX_isFull) 10 = .ok (.goto (4), 3) := by decide +kernel
theorem d_TX_isFull_13 : decode (kB k_TX_isFull) 13 = .ok (.iconst 0, 1) := by decide +kernel
theorem d_TX_isFull_14 : decode (kB k_TX_isFull) 14 = .ok (.ireturn, 1) := by decide +kernel
theorem d_TX_has_0 : decode (kB k_TX_has) 0 = .ok (.iload_n 1, 1) := by decide +kernel
theorem d_TX_has_1 : decode (kB k_TX_has) 1 = .ok (.ifCond .lt (15), 3) := by decide +kernel
theorem d_TX_has_4 : decode (kB k_TX_has) 4 = .ok (.iload_n 1, 1) := by decide +kernel
theorem d_TX_has_5 : decode (kB k_TX_has) 5 = .ok (.aload_n 0, 1) := by decide +kernel
theorem d_TX_has_6 : decode (kB k_TX_has) 6 = .ok (.getfield 23, 3) := by decide +kernel
theorem d_TX_has_9 : decode (kB k_TX_has) 9 = .ok (.if_icmp .ge (7), 3) := by decide +kernel
theorem d_TX_has_12 : decode (kB k_TX_has) 12 = .ok (.iconst 1, 1) := by decide +kernel
theorem d_TX_has_13 : decode (kB k_TX_has) 13 = .ok (.goto (4), 3) := by decide +kernel
theorem d_TX_has_16 : decode (kB k_TX_has) 16 = .ok (.iconst 0, 1) := by decide +kernel
theorem d_TX_has_17 : decode (kB k_TX_has) 17 = .ok (.ireturn, 1) := by decide +kernel
theorem d_TX_open_0 : decode (kB k_TX_open) 0 = .ok (.aload_n 0, 1) := by decide +kernel
theorem d_TX_open_1 : decode (kB k_TX_open) 1 = .ok (.getfield 20, 3) := by decide +kernel
theorem d_TX_open_4 : decode (kB k_TX_open) 4 = .ok (.aload_n 0, 1) := by decide +kernel
theorem d_TX_open_5 : decode (kB k_TX_open) 5 = .ok (.getfield 23, 3) := by decide +kernel
theorem d_TX_open_8 : decode (kB k_TX_open) 8 = .ok (.iload_n 1, 1) := by decide +kernel
theorem d_TX_open_9 : decode (kB k_TX_open) 9 = .ok (.iastore, 1) := by decide +kernel
theorem d_TX_open_10 : decode (kB k_TX_open) 10 = .ok (.aload_n 0, 1) := by decide +kernel
theorem d_TX_open_11 : decode (kB k_TX_open) 11 = .ok (.dup, 1) := by decide +kernel
theorem d_TX_open_12 : decode (kB k_TX_open) 12 = .ok (.getfield 23, 3) := by decide +kernel
theorem d_TX_open_15 : decode (kB k_TX_open) 15 = .ok (.iconst 1, 1) := by decide +kernel
theorem d_TX_open_16 : decode (kB k_TX_open) 16 = .ok (.iadd, 1) := by decide +kernel
theorem d_TX_open_17 : decode (kB k_TX_open) 17 = .ok (.putfield 23, 3) := by decide +kernel
theorem d_TX_open_20 : decode (kB k_TX_open) 20 = .ok (.aload_n 0, 1) := by decide +kernel
theorem d_TX_open_21 : decode (kB k_TX_open) 21 = .ok (.getfield 23, 3) := by decide +kernel
theorem d_TX_open_24 : decode (kB k_TX_open) 24 = .ok (.iconst 1, 1) := by decide +kernel
theorem d_TX_open_25 : decode (kB k_TX_open) 25 = .ok (.isub, 1) := by decide +kernel
theorem d_TX_open_26 : decode (kB k_TX_open) 26 = .ok (.ireturn, 1) := by decide +kernel
theorem d_TX_takesWord_0 : decode (kB k_TX_takesWord) 0 = .ok (.aload_n 0, 1) := by decide +kernel
theorem d_TX_takesWord_1 : decode (kB k_TX_takesWord) 1 = .ok (.getfield 23, 3) := by decide +kernel
theorem d_TX_takesWord_4 : decode (kB k_TX_takesWord) 4 = .ok (.ifCond .le (23), 3) := by decide +kernel
theorem d_TX_takesWord_7 : decode (kB k_TX_takesWord) 7 = .ok (.aload_n 0, 1) := by decide +kernel
theorem d_TX_takesWord_8 : decode (kB k_TX_takesWord) 8 = .ok (.getfield 16, 3) := by decide +kernel
theorem d_TX_takesWord_11 : decode (kB k_TX_takesWord) 11 = .ok (.aload_n 0, 1) := by decide +kernel
theorem d_TX_takesWord_12 : decode (kB k_TX_takesWord) 12 = .ok (.getfield 23, 3) := by decide +kernel
theorem d_TX_takesWord_15 : decode (kB k_TX_takesWord) 15 = .ok (.iconst 1, 1) := by decide +kernel
theorem d_TX_takesWord_16 : decode (kB k_TX_takesWord) 16 = .ok (.isub, 1) := by decide +kernel
theorem d_TX_takesWord_17 : decode (kB k_TX_takesWord) 17 = .ok (.iaload, 1) := by decide +kernel
theorem d_TX_takesWord_18 : decode (kB k_TX_takesWord) 18 = .ok (.bipush 24, 2) := by decide +kernel
theorem d_TX_takesWord_20 : decode (kB k_TX_takesWord) 20 = .ok (.if_icmp .ge (7), 3) := by decide +kernel
theorem d_TX_takesWord_23 : decode (kB k_TX_takesWord) 23 = .ok (.iconst 1, 1) := by decide +kernel
theorem d_TX_takesWord_24 : decode (kB k_TX_takesWord) 24 = .ok (.goto (4), 3) := by decide +kernel
theorem d_TX_takesWord_27 : decode (kB k_TX_takesWord) 27 = .ok (.iconst 0, 1) := by decide +kernel
theorem d_TX_takesWord_28 : decode (kB k_TX_takesWord) 28 = .ok (.ireturn, 1) := by decide +kernel
theorem d_TX_append_0 : decode (kB k_TX_append) 0 = .ok (.aload_n 0, 1) := by decide +kernel
theorem d_TX_append_1 : decode (kB k_TX_append) 1 = .ok (.getfield 23, 3) := by decide +kernel
theorem d_TX_append_4 : decode (kB k_TX_append) 4 = .ok (.iconst 1, 1) := by decide +kernel
theorem d_TX_append_5 : decode (kB k_TX_append) 5 = .ok (.isub, 1) := by decide +kernel
theorem d_TX_append_6 : decode (kB k_TX_append) 6 = .ok (.istore_n 2, 1) := by decide +kernel
theorem d_TX_append_7 : decode (kB k_TX_append) 7 = .ok (.aload_n 0, 1) := by decide +kernel
theorem d_TX_append_8 : decode (kB k_TX_append) 8 = .ok (.getfield 11, 3) := by decide +kernel
theorem d_TX_append_11 : decode (kB k_TX_append) 11 = .ok (.iload_n 2, 1) := by decide +kernel
theorem d_TX_append_12 : decode (kB k_TX_append) 12 = .ok (.aaload, 1) := by decide +kernel
theorem d_TX_append_13 : decode (kB k_TX_append) 13 = .ok (.aload_n 0, 1) := by decide +kernel
theorem d_TX_append_14 : decode (kB k_TX_append) 14 = .ok (.getfield 16, 3) := by decide +kernel
theorem d_TX_append_17 : decode (kB k_TX_append) 17 = .ok (.iload_n 2, 1) := by decide +kernel
theorem d_TX_append_18 : decode (kB k_TX_append) 18 = .ok (.iaload, 1) := by decide +kernel
theorem d_TX_append_19 : decode (kB k_TX_append) 19 = .ok (.iload_n 1, 1) := by decide +kernel
theorem d_TX_append_20 : decode (kB k_TX_append) 20 = .ok (.iastore, 1) := by decide +kernel
theorem d_TX_append_21 : decode (kB k_TX_append) 21 = .ok (.aload_n 0, 1) := by decide +kernel
theorem d_TX_append_22 : decode (kB k_TX_append) 22 = .ok (.getfield 16, 3) := by decide +kernel
theorem d_TX_append_25 : decode (kB k_TX_append) 25 = .ok (.iload_n 2, 1) := by decide +kernel
theorem d_TX_append_26 : decode (kB k_TX_append) 26 = .ok (.dup2, 1) := by decide +kernel
theorem d_TX_append_27 : decode (kB k_TX_append) 27 = .ok (.iaload, 1) := by decide +kernel
theorem d_TX_append_28 : decode (kB k_TX_append) 28 = .ok (.iconst 1, 1) := by decide +kernel
theorem d_TX_append_29 : decode (kB k_TX_append) 29 = .ok (.iadd, 1) := by decide +kernel
theorem d_TX_append_30 : decode (kB k_TX_append) 30 = .ok (.iastore, 1) := by decide +kernel
theorem d_TX_append_31 : decode (kB k_TX_append) 31 = .ok (.aload_n 0, 1) := by decide +kernel
theorem d_TX_append_32 : decode (kB k_TX_append) 32 = .ok (.dup, 1) := by decide +kernel
theorem d_TX_append_33 : decode (kB k_TX_append) 33 = .ok (.getfield 27, 3) := by decide +kernel
theorem d_TX_append_36 : decode (kB k_TX_append) 36 = .ok (.iconst 1, 1) := by decide +kernel
theorem d_TX_append_37 : decode (kB k_TX_append) 37 = .ok (.iadd, 1) := by decide +kernel
theorem d_TX_append_38 : decode (kB k_TX_append) 38 = .ok (.putfield 27, 3) := by decide +kernel
theorem d_TX_append_41 : decode (kB k_TX_append) 41 = .ok (.aload_n 0, 1) := by decide +kernel
theorem d_TX_append_42 : decode (kB k_TX_append) 42 = .ok (.getfield 16, 3) := by decide +kernel
theorem d_TX_append_45 : decode (kB k_TX_append) 45 = .ok (.iload_n 2, 1) := by decide +kernel
theorem d_TX_append_46 : decode (kB k_TX_append) 46 = .ok (.iaload, 1) := by decide +kernel
theorem d_TX_append_47 : decode (kB k_TX_append) 47 = .ok (.ireturn, 1) := by decide +kernel
theorem d_TX_lengthOf_0 : decode (kB k_TX_lengthOf) 0 = .ok (.aload_n 0, 1) := by decide +kernel
theorem d_TX_lengthOf_1 : decode (kB k_TX_lengthOf) 1 = .ok (.getfield 16, 3) := by decide +kernel
theorem d_TX_lengthOf_4 : decode (kB k_TX_lengthOf) 4 = .ok (.iload_n 1, 1) := by decide +kernel
theorem d_TX_lengthOf_5 : decode (kB k_TX_lengthOf) 5 = .ok (.iaload, 1) := by decide +kernel
theorem d_TX_lengthOf_6 : decode (kB k_TX_lengthOf) 6 = .ok (.ireturn, 1) := by decide +kernel
theorem d_TX_stands_0 : decode (kB k_TX_stands) 0 = .ok (.iload_n 3, 1) := by decide +kernel
theorem d_TX_stands_1 : decode (kB k_TX_stands) 1 = .ok (.aload_n 0, 1) := by decide +kernel
theorem d_TX_stands_2 : decode (kB k_TX_stands) 2 = .ok (.getfield 16, 3) := by decide +kernel
theorem d_TX_stands_5 : decode (kB k_TX_stands) 5 = .ok (.iload_n 2, 1) := by decide +kernel
theorem d_TX_stands_6 : decode (kB k_TX_stands) 6 = .ok (.iaload, 1) := by decide +kernel
theorem d_TX_stands_7 : decode (kB k_TX_stands) 7 = .ok (.if_icmp .ge (19), 3) := by decide +kernel
theorem d_TX_stands_10 : decode (kB k_TX_stands) 10 = .ok (.aload_n 0, 1) := by decide +kernel
theorem d_TX_stands_11 : decode (kB k_TX_stands) 11 = .ok (.getfield 11, 3) := by decide +kernel
theorem d_TX_stands_14 : decode (kB k_TX_stands) 14 = .ok (.iload_n 2, 1) := by decide +kernel
theorem d_TX_stands_15 : decode (kB k_TX_stands) 15 = .ok (.aaload, 1) := by decide +kernel
theorem d_TX_stands_16 : decode (kB k_TX_stands) 16 = .ok (.iload_n 3, 1) := by decide +kernel
theorem d_TX_stands_17 : decode (kB k_TX_stands) 17 = .ok (.iaload, 1) := by decide +kernel
theorem d_TX_stands_18 : decode (kB k_TX_stands) 18 = .ok (.iload_n 1, 1) := by decide +kernel
theorem d_TX_stands_19 : decode (kB k_TX_stands) 19 = .ok (.if_icmp .ne (7), 3) := by decide +kernel
theorem d_TX_stands_22 : decode (kB k_TX_stands) 22 = .ok (.iconst 1, 1) := by decide +kernel
theorem d_TX_stands_23 : decode (kB k_TX_stands) 23 = .ok (.goto (4), 3) := by decide +kernel
theorem d_TX_stands_26 : decode (kB k_TX_stands) 26 = .ok (.iconst 0, 1) := by decide +kernel
theorem d_TX_stands_27 : decode (kB k_TX_stands) 27 = .ok (.ireturn, 1) := by decide +kernel
theorem d_TX_standsInTitle_0 : decode (kB k_TX_standsInTitle) 0 = .ok (.iload_n 3, 1) := by decide +kernel
theorem d_TX_standsInTitle_1 : decode (kB k_TX_standsInTitle) 1 = .ok (.aload_n 0, 1) := by decide +kernel
theorem d_TX_standsInTitle_2 : decode (kB k_TX_standsInTitle) 2 = .ok (.getfield 20, 3) := by decide +kernel
theorem d_TX_standsInTitle_5 : decode (kB k_TX_standsInTitle) 5 = .ok (.iload_n 2, 1) := by decide +kernel
theorem d_TX_standsInTitle_6 : decode (kB k_TX_standsInTitle) 6 = .ok (.iaload, 1) := by decide +kernel
theorem d_TX_standsInTitle_7 : decode (kB k_TX_standsInTitle) 7 = .ok (.if_icmp .ge (17), 3) := by decide +kernel
theorem d_TX_standsInTitle_10 : decode (kB k_TX_standsInTitle) 10 = .ok (.aload_n 0, 1) := by decide +kernel
theorem d_TX_standsInTitle_11 : decode (kB k_TX_standsInTitle) 11 = .ok (.iload_n 1, 1) := by decide +kernel
theorem d_TX_standsInTitle_12 : decode (kB k_TX_standsInTitle) 12 = .ok (.iload_n 2, 1) := by decide +kernel
theorem d_TX_standsInTitle_13 : decode (kB k_TX_standsInTitle) 13 = .ok (.iload_n 3, 1) := by decide +kernel
theorem d_TX_standsInTitle_14 : decode (kB k_TX_standsInTitle) 14 = .ok (.invokevirtual 30, 3) := by decide +kernel
theorem d_TX_standsInTitle_17 : decode (kB k_TX_standsInTitle) 17 = .ok (.ifCond .eq (7), 3) := by decide +kernel
theorem d_TX_standsInTitle_20 : decode (kB k_TX_standsInTitle) 20 = .ok (.iconst 1, 1) := by decide +kernel
theorem d_TX_standsInTitle_21 : decode (kB k_TX_standsInTitle) 21 = .ok (.goto (4), 3) := by decide +kernel
theorem d_TX_standsInTitle_24 : decode (kB k_TX_standsInTitle) 24 = .ok (.iconst 0, 1) := by decide +kernel
theorem d_TX_standsInTitle_25 : decode (kB k_TX_standsInTitle) 25 = .ok (.ireturn, 1) := by decide +kernel
theorem d_TX_nextPlace_0 : decode (kB k_TX_nextPlace) 0 = .ok (.iload_n 3, 1) := by decide +kernel
theorem d_TX_nextPlace_1 : decode (kB k_TX_nextPlace) 1 = .ok (.istore 4, 2) := by decide +kernel
theorem d_TX_nextPlace_3 : decode (kB k_TX_nextPlace) 3 = .ok (.iload 4, 2) := by decide +kernel
theorem d_TX_nextPlace_5 : decode (kB k_TX_nextPlace) 5 = .ok (.aload_n 0, 1) := by decide +kernel
theorem d_TX_nextPlace_6 : decode (kB k_TX_nextPlace) 6 = .ok (.getfield 16, 3) := by decide +kernel
theorem d_TX_nextPlace_9 : decode (kB k_TX_nextPlace) 9 = .ok (.iload_n 2, 1) := by decide +kernel
theorem d_TX_nextPlace_10 : decode (kB k_TX_nextPlace) 10 = .ok (.iaload, 1) := by decide +kernel
theorem d_TX_nextPlace_11 : decode (kB k_TX_nextPlace) 11 = .ok (.if_icmp .ge (22), 3) := by decide +kernel
theorem d_TX_nextPlace_14 : decode (kB k_TX_nextPlace) 14 = .ok (.aload_n 0, 1) := by decide +kernel
theorem d_TX_nextPlace_15 : decode (kB k_TX_nextPlace) 15 = .ok (.getfield 11, 3) := by decide +kernel
theorem d_TX_nextPlace_18 : decode (kB k_TX_nextPlace) 18 = .ok (.iload_n 2, 1) := by decide +kernel
theorem d_TX_nextPlace_19 : decode (kB k_TX_nextPlace) 19 = .ok (.aaload, 1) := by decide +kernel
theorem d_TX_nextPlace_20 : decode (kB k_TX_nextPlace) 20 = .ok (.iload 4, 2) := by decide +kernel
theorem d_TX_nextPlace_22 : decode (kB k_TX_nextPlace) 22 = .ok (.iaload, 1) := by decide +kernel
theorem d_TX_nextPlace_23 : decode (kB k_TX_nextPlace) 23 = .ok (.iload_n 1, 1) := by decide +kernel
theorem d_TX_nextPlace_24 : decode (kB k_TX_nextPlace) 24 = .ok (.if_icmp .eq (9), 3) := by decide +kernel
theorem d_TX_nextPlace_27 : decode (kB k_TX_nextPlace) 27 = .ok (.iinc 4 1, 3) := by decide +kernel
theorem d_TX_nextPlace_30 : decode (kB k_TX_nextPlace) 30 = .ok (.goto (-27), 3) := by decide +kernel
theorem d_TX_nextPlace_33 : decode (kB k_TX_nextPlace) 33 = .ok (.iload 4, 2) := by decide +kernel
theorem d_TX_nextPlace_35 : decode (kB k_TX_nextPlace) 35 = .ok (.aload_n 0, 1) := by decide +kernel
theorem d_TX_nextPlace_36 : decode (kB k_TX_nextPlace) 36 = .ok (.getfield 16, 3) := by decide +kernel
theorem d_TX_nextPlace_39 : decode (kB k_TX_nextPlace) 39 = .ok (.iload_n 2, 1) := by decide +kernel
theorem d_TX_nextPlace_40 : decode (kB k_TX_nextPlace) 40 = .ok (.iaload, 1) := by decide +kernel
theorem d_TX_nextPlace_41 : decode (kB k_TX_nextPlace) 41 = .ok (.if_icmp .ge (8), 3) := by decide +kernel
theorem d_TX_nextPlace_44 : decode (kB k_TX_nextPlace) 44 = .ok (.iload 4, 2) := by decide +kernel
theorem d_TX_nextPlace_46 : decode (kB k_TX_nextPlace) 46 = .ok (.goto (5), 3) := by decide +kernel
theorem d_TX_nextPlace_49 : decode (kB k_TX_nextPlace) 49 = .ok (.bipush 48, 2) := by decide +kernel
theorem d_TX_nextPlace_51 : decode (kB k_TX_nextPlace) 51 = .ok (.ireturn, 1) := by decide +kernel
theorem d_TX_timesIn_0 : decode (kB k_TX_timesIn) 0 = .ok (.iconst 0, 1) := by decide +kernel
theorem d_TX_timesIn_1 : decode (kB k_TX_timesIn) 1 = .ok (.istore_n 3, 1) := by decide +kernel
theorem d_TX_timesIn_2 : decode (kB k_TX_timesIn) 2 = .ok (.iconst 0, 1) := by decide +kernel
theorem d_TX_timesIn_3 : decode (kB k_TX_timesIn) 3 = .ok (.istore 4, 2) := by decide +kernel
theorem d_TX_timesIn_5 : decode (kB k_TX_timesIn) 5 = .ok (.iload 4, 2) := by decide +kernel
theorem d_TX_timesIn_7 : decode (kB k_TX_timesIn) 7 = .ok (.aload_n 0, 1) := by decide +kernel
theorem d_TX_timesIn_8 : decode (kB k_TX_timesIn) 8 = .ok (.getfield 16, 3) := by decide +kernel
theorem d_TX_timesIn_11 : decode (kB k_TX_timesIn) 11 = .ok (.iload_n 2, 1) := by decide +kernel
theorem d_TX_timesIn_12 : decode (kB k_TX_timesIn) 12 = .ok (.iaload, 1) := by decide +kernel
theorem d_TX_timesIn_13 : decode (kB k_TX_timesIn) 13 = .ok (.if_icmp .ge (25), 3) := by decide +kernel
theorem d_TX_timesIn_16 : decode (kB k_TX_timesIn) 16 = .ok (.aload_n 0, 1) := by decide +kernel
theorem d_TX_timesIn_17 : decode (kB k_TX_timesIn) 17 = .ok (.getfield 11, 3) := by decide +kernel
theorem d_TX_timesIn_20 : decode (kB k_TX_timesIn) 20 = .ok (.iload_n 2, 1) := by decide +kernel
theorem d_TX_timesIn_21 : decode (kB k_TX_timesIn) 21 = .ok (.aaload, 1) := by decide +kernel
theorem d_TX_timesIn_22 : decode (kB k_TX_timesIn) 22 = .ok (.iload 4, 2) := by decide +kernel
theorem d_TX_timesIn_24 : decode (kB k_TX_timesIn) 24 = .ok (.iaload, 1) := by decide +kernel
theorem d_TX_timesIn_25 : decode (kB k_TX_timesIn) 25 = .ok (.iload_n 1, 1) := by decide +kernel
theorem d_TX_timesIn_26 : decode (kB k_TX_timesIn) 26 = .ok (.if_icmp .ne (6), 3) := by decide +kernel
theorem d_TX_timesIn_29 : decode (kB k_TX_timesIn) 29 = .ok (.iinc 3 1, 3) := by decide +kernel
theorem d_TX_timesIn_32 : decode (kB k_TX_timesIn) 32 = .ok (.iinc 4 1, 3) := by decide +kernel
theorem d_TX_timesIn_35 : decode (kB k_TX_timesIn) 35 = .ok (.goto (-30), 3) := by decide +kernel
theorem d_TX_timesIn_38 : decode (kB k_TX_timesIn) 38 = .ok (.iload_n 3, 1) := by decide +kernel
theorem d_TX_timesIn_39 : decode (kB k_TX_timesIn) 39 = .ok (.ireturn, 1) := by decide +kernel
theorem d_TX_timesInAll_0 : decode (kB k_TX_timesInAll) 0 = .ok (.iconst 0, 1) := by decide +kernel
theorem d_TX_timesInAll_1 : decode (kB k_TX_timesInAll) 1 = .ok (.istore_n 2, 1) := by decide +kernel
theorem d_TX_timesInAll_2 : decode (kB k_TX_timesInAll) 2 = .ok (.iconst 0, 1) := by decide +kernel
theorem d_TX_timesInAll_3 : decode (kB k_TX_timesInAll) 3 = .ok (.istore_n 3, 1) := by decide +kernel
theorem d_TX_timesInAll_4 : decode (kB k_TX_timesInAll) 4 = .ok (.iload_n 3, 1) := by decide +kernel
theorem d_TX_timesInAll_5 : decode (kB k_TX_timesInAll) 5 = .ok (.aload_n 0, 1) := by decide +kernel
theorem d_TX_timesInAll_6 : decode (kB k_TX_timesInAll) 6 = .ok (.getfield 23, 3) := by decide +kernel
theorem d_TX_timesInAll_9 : decode (kB k_TX_timesInAll) 9 = .ok (.if_icmp .ge (18), 3) := by decide +kernel
theorem d_TX_timesInAll_12 : decode (kB k_TX_timesInAll) 12 = .ok (.iload_n 2, 1) := by decide +kernel
theorem d_TX_timesInAll_13 : decode (kB k_TX_timesInAll) 13 = .ok (.aload_n 0, 1) := by decide +kernel
theorem d_TX_timesInAll_14 : decode (kB k_TX_timesInAll) 14 = .ok (.iload_n 1, 1) := by decide +kernel
theorem d_TX_timesInAll_15 : decode (kB k_TX_timesInAll) 15 = .ok (.iload_n 3, 1) := by decide +kernel
theorem d_TX_timesInAll_16 : decode (kB k_TX_timesInAll) 16 = .ok (.invokevirtual 34, 3) := by decide +kernel
theorem d_TX_timesInAll_19 : decode (kB k_TX_timesInAll) 19 = .ok (.iadd, 1) := by decide +kernel
theorem d_TX_timesInAll_20 : decode (kB k_TX_timesInAll) 20 = .ok (.istore_n 2, 1) := by decide +kernel
theorem d_TX_timesInAll_21 : decode (kB k_TX_timesInAll) 21 = .ok (.iinc 3 1, 3) := by decide +kernel
theorem d_TX_timesInAll_24 : decode (kB k_TX_timesInAll) 24 = .ok (.goto (-20), 3) := by decide +kernel
theorem d_TX_timesInAll_27 : decode (kB k_TX_timesInAll) 27 = .ok (.iload_n 2, 1) := by decide +kernel
theorem d_TX_timesInAll_28 : decode (kB k_TX_timesInAll) 28 = .ok (.ireturn, 1) := by decide +kernel
theorem d_QU_init_0 : decode (kB k_QU_init) 0 = .ok (.aload_n 0, 1) := by decide +kernel
theorem d_QU_init_1 : decode (kB k_QU_init) 1 = .ok (.invokespecial 3, 3) := by decide +kernel
theorem d_QU_init_4 : decode (kB k_QU_init) 4 = .ok (.aload_n 0, 1) := by decide +kernel
theorem d_QU_init_5 : decode (kB k_QU_init) 5 = .ok (.bipush 24, 2) := by decide +kernel
theorem d_QU_init_7 : decode (kB k_QU_init) 7 = .ok (.newarray .int, 2) := by decide +kernel
theorem d_QU_init_9 : decode (kB k_QU_init) 9 = .ok (.putfield 9, 3) := by decide +kernel
theorem d_QU_init_12 : decode (kB k_QU_init) 12 = .ok (.aload_n 0, 1) := by decide +kernel
theorem d_QU_init_13 : decode (kB k_QU_init) 13 = .ok (.bipush 24, 2) := by decide +kernel
theorem d_QU_init_15 : decode (kB k_QU_init) 15 = .ok (.newarray .int, 2) := by decide +kernel
theorem d_QU_init_17 : decode (kB k_QU_init) 17 = .ok (.putfield 15, 3) := by decide +kernel
theorem d_QU_init_20 : decode (kB k_QU_init) 20 = .ok (.aload_n 0, 1) := by decide +kernel
theorem d_QU_init_21 : decode (kB k_QU_init) 21 = .ok (.bipush 24, 2) := by decide +kernel
theorem d_QU_init_23 : decode (kB k_QU_init) 23 = .ok (.newarray .double, 2) := by decide +kernel
theorem d_QU_init_25 : decode (kB k_QU_init) 25 = .ok (.putfield 18, 3) := by decide +kernel
theorem d_QU_init_28 : decode (kB k_QU_init) 28 = .ok (.aload_n 0, 1) := by decide +kernel
theorem d_QU_init_29 : decode (kB k_QU_init) 29 = .ok (.bipush 24, 2) := by decide +kernel
theorem d_QU_init_31 : decode (kB k_QU_init) 31 = .ok (.newarray .int, 2) := by decide +kernel
theorem d_QU_init_33 : decode (kB k_QU_init) 33 = .ok (.putfield 22, 3) := by decide +kernel
theorem d_QU_init_36 : decode (kB k_QU_init) 36 = .ok (.aload_n 0, 1) := by decide +kernel
theorem d_QU_init_37 : decode (kB k_QU_init) 37 = .ok (.iconst 0, 1) := by decide +kernel
theorem d_QU_init_38 : decode (kB k_QU_init) 38 = .ok (.putfield 25, 3) := by decide +kernel
theorem d_QU_init_41 : decode (kB k_QU_init) 41 = .ok (.aload_n 0, 1) := by decide +kernel
theorem d_QU_init_42 : decode (kB k_QU_init) 42 = .ok (.iconst 1, 1) := by decide +kernel
theorem d_QU_init_43 : decode (kB k_QU_init) 43 = .ok (.putfield 29, 3) := by decide +kernel
theorem d_QU_init_46 : decode (kB k_QU_init) 46 = .ok (.aload_n 0, 1) := by decide +kernel
theorem d_QU_init_47 : decode (kB k_QU_init) 47 = .ok (.iconst 0, 1) := by decide +kernel
theorem d_QU_init_48 : decode (kB k_QU_init) 48 = .ok (.putfield 32, 3) := by decide +kernel
theorem d_QU_init_51 : decode (kB k_QU_init) 51 = .ok (.return_, 1) := by decide +kernel
theorem d_QU_size_0 : decode (kB k_QU_size) 0 = .ok (.aload_n 0, 1) := by decide +kernel
theorem d_QU_size_1 : decode (kB k_QU_size) 1 = .ok (.getfield 25, 3) := by decide +kernel
theorem d_QU_size_4 : decode (kB k_QU_size) 4 = .ok (.ireturn, 1) := by decide +kernel
theorem d_QU_nodesWanted_0 : decode (kB k_QU_nodesWanted) 0 = .ok (.aload_n 0, 1) := by decide +kernel
theorem d_QU_nodesWanted_1 : decode (kB k_QU_nodesWanted) 1 = .ok (.getfield 29, 3) := by decide +kernel
theorem d_QU_nodesWanted_4 : decode (kB k_QU_nodesWanted) 4 = .ok (.ireturn, 1) := by decide +kernel
theorem d_QU_isFull_0 : decode (kB k_QU_isFull) 0 = .ok (.aload_n 0, 1) := by decide +kernel
theorem d_QU_isFull_1 : decode (kB k_QU_isFull) 1 = .ok (.getfield 25, 3) := by decide +kernel
theorem d_QU_isFull_4 : decode (kB k_QU_isFull) 4 = .ok (.bipush 24, 2) := by decide +kernel
theorem d_QU_isFull_6 : decode (kB k_QU_isFull) 6 = .ok (.if_icmp .ne (7), 3) := by decide +kernel
theorem d_QU_isFull_9 : decode (kB k_QU_isFull) 9 = .ok (.iconst 1, 1) := by decide +kernel
theorem d_QU_isFull_10 : decode (kB k_QU_isFull) 10 = .ok (.goto (4), 3) := by decide +kernel
theorem d_QU_isFull_13 : decode (kB k_QU_isFull) 13 = .ok (.iconst 0, 1) := by decide +kernel
theorem d_QU_isFull_14 : decode (kB k_QU_isFull) 14 = .ok (.ireturn, 1) := by decide +kernel
theorem d_QU_isWhole_0 : decode (kB k_QU_isWhole) 0 = .ok (.aload_n 0, 1) := by decide +kernel
theorem d_QU_isWhole_1 : decode (kB k_QU_isWhole) 1 = .ok (.getfield 29, 3) := by decide +kernel
theorem d_QU_isWhole_4 : decode (kB k_QU_isWhole) 4 = .ok (.ifCond .ne (7), 3) := by decide +kernel
theorem d_QU_isWhole_7 : decode (kB k_QU_isWhole) 7 = .ok (.iconst 1, 1) := by decide +kernel
theorem d_QU_isWhole_8 : decode (kB k_QU_isWhole) 8 = .ok (.goto (4), 3) := by decide +kernel
theorem d_QU_isWhole_11 : decode (kB k_QU_isWhole) 11 = .ok (.iconst 0, 1) := by decide +kernel
theorem d_QU_isWhole_12 : decode (kB k_QU_isWhole) 12 = .ok (.ireturn, 1) := by decide +kernel
theorem d_QU_wantsTerm_0 : decode (kB k_QU_wantsTerm) 0 = .ok (.aload_n 0, 1) := by decide +kernel
theorem d_QU_wantsTerm_1 : decode (kB k_QU_wantsTerm) 1 = .ok (.getfield 32, 3) := by decide +kernel
theorem d_QU_wantsTerm_4 : decode (kB k_QU_wantsTerm) 4 = .ok (.ifCond .le (7), 3) := by decide +kernel
theorem d_QU_wantsTerm_7 : decode (kB k_QU_wantsTerm) 7 = .ok (.iconst 1, 1) := by decide +kernel
theorem d_QU_wantsTerm_8 : decode (kB k_QU_wantsTerm) 8 = .ok (.goto (4), 3) := by decide +kernel
theorem d_QU_wantsTerm_11 : decode (kB k_QU_wantsTerm) 11 = .ok (.iconst 0, 1) := by decide +kernel
theorem d_QU_wantsTerm_12 : decode (kB k_QU_wantsTerm) 12 = .ok (.ireturn, 1) := by decide +kernel
theorem d_QU_has_0 : decode (kB k_QU_has) 0 = .ok (.iload_n 1, 1) := by decide +kernel
theorem d_QU_has_1 : decode (kB k_QU_has) 1 = .ok (.ifCond .lt (15), 3) := by decide +kernel
theorem d_QU_has_4 : decode (kB k_QU_has) 4 = .ok (.iload_n 1, 1) := by decide +kernel
theorem d_QU_has_5 : decode (kB k_QU_has) 5 = .ok (.aload_n 0, 1) := by decide +kernel
theorem d_QU_has_6 : decode (kB k_QU_has) 6 = .ok (.getfield 25, 3) := by decide +kernel
theorem d_QU_has_9 : decode (kB k_QU_has) 9 = .ok (.if_icmp .ge (7), 3) := by decide +kernel
theorem d_QU_has_12 : decode (kB k_QU_has) 12 = .ok (.iconst 1, 1) := by decide +kernel
theorem d_QU_has_13 : decode (kB k_QU_has) 13 = .ok (.goto (4), 3) := by decide +kernel
theorem d_QU_has_16 : decode (kB k_QU_has) 16 = .ok (.iconst 0, 1) := by decide +kernel
theorem d_QU_has_17 : decode (kB k_QU_has) 17 = .ok (.ireturn, 1) := by decide +kernel
theorem d_QU_kindOf_0 : decode (kB k_QU_kindOf) 0 = .ok (.aload_n 0, 1) := by decide +kernel
theorem d_QU_kindOf_1 : decode (kB k_QU_kindOf) 1 = .ok (.getfield 9, 3) := by decide +kernel
theorem d_QU_kindOf_4 : decode (kB k_QU_kindOf) 4 = .ok (.iload_n 1, 1) := by decide +kernel
theorem d_QU_kindOf_5 : decode (kB k_QU_kindOf) 5 = .ok (.iaload, 1) := by decide +kernel
theorem d_QU_kindOf_6 : decode (kB k_QU_kindOf) 6 = .ok (.ireturn, 1) := by decide +kernel
theorem d_QU_numberOf_0 : decode (kB k_QU_numberOf) 0 = .ok (.aload_n 0, 1) := by decide +kernel
theorem d_QU_numberOf_1 : decode (kB k_QU_numberOf) 1 = .ok (.getfield 15, 3) := by decide +kernel
theorem d_QU_numberOf_4 : decode (kB k_QU_numberOf) 4 = .ok (.iload_n 1, 1) := by decide +kernel
theorem d_QU_numberOf_5 : decode (kB k_QU_numberOf) 5 = .ok (.iaload, 1) := by decide +kernel
theorem d_QU_numberOf_6 : decode (kB k_QU_numberOf) 6 = .ok (.ireturn, 1) := by decide +kernel
theorem d_QU_weightOf_0 : decode (kB k_QU_weightOf) 0 = .ok (.aload_n 0, 1) := by decide +kernel
theorem d_QU_weightOf_1 : decode (kB k_QU_weightOf) 1 = .ok (.getfield 18, 3) := by decide +kernel
theorem d_QU_weightOf_4 : decode (kB k_QU_weightOf) 4 = .ok (.iload_n 1, 1) := by decide +kernel
theorem d_QU_weightOf_5 : decode (kB k_QU_weightOf) 5 = .ok (.daload, 1) := by decide +kernel
theorem d_QU_weightOf_6 : decode (kB k_QU_weightOf) 6 = .ok (.dreturn, 1) := by decide +kernel
theorem d_QU_empty_0 : decode (kB k_QU_empty) 0 = .ok (.aload_n 0, 1) := by decide +kernel
theorem d_QU_empty_1 : decode (kB k_QU_empty) 1 = .ok (.iconst 0, 1) := by decide +kernel
theorem d_QU_empty_2 : decode (kB k_QU_empty) 2 = .ok (.putfield 25, 3) := by decide +kernel
theorem d_QU_empty_5 : decode (kB k_QU_empty) 5 = .ok (.aload_n 0, 1) := by decide +kernel
theorem d_QU_empty_6 : decode (kB k_QU_empty) 6 = .ok (.iconst 1, 1) := by decide +kernel
theorem d_QU_empty_7 : decode (kB k_QU_empty) 7 = .ok (.putfield 29, 3) := by decide +kernel
theorem d_QU_empty_10 : decode (kB k_QU_empty) 10 = .ok (.aload_n 0, 1) := by decide +kernel
theorem d_QU_empty_11 : decode (kB k_QU_empty) 11 = .ok (.iconst 0, 1) := by decide +kernel
theorem d_QU_empty_12 : decode (kB k_QU_empty) 12 = .ok (.putfield 32, 3) := by decide +kernel
theorem d_QU_empty_15 : decode (kB k_QU_empty) 15 = .ok (.return_, 1) := by decide +kernel
theorem d_QU_append_0 : decode (kB k_QU_append) 0 = .ok (.aload_n 0, 1) := by decide +kernel
theorem d_QU_append_1 : decode (kB k_QU_append) 1 = .ok (.getfield 25, 3) := by decide +kernel
theorem d_QU_append_4 : decode (kB k_QU_append) 4 = .ok (.istore 5, 2) := by decide +kernel
theorem d_QU_append_6 : decode (kB k_QU_append) 6 = .ok (.aload_n 0, 1) := by decide +kernel
theorem d_QU_append_7 : decode (kB k_QU_append) 7 = .ok (.getfield 9, 3) := by decide +kernel
theorem d_QU_append_10 : decode (kB k_QU_append) 10 = .ok (.iload 5, 2) := by decide +kernel
theorem d_QU_append_12 : decode (kB k_QU_append) 12 = .ok (.iload_n 1, 1) := by decide +kernel
theorem d_QU_append_13 : decode (kB k_QU_append) 13 = .ok (.iastore, 1) := by decide +kernel
theorem d_QU_append_14 : decode (kB k_QU_append) 14 = .ok (.aload_n 0, 1) := by decide +kernel
theorem d_QU_append_15 : decode (kB k_QU_append) 15 = .ok (.getfield 15, 3) := by decide +kernel
theorem d_QU_append_18 : decode (kB k_QU_append) 18 = .ok (.iload 5, 2) := by decide +kernel
theorem d_QU_append_20 : decode (kB k_QU_append) 20 = .ok (.iload_n 2, 1) := by decide +kernel
theorem d_QU_append_21 : decode (kB k_QU_append) 21 = .ok (.iastore, 1) := by decide +kernel
theorem d_QU_append_22 : decode (kB k_QU_append) 22 = .ok (.aload_n 0, 1) := by decide +kernel
theorem d_QU_append_23 : decode (kB k_QU_append) 23 = .ok (.getfield 18, 3) := by decide +kernel
theorem d_QU_append_26 : decode (kB k_QU_append) 26 = .ok (.iload 5, 2) := by decide +kernel
theorem d_QU_append_28 : decode (kB k_QU_append) 28 = .ok (.dload_n 3, 1) := by decide +kernel
theorem d_QU_append_29 : decode (kB k_QU_append) 29 = .ok (.dastore, 1) := by decide +kernel
theorem d_QU_append_30 : decode (kB k_QU_append) 30 = .ok (.aload_n 0, 1) := by decide +kernel
theorem d_QU_append_31 : decode (kB k_QU_append) 31 = .ok (.dup, 1) := by decide +kernel
theorem d_QU_append_32 : decode (kB k_QU_append) 32 = .ok (.getfield 25, 3) := by decide +kernel
theorem d_QU_append_35 : decode (kB k_QU_append) 35 = .ok (.iconst 1, 1) := by decide +kernel
theorem d_QU_append_36 : decode (kB k_QU_append) 36 = .ok (.iadd, 1) := by decide +kernel
theorem d_QU_append_37 : decode (kB k_QU_append) 37 = .ok (.putfield 25, 3) := by decide +kernel
theorem d_QU_append_40 : decode (kB k_QU_append) 40 = .ok (.aload_n 0, 1) := by decide +kernel
theorem d_QU_append_41 : decode (kB k_QU_append) 41 = .ok (.dup, 1) := by decide +kernel
theorem d_QU_append_42 : decode (kB k_QU_append) 42 = .ok (.getfield 29, 3) := by decide +kernel
theorem d_QU_append_45 : decode (kB k_QU_append) 45 = .ok (.aload_n 0, 1) := by decide +kernel
theorem d_QU_append_46 : decode (kB k_QU_append) 46 = .ok (.iload 5, 2) := by decide +kernel
theorem d_QU_append_48 : decode (kB k_QU_append) 48 = .ok (.invokevirtual 35, 3) := by decide +kernel
theorem d_QU_append_51 : decode (kB k_QU_append) 51 = .ok (.iconst 1, 1) := by decide +kernel
theorem d_QU_append_52 : decode (kB k_QU_append) 52 = .ok (.isub, 1) := by decide +kernel
theorem d_QU_append_53 : decode (kB k_QU_append) 53 = .ok (.iadd, 1) := by decide +kernel
theorem d_QU_append_54 : decode (kB k_QU_append) 54 = .ok (.putfield 29, 3) := by decide +kernel
theorem d_QU_append_57 : decode (kB k_QU_append) 57 = .ok (.iload_n 1, 1) := by decide +kernel
theorem d_QU_append_58 : decode (kB k_QU_append) 58 = .ok (.invokestatic 39, 3) := by decide +kernel
theorem d_QU_append_61 : decode (kB k_QU_append) 61 = .ok (.ifCond .eq (16), 3) := by decide +kernel
theorem d_QU_append_64 : decode (kB k_QU_append) 64 = .ok (.aload_n 0, 1) := by decide +kernel
theorem d_QU_append_65 : decode (kB k_QU_append) 65 = .ok (.aload_n 0, 1) := by decide +kernel
theorem d_QU_append_66 : decode (kB k_QU_append) 66 = .ok (.iload 5, 2) := by decide +kernel
theorem d_QU_append_68 : decode (kB k_QU_append) 68 = .ok (.invokevirtual 35, 3) := by decide +kernel
theorem d_QU_append_71 : decode (kB k_QU_append) 71 = .ok (.putfield 32, 3) := by decide +kernel
theorem d_QU_append_74 : decode (kB k_QU_append) 74 = .ok (.goto (20), 3) := by decide +kernel
theorem d_QU_append_77 : decode (kB k_QU_append) 77 = .ok (.aload_n 0, 1) := by decide +kernel
theorem d_QU_append_78 : decode (kB k_QU_append) 78 = .ok (.getfield 32, 3) := by decide +kernel
theorem d_QU_append_81 : decode (kB k_QU_append) 81 = .ok (.ifCond .le (13), 3) := by decide +kernel
theorem d_QU_append_84 : decode (kB k_QU_append) 84 = .ok (.aload_n 0, 1) := by decide +kernel
theorem d_QU_append_85 : decode (kB k_QU_append) 85 = .ok (.dup, 1) := by decide +kernel
theorem d_QU_append_86 : decode (kB k_QU_append) 86 = .ok (.getfield 32, 3) := by decide +kernel
theorem d_QU_append_89 : decode (kB k_QU_append) 89 = .ok (.iconst 1, 1) := by decide +kernel
theorem d_QU_append_90 : decode (kB k_QU_append) 90 = .ok (.isub, 1) := by decide +kernel
theorem d_QU_append_91 : decode (kB k_QU_append) 91 = .ok (.putfield 32, 3) := by decide +kernel
theorem d_QU_append_94 : decode (kB k_QU_append) 94 = .ok (.aload_n 0, 1) := by decide +kernel
theorem d_QU_append_95 : decode (kB k_QU_append) 95 = .ok (.invokevirtual 43, 3) := by decide +kernel
theorem d_QU_append_98 : decode (kB k_QU_append) 98 = .ok (.ifCond .eq (7), 3) := by decide +kernel
theorem d_QU_append_101 : decode (kB k_QU_append) 101 = .ok (.aload_n 0, 1) := by decide +kernel
theorem d_QU_append_102 : decode (kB k_QU_append) 102 = .ok (.invokevirtual 47, 3) := by decide +kernel
theorem d_QU_append_105 : decode (kB k_QU_append) 105 = .ok (.aload_n 0, 1) := by decide +kernel
theorem d_QU_append_106 : decode (kB k_QU_append) 106 = .ok (.getfield 25, 3) := by decide +kernel
theorem d_QU_append_109 : decode (kB k_QU_append) 109 = .ok (.ireturn, 1) := by decide +kernel
theorem d_QU_partsOf_0 : decode (kB k_QU_partsOf) 0 = .ok (.aload_n 0, 1) := by decide +kernel
theorem d_QU_partsOf_1 : decode (kB k_QU_partsOf) 1 = .ok (.getfield 9, 3) := by decide +kernel
theorem d_QU_partsOf_4 : decode (kB k_QU_partsOf) 4 = .ok (.iload_n 1, 1) := by decide +kernel
theorem d_QU_partsOf_5 : decode (kB k_QU_partsOf) 5 = .ok (.iaload, 1) := by decide +kernel
theorem d_QU_partsOf_6 : decode (kB k_QU_partsOf) 6 = .ok (.tableswitch (73) (2) (11) #[54, 54, 54, 62, 62, 62, 62, 62, 69, 71], 54) := by decide +kernel
theorem d_QU_partsOf_60 : decode (kB k_QU_partsOf) 60 = .ok (.aload_n 0, 1) := by decide +kernel
theorem d_QU_partsOf_61 : decode (kB k_QU_partsOf) 61 = .ok (.getfield 18, 3) := by decide +kernel
theorem d_QU_partsOf_64 : decode (kB k_QU_partsOf) 64 = .ok (.iload_n 1, 1) := by decide +kernel
theorem d_QU_partsOf_65 : decode (kB k_QU_partsOf) 65 = .ok (.daload, 1) := by decide +kernel
theorem d_QU_partsOf_66 : decode (kB k_QU_partsOf) 66 = .ok (.d2i, 1) := by decide +kernel
theorem d_QU_partsOf_67 : decode (kB k_QU_partsOf) 67 = .ok (.ireturn, 1) := by decide +kernel
theorem d_QU_partsOf_68 : decode (kB k_QU_partsOf) 68 = .ok (.aload_n 0, 1) := by decide +kernel
theorem d_QU_partsOf_69 : decode (kB k_QU_partsOf) 69 = .ok (.getfield 15, 3) := by decide +kernel
theorem d_QU_partsOf_72 : decode (kB k_QU_partsOf) 72 = .ok (.iload_n 1, 1) := by decide +kernel
theorem d_QU_partsOf_73 : decode (kB k_QU_partsOf) 73 = .ok (.iaload, 1) := by decide +kernel
theorem d_QU_partsOf_74 : decode (kB k_QU_partsOf) 74 = .ok (.ireturn, 1) := by decide +kernel
theorem d_QU_partsOf_75 : decode (kB k_QU_partsOf) 75 = .ok (.iconst 1, 1) := by decide +kernel
theorem d_QU_partsOf_76 : decode (kB k_QU_partsOf) 76 = .ok (.ireturn, 1) := by decide +kernel
theorem d_QU_partsOf_77 : decode (kB k_QU_partsOf) 77 = .ok (.iconst 2, 1) := by decide +kernel
theorem d_QU_partsOf_78 : decode (kB k_QU_partsOf) 78 = .ok (.ireturn, 1) := by decide +kernel
theorem d_QU_partsOf_79 : decode (kB k_QU_partsOf) 79 = .ok (.iconst 0, 1) := by decide +kernel
theorem d_QU_partsOf_80 : decode (kB k_QU_partsOf) 80 = .ok (.ireturn, 1) := by decide +kernel
theorem d_QU_partAt_0 : decode (kB k_QU_partAt) 0 = .ok (.iload_n 1, 1) := by decide +kernel
theorem d_QU_partAt_1 : decode (kB k_QU_partAt) 1 = .ok (.iconst 1, 1) := by decide +kernel
theorem d_QU_partAt_2 : decode (kB k_QU_partAt) 2 = .ok (.iadd, 1) := by decide +kernel
theorem d_QU_partAt_3 : decode (kB k_QU_partAt) 3 = .ok (.istore_n 3, 1) := by decide +kernel
theorem d_QU_partAt_4 : decode (kB k_QU_partAt) 4 = .ok (.iconst 0, 1) := by decide +kernel
theorem d_QU_partAt_5 : decode (kB k_QU_partAt) 5 = .ok (.istore 4, 2) := by decide +kernel
theorem d_QU_partAt_7 : decode (kB k_QU_partAt) 7 = .ok (.iload 4, 2) := by decide +kernel
theorem d_QU_partAt_9 : decode (kB k_QU_partAt) 9 = .ok (.iload_n 2, 1) := by decide +kernel
theorem d_QU_partAt_10 : decode (kB k_QU_partAt) 10 = .ok (.if_icmp .ge (16), 3) := by decide +kernel
theorem d_QU_partAt_13 : decode (kB k_QU_partAt) 13 = .ok (.aload_n 0, 1) := by decide +kernel
theorem d_QU_partAt_14 : decode (kB k_QU_partAt) 14 = .ok (.getfield 22, 3) := by decide +kernel
theorem d_QU_partAt_17 : decode (kB k_QU_partAt) 17 = .ok (.iload_n 3, 1) := by decide +kernel
theorem d_QU_partAt_18 : decode (kB k_QU_partAt) 18 = .ok (.iaload, 1) := by decide +kernel
theorem d_QU_partAt_19 : decode (kB k_QU_partAt) 19 = .ok (.istore_n 3, 1) := by decide +kernel
theorem d_QU_partAt_20 : decode (kB k_QU_partAt) 20 = .ok (.iinc 4 1, 3) := by decide +kernel
theorem d_QU_partAt_23 : decode (kB k_QU_partAt) 23 = .ok (.goto (-16), 3) := by decide +kernel
theorem d_QU_partAt_26 : decode (kB k_QU_partAt) 26 = .ok (.iload_n 3, 1) := by decide +kernel
theorem d_QU_partAt_27 : decode (kB k_QU_partAt) 27 = .ok (.ireturn, 1) := by decide +kernel
theorem d_QU_termOf_0 : decode (kB k_QU_termOf) 0 = .ok (.aload_n 0, 1) := by decide +kernel
theorem d_QU_termOf_1 : decode (kB k_QU_termOf) 1 = .ok (.getfield 15, 3) := by decide +kernel
theorem d_QU_termOf_4 : decode (kB k_QU_termOf) 4 = .ok (.iload_n 1, 1) := by decide +kernel
theorem d_QU_termOf_5 : decode (kB k_QU_termOf) 5 = .ok (.iconst 1, 1) := by decide +kernel
theorem d_QU_termOf_6 : decode (kB k_QU_termOf) 6 = .ok (.iadd, 1) := by decide +kernel
theorem d_QU_termOf_7 : decode (kB k_QU_termOf) 7 = .ok (.iload_n 2, 1) := by decide +kernel
theorem d_QU_termOf_8 : decode (kB k_QU_termOf) 8 = .ok (.iadd, 1) := by decide +kernel
theorem d_QU_termOf_9 : decode (kB k_QU_termOf) 9 = .ok (.iaload, 1) := by decide +kernel
theorem d_QU_termOf_10 : decode (kB k_QU_termOf) 10 = .ok (.ireturn, 1) := by decide +kernel
theorem d_QU_markEnds_0 : decode (kB k_QU_markEnds) 0 = .ok (.aload_n 0, 1) := by decide +kernel
theorem d_QU_markEnds_1 : decode (kB k_QU_markEnds) 1 = .ok (.getfield 25, 3) := by decide +kernel
theorem d_QU_markEnds_4 : decode (kB k_QU_markEnds) 4 = .ok (.iconst 1, 1) := by decide +kernel
theorem d_QU_markEnds_5 : decode (kB k_QU_markEnds) 5 = .ok (.isub, 1) := by decide +kernel
theorem d_QU_markEnds_6 : decode (kB k_QU_markEnds) 6 = .ok (.istore_n 1, 1) := by decide +kernel
theorem d_QU_markEnds_7 : decode (kB k_QU_markEnds) 7 = .ok (.iload_n 1, 1) := by decide +kernel
theorem d_QU_markEnds_8 : decode (kB k_QU_markEnds) 8 = .ok (.ifCond .lt (25), 3) := by decide +kernel
theorem d_QU_markEnds_11 : decode (kB k_QU_markEnds) 11 = .ok (.aload_n 0, 1) := by decide +kernel
theorem d_QU_markEnds_12 : decode (kB k_QU_markEnds) 12 = .ok (.getfield 22, 3) := by decide +kernel
theorem d_QU_markEnds_15 : decode (kB k_QU_markEnds) 15 = .ok (.iload_n 1, 1) := by decide +kernel
theorem d_QU_markEnds_16 : decode (kB k_QU_markEnds) 16 = .ok (.aload_n 0, 1) := by decide +kernel
theorem d_QU_markEnds_17 : decode (kB k_QU_markEnds) 17 = .ok (.iload_n 1, 1) := by decide +kernel
theorem d_QU_markEnds_18 : decode (kB k_QU_markEnds) 18 = .ok (.aload_n 0, 1) := by decide +kernel
theorem d_QU_markEnds_19 : decode (kB k_QU_markEnds) 19 = .ok (.iload_n 1, 1) := by decide +kernel
theorem d_QU_markEnds_20 : decode (kB k_QU_markEnds) 20 = .ok (.invokevirtual 35, 3) := by decide +kernel
theorem d_QU_markEnds_23 : decode (kB k_QU_markEnds) 23 = .ok (.invokevirtual 50, 3) := by decide +kernel
theorem d_QU_markEnds_26 : decode (kB k_QU_markEnds) 26 = .ok (.iastore, 1) := by decide +kernel
theorem d_QU_markEnds_27 : decode (kB k_QU_markEnds) 27 = .ok (.iinc 1 (-1), 3) := by decide +kernel
theorem d_QU_markEnds_30 : decode (kB k_QU_markEnds) 30 = .ok (.goto (-23), 3) := by decide +kernel
theorem d_QU_markEnds_33 : decode (kB k_QU_markEnds) 33 = .ok (.return_, 1) := by decide +kernel
theorem d_NE_init_0 : decode (kB k_NE_init) 0 = .ok (.aload_n 0, 1) := by decide +kernel
theorem d_NE_init_1 : decode (kB k_NE_init) 1 = .ok (.invokespecial 3, 3) := by decide +kernel
theorem d_NE_init_4 : decode (kB k_NE_init) 4 = .ok (.aload_n 0, 1) := by decide +kernel
theorem d_NE_init_5 : decode (kB k_NE_init) 5 = .ok (.bipush 24, 2) := by decide +kernel
theorem d_NE_init_7 : decode (kB k_NE_init) 7 = .ok (.bipush 12, 2) := by decide +kernel
theorem d_NE_init_9 : decode (kB k_NE_init) 9 = .ok (.multianewarray 9 2, 4) := by decide +kernel
theorem d_NE_init_13 : decode (kB k_NE_init) 13 = .ok (.putfield 11, 3) := by decide +kernel
theorem d_NE_init_16 : decode (kB k_NE_init) 16 = .ok (.aload_n 0, 1) := by decide +kernel
theorem d_NE_init_17 : decode (kB k_NE_init) 17 = .ok (.bipush 24, 2) := by decide +kernel
theorem d_NE_init_19 : decode (kB k_NE_init) 19 = .ok (.newarray .int, 2) := by decide +kernel
theorem d_NE_init_21 : decode (kB k_NE_init) 21 = .ok (.putfield 16, 3) := by decide +kernel
theorem d_NE_init_24 : decode (kB k_NE_init) 24 = .ok (.aload_n 0, 1) := by decide +kernel
theorem d_NE_init_25 : decode (kB k_NE_init) 25 = .ok (.bipush 24, 2) := by decide +kernel
theorem d_NE_init_27 : decode (kB k_NE_init) 27 = .ok (.newarray .double, 2) := by decide +kernel
theorem d_NE_init_29 : decode (kB k_NE_init) 29 = .ok (.putfield 20, 3) := by decide +kernel
theorem d_NE_init_32 : decode (kB k_NE_init) 32 = .ok (.aload_n 0, 1) := by decide +kernel
theorem d_NE_init_33 : decode (kB k_NE_init) 33 = .ok (.iconst 0, 1) := by decide +kernel
theorem d_NE_init_34 : decode (kB k_NE_init) 34 = .ok (.putfield 24, 3) := by decide +kernel
theorem d_NE_init_37 : decode (kB k_NE_init) 37 = .ok (.aload_n 0, 1) := by decide +kernel
theorem d_NE_init_38 : decode (kB k_NE_init) 38 = .ok (.ldc2_w 28, 3) := by decide +kernel
theorem d_NE_init_41 : decode (kB k_NE_init) 41 = .ok (.putfield 30, 3) := by decide +kernel
theorem d_NE_init_44 : decode (kB k_NE_init) 44 = .ok (.aload_n 0, 1) := by decide +kernel
theorem d_NE_init_45 : decode (kB k_NE_init) 45 = .ok (.aload_n 1, 1) := by decide +kernel
theorem d_NE_init_46 : decode (kB k_NE_init) 46 = .ok (.putfield 34, 3) := by decide +kernel
theorem d_NE_init_49 : decode (kB k_NE_init) 49 = .ok (.aload_n 0, 1) := by decide +kernel
theorem d_NE_init_50 : decode (kB k_NE_init) 50 = .ok (.aload_n 2, 1) := by decide +kernel
theorem d_NE_init_51 : decode (kB k_NE_init) 51 = .ok (.putfield 38, 3) := by decide +kernel
theorem d_NE_init_54 : decode (kB k_NE_init) 54 = .ok (.return_, 1) := by decide +kernel
