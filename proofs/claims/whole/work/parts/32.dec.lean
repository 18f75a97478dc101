/-! what the bytes say (written by gen/names.py) -/
theorem d_BF_init_0 : decode (kB k_BF_init) 0 = .ok (.aload_n 0, 1) := by decide +kernel
theorem d_BF_init_1 : decode (kB k_BF_init) 1 = .ok (.invokespecial 1, 3) := by decide +kernel
theorem d_BF_init_4 : decode (kB k_BF_init) 4 = .ok (.aload_n 0, 1) := by decide +kernel
theorem d_BF_init_5 : decode (kB k_BF_init) 5 = .ok (.new 7, 3) := by decide +kernel
theorem d_BF_init_8 : decode (kB k_BF_init) 8 = .ok (.dup, 1) := by decide +kernel
theorem d_BF_init_9 : decode (kB k_BF_init) 9 = .ok (.invokespecial 9, 3) := by decide +kernel
theorem d_BF_init_12 : decode (kB k_BF_init) 12 = .ok (.putfield 10, 3) := by decide +kernel
theorem d_BF_init_15 : decode (kB k_BF_init) 15 = .ok (.aload_n 0, 1) := by decide +kernel
theorem d_BF_init_16 : decode (kB k_BF_init) 16 = .ok (.new 16, 3) := by decide +kernel
theorem d_BF_init_19 : decode (kB k_BF_init) 19 = .ok (.dup, 1) := by decide +kernel
theorem d_BF_init_20 : decode (kB k_BF_init) 20 = .ok (.invokespecial 18, 3) := by decide +kernel
theorem d_BF_init_23 : decode (kB k_BF_init) 23 = .ok (.putfield 19, 3) := by decide +kernel
theorem d_BF_init_26 : decode (kB k_BF_init) 26 = .ok (.aload_n 0, 1) := by decide +kernel
theorem d_BF_init_27 : decode (kB k_BF_init) 27 = .ok (.new 23, 3) := by decide +kernel
theorem d_BF_init_30 : decode (kB k_BF_init) 30 = .ok (.dup, 1) := by decide +kernel
theorem d_BF_init_31 : decode (kB k_BF_init) 31 = .ok (.aload_n 0, 1) := by decide +kernel
theorem d_BF_init_32 : decode (kB k_BF_init) 32 = .ok (.getfield 10, 3) := by decide +kernel
theorem d_BF_init_35 : decode (kB k_BF_init) 35 = .ok (.aload_n 0, 1) := by decide +kernel
theorem d_BF_init_36 : decode (kB k_BF_init) 36 = .ok (.getfield 19, 3) := by decide +kernel
theorem d_BF_init_39 : decode (kB k_BF_init) 39 = .ok (.invokespecial 25, 3) := by decide +kernel
theorem d_BF_init_42 : decode (kB k_BF_init) 42 = .ok (.putfield 28, 3) := by decide +kernel
theorem d_BF_init_45 : decode (kB k_BF_init) 45 = .ok (.aload_n 0, 1) := by decide +kernel
theorem d_BF_init_46 : decode (kB k_BF_init) 46 = .ok (.new 32, 3) := by decide +kernel
theorem d_BF_init_49 : decode (kB k_BF_init) 49 = .ok (.dup, 1) := by decide +kernel
theorem d_BF_init_50 : decode (kB k_BF_init) 50 = .ok (.invokespecial 34, 3) := by decide +kernel
theorem d_BF_init_53 : decode (kB k_BF_init) 53 = .ok (.putfield 35, 3) := by decide +kernel
theorem d_BF_init_56 : decode (kB k_BF_init) 56 = .ok (.aload_n 0, 1) := by decide +kernel
theorem d_BF_init_57 : decode (kB k_BF_init) 57 = .ok (.new 39, 3) := by decide +kernel
theorem d_BF_init_60 : decode (kB k_BF_init) 60 = .ok (.dup, 1) := by decide +kernel
theorem d_BF_init_61 : decode (kB k_BF_init) 61 = .ok (.aload_n 0, 1) := by decide +kernel
theorem d_BF_init_62 : decode (kB k_BF_init) 62 = .ok (.getfield 10, 3) := by decide +kernel
theorem d_BF_init_65 : decode (kB k_BF_init) 65 = .ok (.aload_n 0, 1) := by decide +kernel
theorem d_BF_init_66 : decode (kB k_BF_init) 66 = .ok (.getfield 35, 3) := by decide +kernel
theorem d_BF_init_69 : decode (kB k_BF_init) 69 = .ok (.invokespecial 41, 3) := by decide +kernel
theorem d_BF_init_72 : decode (kB k_BF_init) 72 = .ok (.putfield 44, 3) := by decide +kernel
theorem d_BF_init_75 : decode (kB k_BF_init) 75 = .ok (.return_, 1) := by decide +kernel
theorem d_BF_document_0 : decode (kB k_BF_document) 0 = .ok (.iload_n 1, 1) := by decide +kernel
theorem d_BF_document_1 : decode (kB k_BF_document) 1 = .ok (.ifCond .lt (9), 3) := by decide +kernel
theorem d_BF_document_4 : decode (kB k_BF_document) 4 = .ok (.iload_n 1, 1) := by decide +kernel
theorem d_BF_document_5 : decode (kB k_BF_document) 5 = .ok (.bipush 24, 2) := by decide +kernel
theorem d_BF_document_7 : decode (kB k_BF_document) 7 = .ok (.if_icmp .le (13), 3) := by decide +kernel
theorem d_BF_document_10 : decode (kB k_BF_document) 10 = .ok (.new 48, 3) := by decide +kernel
theorem d_BF_document_13 : decode (kB k_BF_document) 13 = .ok (.dup, 1) := by decide +kernel
theorem d_BF_document_14 : decode (kB k_BF_document) 14 = .ok (.ldc 50, 2) := by decide +kernel
theorem d_BF_document_16 : decode (kB k_BF_document) 16 = .ok (.invokespecial 52, 3) := by decide +kernel
theorem d_BF_document_19 : decode (kB k_BF_document) 19 = .ok (.athrow, 1) := by decide +kernel
theorem d_BF_document_20 : decode (kB k_BF_document) 20 = .ok (.aload_n 0, 1) := by decide +kernel
theorem d_BF_document_21 : decode (kB k_BF_document) 21 = .ok (.getfield 10, 3) := by decide +kernel
theorem d_BF_document_24 : decode (kB k_BF_document) 24 = .ok (.invokevirtual 55, 3) := by decide +kernel
theorem d_BF_document_27 : decode (kB k_BF_document) 27 = .ok (.ifCond .eq (13), 3) := by decide +kernel
theorem d_BF_document_30 : decode (kB k_BF_document) 30 = .ok (.new 59, 3) := by decide +kernel
theorem d_BF_document_33 : decode (kB k_BF_document) 33 = .ok (.dup, 1) := by decide +kernel
theorem d_BF_document_34 : decode (kB k_BF_document) 34 = .ok (.ldc 61, 2) := by decide +kernel
theorem d_BF_document_36 : decode (kB k_BF_document) 36 = .ok (.invokespecial 63, 3) := by decide +kernel
theorem d_BF_document_39 : decode (kB k_BF_document) 39 = .ok (.athrow, 1) := by decide +kernel
theorem d_BF_document_40 : decode (kB k_BF_document) 40 = .ok (.aload_n 0, 1) := by decide +kernel
theorem d_BF_document_41 : decode (kB k_BF_document) 41 = .ok (.getfield 10, 3) := by decide +kernel
theorem d_BF_document_44 : decode (kB k_BF_document) 44 = .ok (.iload_n 1, 1) := by decide +kernel
theorem d_BF_document_45 : decode (kB k_BF_document) 45 = .ok (.invokevirtual 64, 3) := by decide +kernel
theorem d_BF_document_48 : decode (kB k_BF_document) 48 = .ok (.ireturn, 1) := by decide +kernel
theorem d_BF_word_0 : decode (kB k_BF_word) 0 = .ok (.iload_n 1, 1) := by decide +kernel
theorem d_BF_word_1 : decode (kB k_BF_word) 1 = .ok (.invokestatic 68, 3) := by decide +kernel
theorem d_BF_word_4 : decode (kB k_BF_word) 4 = .ok (.ifCond .ne (13), 3) := by decide +kernel
theorem d_BF_word_7 : decode (kB k_BF_word) 7 = .ok (.new 48, 3) := by decide +kernel
theorem d_BF_word_10 : decode (kB k_BF_word) 10 = .ok (.dup, 1) := by decide +kernel
theorem d_BF_word_11 : decode (kB k_BF_word) 11 = .ok (.ldc 72, 2) := by decide +kernel
theorem d_BF_word_13 : decode (kB k_BF_word) 13 = .ok (.invokespecial 52, 3) := by decide +kernel
theorem d_BF_word_16 : decode (kB k_BF_word) 16 = .ok (.athrow, 1) := by decide +kernel
theorem d_BF_word_17 : decode (kB k_BF_word) 17 = .ok (.aload_n 0, 1) := by decide +kernel
theorem d_BF_word_18 : decode (kB k_BF_word) 18 = .ok (.getfield 10, 3) := by decide +kernel
theorem d_BF_word_21 : decode (kB k_BF_word) 21 = .ok (.invokevirtual 74, 3) := by decide +kernel
theorem d_BF_word_24 : decode (kB k_BF_word) 24 = .ok (.ifCond .ne (13), 3) := by decide +kernel
theorem d_BF_word_27 : decode (kB k_BF_word) 27 = .ok (.new 59, 3) := by decide +kernel
theorem d_BF_word_30 : decode (kB k_BF_word) 30 = .ok (.dup, 1) := by decide +kernel
theorem d_BF_word_31 : decode (kB k_BF_word) 31 = .ok (.ldc 77, 2) := by decide +kernel
theorem d_BF_word_33 : decode (kB k_BF_word) 33 = .ok (.invokespecial 63, 3) := by decide +kernel
theorem d_BF_word_36 : decode (kB k_BF_word) 36 = .ok (.athrow, 1) := by decide +kernel
theorem d_BF_word_37 : decode (kB k_BF_word) 37 = .ok (.aload_n 0, 1) := by decide +kernel
theorem d_BF_word_38 : decode (kB k_BF_word) 38 = .ok (.getfield 10, 3) := by decide +kernel
theorem d_BF_word_41 : decode (kB k_BF_word) 41 = .ok (.iload_n 1, 1) := by decide +kernel
theorem d_BF_word_42 : decode (kB k_BF_word) 42 = .ok (.invokevirtual 79, 3) := by decide +kernel
theorem d_BF_word_45 : decode (kB k_BF_word) 45 = .ok (.ireturn, 1) := by decide +kernel
theorem d_BF_smooth_0 : decode (kB k_BF_smooth) 0 = .ok (.iload_n 1, 1) := by decide +kernel
theorem d_BF_smooth_1 : decode (kB k_BF_smooth) 1 = .ok (.ifCond .eq (18), 3) := by decide +kernel
theorem d_BF_smooth_4 : decode (kB k_BF_smooth) 4 = .ok (.iload_n 1, 1) := by decide +kernel
theorem d_BF_smooth_5 : decode (kB k_BF_smooth) 5 = .ok (.iconst 1, 1) := by decide +kernel
theorem d_BF_smooth_6 : decode (kB k_BF_smooth) 6 = .ok (.if_icmp .eq (13), 3) := by decide +kernel
theorem d_BF_smooth_9 : decode (kB k_BF_smooth) 9 = .ok (.new 48, 3) := by decide +kernel
theorem d_BF_smooth_12 : decode (kB k_BF_smooth) 12 = .ok (.dup, 1) := by decide +kernel
theorem d_BF_smooth_13 : decode (kB k_BF_smooth) 13 = .ok (.ldc 82, 2) := by decide +kernel
theorem d_BF_smooth_15 : decode (kB k_BF_smooth) 15 = .ok (.invokespecial 52, 3) := by decide +kernel
theorem d_BF_smooth_18 : decode (kB k_BF_smooth) 18 = .ok (.athrow, 1) := by decide +kernel
theorem d_BF_smooth_19 : decode (kB k_BF_smooth) 19 = .ok (.dload_n 2, 1) := by decide +kernel
theorem d_BF_smooth_20 : decode (kB k_BF_smooth) 20 = .ok (.iload_n 1, 1) := by decide +kernel
theorem d_BF_smooth_21 : decode (kB k_BF_smooth) 21 = .ok (.ifCond .ne (9), 3) := by decide +kernel
theorem d_BF_smooth_24 : decode (kB k_BF_smooth) 24 = .ok (.ldc2_w 84, 3) := by decide +kernel
theorem d_BF_smooth_27 : decode (kB k_BF_smooth) 27 = .ok (.goto (4), 3) := by decide +kernel
theorem d_BF_smooth_30 : decode (kB k_BF_smooth) 30 = .ok (.dconst 1, 1) := by decide +kernel
theorem d_BF_smooth_31 : decode (kB k_BF_smooth) 31 = .ok (.invokestatic 86, 3) := by decide +kernel
theorem d_BF_smooth_34 : decode (kB k_BF_smooth) 34 = .ok (.ifCond .ne (13), 3) := by decide +kernel
theorem d_BF_smooth_37 : decode (kB k_BF_smooth) 37 = .ok (.new 48, 3) := by decide +kernel
theorem d_BF_smooth_40 : decode (kB k_BF_smooth) 40 = .ok (.dup, 1) := by decide +kernel
theorem d_BF_smooth_41 : decode (kB k_BF_smooth) 41 = .ok (.ldc 90, 2) := by decide +kernel
theorem d_BF_smooth_43 : decode (kB k_BF_smooth) 43 = .ok (.invokespecial 52, 3) := by decide +kernel
theorem d_BF_smooth_46 : decode (kB k_BF_smooth) 46 = .ok (.athrow, 1) := by decide +kernel
theorem d_BF_smooth_47 : decode (kB k_BF_smooth) 47 = .ok (.aload_n 0, 1) := by decide +kernel
theorem d_BF_smooth_48 : decode (kB k_BF_smooth) 48 = .ok (.getfield 28, 3) := by decide +kernel
theorem d_BF_smooth_51 : decode (kB k_BF_smooth) 51 = .ok (.iload_n 1, 1) := by decide +kernel
theorem d_BF_smooth_52 : decode (kB k_BF_smooth) 52 = .ok (.dload_n 2, 1) := by decide +kernel
theorem d_BF_smooth_53 : decode (kB k_BF_smooth) 53 = .ok (.invokevirtual 92, 3) := by decide +kernel
theorem d_BF_smooth_56 : decode (kB k_BF_smooth) 56 = .ok (.ireturn, 1) := by decide +kernel
theorem d_BF_token_0 : decode (kB k_BF_token) 0 = .ok (.iload_n 1, 1) := by decide +kernel
theorem d_BF_token_1 : decode (kB k_BF_token) 1 = .ok (.iload_n 2, 1) := by decide +kernel
theorem d_BF_token_2 : decode (kB k_BF_token) 2 = .ok (.invokestatic 96, 3) := by decide +kernel
theorem d_BF_token_5 : decode (kB k_BF_token) 5 = .ok (.ifCond .ne (13), 3) := by decide +kernel
theorem d_BF_token_8 : decode (kB k_BF_token) 8 = .ok (.new 48, 3) := by decide +kernel
theorem d_BF_token_11 : decode (kB k_BF_token) 11 = .ok (.dup, 1) := by decide +kernel
theorem d_BF_token_12 : decode (kB k_BF_token) 12 = .ok (.ldc 100, 2) := by decide +kernel
theorem d_BF_token_14 : decode (kB k_BF_token) 14 = .ok (.invokespecial 52, 3) := by decide +kernel
theorem d_BF_token_17 : decode (kB k_BF_token) 17 = .ok (.athrow, 1) := by decide +kernel
theorem d_BF_token_18 : decode (kB k_BF_token) 18 = .ok (.iload_n 1, 1) := by decide +kernel
theorem d_BF_token_19 : decode (kB k_BF_token) 19 = .ok (.dload_n 3, 1) := by decide +kernel
theorem d_BF_token_20 : decode (kB k_BF_token) 20 = .ok (.invokestatic 102, 3) := by decide +kernel
theorem d_BF_token_23 : decode (kB k_BF_token) 23 = .ok (.ifCond .ne (13), 3) := by decide +kernel
theorem d_BF_token_26 : decode (kB k_BF_token) 26 = .ok (.new 48, 3) := by decide +kernel
theorem d_BF_token_29 : decode (kB k_BF_token) 29 = .ok (.dup, 1) := by decide +kernel
theorem d_BF_token_30 : decode (kB k_BF_token) 30 = .ok (.ldc 106, 2) := by decide +kernel
theorem d_BF_token_32 : decode (kB k_BF_token) 32 = .ok (.invokespecial 52, 3) := by decide +kernel
theorem d_BF_token_35 : decode (kB k_BF_token) 35 = .ok (.athrow, 1) := by decide +kernel
theorem d_BF_token_36 : decode (kB k_BF_token) 36 = .ok (.aload_n 0, 1) := by decide +kernel
theorem d_BF_token_37 : decode (kB k_BF_token) 37 = .ok (.getfield 19, 3) := by decide +kernel
theorem d_BF_token_40 : decode (kB k_BF_token) 40 = .ok (.invokevirtual 108, 3) := by decide +kernel
theorem d_BF_token_43 : decode (kB k_BF_token) 43 = .ok (.ifCond .ne (13), 3) := by decide +kernel
theorem d_BF_token_46 : decode (kB k_BF_token) 46 = .ok (.aload_n 0, 1) := by decide +kernel
theorem d_BF_token_47 : decode (kB k_BF_token) 47 = .ok (.getfield 19, 3) := by decide +kernel
theorem d_BF_token_50 : decode (kB k_BF_token) 50 = .ok (.invokevirtual 109, 3) := by decide +kernel
theorem d_BF_token_53 : decode (kB k_BF_token) 53 = .ok (.ifCond .eq (13), 3) := by decide +kernel
theorem d_BF_token_56 : decode (kB k_BF_token) 56 = .ok (.new 59, 3) := by decide +kernel
theorem d_BF_token_59 : decode (kB k_BF_token) 59 = .ok (.dup, 1) := by decide +kernel
theorem d_BF_token_60 : decode (kB k_BF_token) 60 = .ok (.ldc 112, 2) := by decide +kernel
theorem d_BF_token_62 : decode (kB k_BF_token) 62 = .ok (.invokespecial 63, 3) := by decide +kernel
theorem d_BF_token_65 : decode (kB k_BF_token) 65 = .ok (.athrow, 1) := by decide +kernel
theorem d_BF_token_66 : decode (kB k_BF_token) 66 = .ok (.aload_n 0, 1) := by decide +kernel
theorem d_BF_token_67 : decode (kB k_BF_token) 67 = .ok (.getfield 19, 3) := by decide +kernel
theorem d_BF_token_70 : decode (kB k_BF_token) 70 = .ok (.invokevirtual 114, 3) := by decide +kernel
theorem d_BF_token_73 : decode (kB k_BF_token) 73 = .ok (.ifCond .eq (17), 3) := by decide +kernel
theorem d_BF_token_76 : decode (kB k_BF_token) 76 = .ok (.iload_n 1, 1) := by decide +kernel
theorem d_BF_token_77 : decode (kB k_BF_token) 77 = .ok (.ifCond .eq (13), 3) := by decide +kernel
theorem d_BF_token_80 : decode (kB k_BF_token) 80 = .ok (.new 117, 3) := by decide +kernel
theorem d_BF_token_83 : decode (kB k_BF_token) 83 = .ok (.dup, 1) := by decide +kernel
theorem d_BF_token_84 : decode (kB k_BF_token) 84 = .ok (.ldc 119, 2) := by decide +kernel
theorem d_BF_token_86 : decode (kB k_BF_token) 86 = .ok (.invokespecial 121, 3) := by decide +kernel
theorem d_BF_token_89 : decode (kB k_BF_token) 89 = .ok (.athrow, 1) := by decide +kernel
theorem d_BF_token_90 : decode (kB k_BF_token) 90 = .ok (.aload_n 0, 1) := by decide +kernel
theorem d_BF_token_91 : decode (kB k_BF_token) 91 = .ok (.getfield 19, 3) := by decide +kernel
theorem d_BF_token_94 : decode (kB k_BF_token) 94 = .ok (.iload_n 1, 1) := by decide +kernel
theorem d_BF_token_95 : decode (kB k_BF_token) 95 = .ok (.iload_n 2, 1) := by decide +kernel
theorem d_BF_token_96 : decode (kB k_BF_token) 96 = .ok (.dload_n 3, 1) := by decide +kernel
theorem d_BF_token_97 : decode (kB k_BF_token) 97 = .ok (.invokevirtual 122, 3) := by decide +kernel
theorem d_BF_token_100 : decode (kB k_BF_token) 100 = .ok (.ireturn, 1) := by decide +kernel
theorem d_BF_clear_0 : decode (kB k_BF_clear) 0 = .ok (.aload_n 0, 1) := by decide +kernel
theorem d_BF_clear_1 : decode (kB k_BF_clear) 1 = .ok (.getfield 19, 3) := by decide +kernel
theorem d_BF_clear_4 : decode (kB k_BF_clear) 4 = .ok (.invokevirtual 125, 3) := by decide +kernel
theorem d_BF_clear_7 : decode (kB k_BF_clear) 7 = .ok (.istore_n 1, 1) := by decide +kernel
theorem d_BF_clear_8 : decode (kB k_BF_clear) 8 = .ok (.aload_n 0, 1) := by decide +kernel
theorem d_BF_clear_9 : decode (kB k_BF_clear) 9 = .ok (.getfield 19, 3) := by decide +kernel
theorem d_BF_clear_12 : decode (kB k_BF_clear) 12 = .ok (.invokevirtual 129, 3) := by decide +kernel
theorem d_BF_clear_15 : decode (kB k_BF_clear) 15 = .ok (.iload_n 1, 1) := by decide +kernel
theorem d_BF_clear_16 : decode (kB k_BF_clear) 16 = .ok (.ireturn, 1) := by decide +kernel
theorem d_BF_wanted_0 : decode (kB k_BF_wanted) 0 = .ok (.aload_n 0, 1) := by decide +kernel
theorem d_BF_wanted_1 : decode (kB k_BF_wanted) 1 = .ok (.getfield 19, 3) := by decide +kernel
theorem d_BF_wanted_4 : decode (kB k_BF_wanted) 4 = .ok (.invokevirtual 132, 3) := by decide +kernel
theorem d_BF_wanted_7 : decode (kB k_BF_wanted) 7 = .ok (.ireturn, 1) := by decide +kernel
theorem d_BF_belief_0 : decode (kB k_BF_belief) 0 = .ok (.aload_n 0, 1) := by decide +kernel
theorem d_BF_belief_1 : decode (kB k_BF_belief) 1 = .ok (.getfield 10, 3) := by decide +kernel
theorem d_BF_belief_4 : decode (kB k_BF_belief) 4 = .ok (.iload_n 1, 1) := by decide +kernel
theorem d_BF_belief_5 : decode (kB k_BF_belief) 5 = .ok (.invokevirtual 135, 3) := by decide +kernel
theorem d_BF_belief_8 : decode (kB k_BF_belief) 8 = .ok (.ifCond .eq (14), 3) := by decide +kernel
theorem d_BF_belief_11 : decode (kB k_BF_belief) 11 = .ok (.aload_n 0, 1) := by decide +kernel
theorem d_BF_belief_12 : decode (kB k_BF_belief) 12 = .ok (.getfield 10, 3) := by decide +kernel
theorem d_BF_belief_15 : decode (kB k_BF_belief) 15 = .ok (.iload_n 1, 1) := by decide +kernel
theorem d_BF_belief_16 : decode (kB k_BF_belief) 16 = .ok (.invokevirtual 138, 3) := by decide +kernel
theorem d_BF_belief_19 : decode (kB k_BF_belief) 19 = .ok (.ifCond .ne (13), 3) := by decide +kernel
theorem d_BF_belief_22 : decode (kB k_BF_belief) 22 = .ok (.new 141, 3) := by decide +kernel
theorem d_BF_belief_25 : decode (kB k_BF_belief) 25 = .ok (.dup, 1) := by decide +kernel
theorem d_BF_belief_26 : decode (kB k_BF_belief) 26 = .ok (.ldc 143, 2) := by decide +kernel
theorem d_BF_belief_28 : decode (kB k_BF_belief) 28 = .ok (.invokespecial 145, 3) := by decide +kernel
theorem d_BF_belief_31 : decode (kB k_BF_belief) 31 = .ok (.athrow, 1) := by decide +kernel
theorem d_BF_belief_32 : decode (kB k_BF_belief) 32 = .ok (.aload_n 0, 1) := by decide +kernel
theorem d_BF_belief_33 : decode (kB k_BF_belief) 33 = .ok (.getfield 19, 3) := by decide +kernel
theorem d_BF_belief_36 : decode (kB k_BF_belief) 36 = .ok (.invokevirtual 109, 3) := by decide +kernel
theorem d_BF_belief_39 : decode (kB k_BF_belief) 39 = .ok (.ifCond .ne (13), 3) := by decide +kernel
theorem d_BF_belief_42 : decode (kB k_BF_belief) 42 = .ok (.new 59, 3) := by decide +kernel
theorem d_BF_belief_45 : decode (kB k_BF_belief) 45 = .ok (.dup, 1) := by decide +kernel
theorem d_BF_belief_46 : decode (kB k_BF_belief) 46 = .ok (.ldc 146, 2) := by decide +kernel
theorem d_BF_belief_48 : decode (kB k_BF_belief) 48 = .ok (.invokespecial 63, 3) := by decide +kernel
theorem d_BF_belief_51 : decode (kB k_BF_belief) 51 = .ok (.athrow, 1) := by decide +kernel
theorem d_BF_belief_52 : decode (kB k_BF_belief) 52 = .ok (.aload_n 0, 1) := by decide +kernel
theorem d_BF_belief_53 : decode (kB k_BF_belief) 53 = .ok (.getfield 28, 3) := by decide +kernel
theorem d_BF_belief_56 : decode (kB k_BF_belief) 56 = .ok (.invokevirtual 148, 3) := by decide +kernel
theorem d_BF_belief_59 : decode (kB k_BF_belief) 59 = .ok (.aload_n 0, 1) := by decide +kernel
theorem d_BF_belief_60 : decode (kB k_BF_belief) 60 = .ok (.getfield 28, 3) := by decide +kernel
theorem d_BF_belief_63 : decode (kB k_BF_belief) 63 = .ok (.iload_n 1, 1) := by decide +kernel
theorem d_BF_belief_64 : decode (kB k_BF_belief) 64 = .ok (.invokevirtual 151, 3) := by decide +kernel
theorem d_BF_belief_67 : decode (kB k_BF_belief) 67 = .ok (.aload_n 0, 1) := by decide +kernel
theorem d_BF_belief_68 : decode (kB k_BF_belief) 68 = .ok (.getfield 28, 3) := by decide +kernel
theorem d_BF_belief_71 : decode (kB k_BF_belief) 71 = .ok (.iload_n 1, 1) := by decide +kernel
theorem d_BF_belief_72 : decode (kB k_BF_belief) 72 = .ok (.invokevirtual 155, 3) := by decide +kernel
theorem d_BF_belief_75 : decode (kB k_BF_belief) 75 = .ok (.ifCond .eq (13), 3) := by decide +kernel
theorem d_BF_belief_78 : decode (kB k_BF_belief) 78 = .ok (.new 158, 3) := by decide +kernel
theorem d_BF_belief_81 : decode (kB k_BF_belief) 81 = .ok (.dup, 1) := by decide +kernel
theorem d_BF_belief_82 : decode (kB k_BF_belief) 82 = .ok (.ldc 160, 2) := by decide +kernel
theorem d_BF_belief_84 : decode (kB k_BF_belief) 84 = .ok (.invokespecial 162, 3) := by decide +kernel
theorem d_BF_belief_87 : decode (kB k_BF_belief) 87 = .ok (.athrow, 1) := by decide +kernel
theorem d_BF_belief_88 : decode (kB k_BF_belief) 88 = .ok (.aload_n 0, 1) := by decide +kernel
theorem d_BF_belief_89 : decode (kB k_BF_belief) 89 = .ok (.getfield 28, 3) := by decide +kernel
theorem d_BF_belief_92 : decode (kB k_BF_belief) 92 = .ok (.invokevirtual 163, 3) := by decide +kernel
theorem d_BF_belief_95 : decode (kB k_BF_belief) 95 = .ok (.dreturn, 1) := by decide +kernel
theorem d_BF_hits_0 : decode (kB k_BF_hits) 0 = .ok (.aload_n 0, 1) := by decide +kernel
theorem d_BF_hits_1 : decode (kB k_BF_hits) 1 = .ok (.getfield 19, 3) := by decide +kernel
theorem d_BF_hits_4 : decode (kB k_BF_hits) 4 = .ok (.iload_n 1, 1) := by decide +kernel
theorem d_BF_hits_5 : decode (kB k_BF_hits) 5 = .ok (.invokevirtual 167, 3) := by decide +kernel
theorem d_BF_hits_8 : decode (kB k_BF_hits) 8 = .ok (.ifCond .eq (14), 3) := by decide +kernel
theorem d_BF_hits_11 : decode (kB k_BF_hits) 11 = .ok (.aload_n 0, 1) := by decide +kernel
theorem d_BF_hits_12 : decode (kB k_BF_hits) 12 = .ok (.getfield 10, 3) := by decide +kernel
theorem d_BF_hits_15 : decode (kB k_BF_hits) 15 = .ok (.iload_n 2, 1) := by decide +kernel
theorem d_BF_hits_16 : decode (kB k_BF_hits) 16 = .ok (.invokevirtual 135, 3) := by decide +kernel
theorem d_BF_hits_19 : decode (kB k_BF_hits) 19 = .ok (.ifCond .ne (13), 3) := by decide +kernel
theorem d_BF_hits_22 : decode (kB k_BF_hits) 22 = .ok (.new 141, 3) := by decide +kernel
theorem d_BF_hits_25 : decode (kB k_BF_hits) 25 = .ok (.dup, 1) := by decide +kernel
theorem d_BF_hits_26 : decode (kB k_BF_hits) 26 = .ok (.ldc 168, 2) := by decide +kernel
theorem d_BF_hits_28 : decode (kB k_BF_hits) 28 = .ok (.invokespecial 145, 3) := by decide +kernel
theorem d_BF_hits_31 : decode (kB k_BF_hits) 31 = .ok (.athrow, 1) := by decide +kernel
theorem d_BF_hits_32 : decode (kB k_BF_hits) 32 = .ok (.aload_n 0, 1) := by decide +kernel
theorem d_BF_hits_33 : decode (kB k_BF_hits) 33 = .ok (.getfield 19, 3) := by decide +kernel
theorem d_BF_hits_36 : decode (kB k_BF_hits) 36 = .ok (.invokevirtual 109, 3) := by decide +kernel
theorem d_BF_hits_39 : decode (kB k_BF_hits) 39 = .ok (.ifCond .ne (13), 3) := by decide +kernel
theorem d_BF_hits_42 : decode (kB k_BF_hits) 42 = .ok (.new 59, 3) := by decide +kernel
theorem d_BF_hits_45 : decode (kB k_BF_hits) 45 = .ok (.dup, 1) := by decide +kernel
theorem d_BF_hits_46 : decode (kB k_BF_hits) 46 = .ok (.ldc 146, 2) := by decide +kernel
theorem d_BF_hits_48 : decode (kB k_BF_hits) 48 = .ok (.invokespecial 63, 3) := by decide +kernel
theorem d_BF_hits_51 : decode (kB k_BF_hits) 51 = .ok (.athrow, 1) := by decide +kernel
theorem d_BF_hits_52 : decode (kB k_BF_hits) 52 = .ok (.aload_n 0, 1) := by decide +kernel
theorem d_BF_hits_53 : decode (kB k_BF_hits) 53 = .ok (.getfield 19, 3) := by decide +kernel
theorem d_BF_hits_56 : decode (kB k_BF_hits) 56 = .ok (.iload_n 1, 1) := by decide +kernel
theorem d_BF_hits_57 : decode (kB k_BF_hits) 57 = .ok (.invokevirtual 170, 3) := by decide +kernel
theorem d_BF_hits_60 : decode (kB k_BF_hits) 60 = .ok (.invokestatic 173, 3) := by decide +kernel
theorem d_BF_hits_63 : decode (kB k_BF_hits) 63 = .ok (.ifCond .ne (13), 3) := by decide +kernel
theorem d_BF_hits_66 : decode (kB k_BF_hits) 66 = .ok (.new 117, 3) := by decide +kernel
theorem d_BF_hits_69 : decode (kB k_BF_hits) 69 = .ok (.dup, 1) := by decide +kernel
theorem d_BF_hits_70 : decode (kB k_BF_hits) 70 = .ok (.ldc 176, 2) := by decide +kernel
theorem d_BF_hits_72 : decode (kB k_BF_hits) 72 = .ok (.invokespecial 121, 3) := by decide +kernel
theorem d_BF_hits_75 : decode (kB k_BF_hits) 75 = .ok (.athrow, 1) := by decide +kernel
theorem d_BF_hits_76 : decode (kB k_BF_hits) 76 = .ok (.aload_n 0, 1) := by decide +kernel
theorem d_BF_hits_77 : decode (kB k_BF_hits) 77 = .ok (.getfield 28, 3) := by decide +kernel
theorem d_BF_hits_80 : decode (kB k_BF_hits) 80 = .ok (.iload_n 1, 1) := by decide +kernel
theorem d_BF_hits_81 : decode (kB k_BF_hits) 81 = .ok (.iload_n 2, 1) := by decide +kernel
theorem d_BF_hits_82 : decode (kB k_BF_hits) 82 = .ok (.invokevirtual 178, 3) := by decide +kernel
theorem d_BF_hits_85 : decode (kB k_BF_hits) 85 = .ok (.ireturn, 1) := by decide +kernel
theorem d_BF_search_0 : decode (kB k_BF_search) 0 = .ok (.iload_n 1, 1) := by decide +kernel
theorem d_BF_search_1 : decode (kB k_BF_search) 1 = .ok (.iconst 1, 1) := by decide +kernel
theorem d_BF_search_2 : decode (kB k_BF_search) 2 = .ok (.if_icmp .lt (9), 3) := by decide +kernel
theorem d_BF_search_5 : decode (kB k_BF_search) 5 = .ok (.iload_n 1, 1) := by decide +kernel
theorem d_BF_search_6 : decode (kB k_BF_search) 6 = .ok (.bipush 10, 2) := by decide +kernel
theorem d_BF_search_8 : decode (kB k_BF_search) 8 = .ok (.if_icmp .le (13), 3) := by decide +kernel
theorem d_BF_search_11 : decode (kB k_BF_search) 11 = .ok (.new 48, 3) := by decide +kernel
theorem d_BF_search_14 : decode (kB k_BF_search) 14 = .ok (.dup, 1) := by decide +kernel
theorem d_BF_search_15 : decode (kB k_BF_search) 15 = .ok (.ldc 182, 2) := by decide +kernel
theorem d_BF_search_17 : decode (kB k_BF_search) 17 = .ok (.invokespecial 52, 3) := by decide +kernel
theorem d_BF_search_20 : decode (kB k_BF_search) 20 = .ok (.athrow, 1) := by decide +kernel
theorem d_BF_search_21 : decode (kB k_BF_search) 21 = .ok (.aload_n 0, 1) := by decide +kernel
theorem d_BF_search_22 : decode (kB k_BF_search) 22 = .ok (.getfield 19, 3) := by decide +kernel
theorem d_BF_search_25 : decode (kB k_BF_search) 25 = .ok (.invokevirtual 109, 3) := by decide +kernel
theorem d_BF_search_28 : decode (kB k_BF_search) 28 = .ok (.ifCond .ne (13), 3) := by decide +kernel
theorem d_BF_search_31 : decode (kB k_BF_search) 31 = .ok (.new 59, 3) := by decide +kernel
theorem d_BF_search_34 : decode (kB k_BF_search) 34 = .ok (.dup, 1) := by decide +kernel
theorem d_BF_search_35 : decode (kB k_BF_search) 35 = .ok (.ldc 146, 2) := by decide +kernel
theorem d_BF_search_37 : decode (kB k_BF_search) 37 = .ok (.invokespecial 63, 3) := by decide +kernel
theorem d_BF_search_40 : decode (kB k_BF_search) 40 = .ok (.athrow, 1) := by decide +kernel
theorem d_BF_search_41 : decode (kB k_BF_search) 41 = .ok (.aload_n 0, 1) := by decide +kernel
theorem d_BF_search_42 : decode (kB k_BF_search) 42 = .ok (.getfield 28, 3) := by decide +kernel
theorem d_BF_search_45 : decode (kB k_BF_search) 45 = .ok (.invokevirtual 148, 3) := by decide +kernel
theorem d_BF_search_48 : decode (kB k_BF_search) 48 = .ok (.aload_n 0, 1) := by decide +kernel
theorem d_BF_search_49 : decode (kB k_BF_search) 49 = .ok (.getfield 35, 3) := by decide +kernel
theorem d_BF_search_52 : decode (kB k_BF_search) 52 = .ok (.invokevirtual 184, 3) := by decide +kernel
theorem d_BF_search_55 : decode (kB k_BF_search) 55 = .ok (.iconst 0, 1) := by decide +kernel
theorem d_BF_search_56 : decode (kB k_BF_search) 56 = .ok (.istore_n 2, 1) := by decide +kernel
theorem d_BF_search_57 : decode (kB k_BF_search) 57 = .ok (.iload_n 2, 1) := by decide +kernel
theorem d_BF_search_58 : decode (kB k_BF_search) 58 = .ok (.aload_n 0, 1) := by decide +kernel
theorem d_BF_search_59 : decode (kB k_BF_search) 59 = .ok (.getfield 10, 3) := by decide +kernel
theorem d_BF_search_62 : decode (kB k_BF_search) 62 = .ok (.invokevirtual 185, 3) := by decide +kernel
theorem d_BF_search_65 : decode (kB k_BF_search) 65 = .ok (.if_icmp .ge (25), 3) := by decide +kernel
theorem d_BF_search_68 : decode (kB k_BF_search) 68 = .ok (.aload_n 0, 1) := by decide +kernel
theorem d_BF_search_69 : decode (kB k_BF_search) 69 = .ok (.getfield 10, 3) := by decide +kernel
theorem d_BF_search_72 : decode (kB k_BF_search) 72 = .ok (.iload_n 2, 1) := by decide +kernel
theorem d_BF_search_73 : decode (kB k_BF_search) 73 = .ok (.invokevirtual 138, 3) := by decide +kernel
theorem d_BF_search_76 : decode (kB k_BF_search) 76 = .ok (.ifCond .le (8), 3) := by decide +kernel
theorem d_BF_search_79 : decode (kB k_BF_search) 79 = .ok (.aload_n 0, 1) := by decide +kernel
theorem d_BF_search_80 : decode (kB k_BF_search) 80 = .ok (.iload_n 2, 1) := by decide +kernel
theorem d_BF_search_81 : decode (kB k_BF_search) 81 = .ok (.invokevirtual 186, 3) := by decide +kernel
theorem d_BF_search_84 : decode (kB k_BF_search) 84 = .ok (.iinc 2 1, 3) := by decide +kernel
theorem d_BF_search_87 : decode (kB k_BF_search) 87 = .ok (.goto (-30), 3) := by decide +kernel
theorem d_BF_search_90 : decode (kB k_BF_search) 90 = .ok (.aload_n 0, 1) := by decide +kernel
theorem d_BF_search_91 : decode (kB k_BF_search) 91 = .ok (.getfield 35, 3) := by decide +kernel
theorem d_BF_search_94 : decode (kB k_BF_search) 94 = .ok (.iload_n 1, 1) := by decide +kernel
theorem d_BF_search_95 : decode (kB k_BF_search) 95 = .ok (.invokevirtual 189, 3) := by decide +kernel
theorem d_BF_search_98 : decode (kB k_BF_search) 98 = .ok (.ireturn, 1) := by decide +kernel
theorem d_BF_found_0 : decode (kB k_BF_found) 0 = .ok (.aload_n 0, 1) := by decide +kernel
theorem d_BF_found_1 : decode (kB k_BF_found) 1 = .ok (.getfield 35, 3) := by decide +kernel
theorem d_BF_found_4 : decode (kB k_BF_found) 4 = .ok (.iload_n 1, 1) := by decide +kernel
theorem d_BF_found_5 : decode (kB k_BF_found) 5 = .ok (.invokevirtual 192, 3) := by decide +kernel
theorem d_BF_found_8 : decode (kB k_BF_found) 8 = .ok (.ifCond .ne (13), 3) := by decide +kernel
theorem d_BF_found_11 : decode (kB k_BF_found) 11 = .ok (.new 141, 3) := by decide +kernel
theorem d_BF_found_14 : decode (kB k_BF_found) 14 = .ok (.dup, 1) := by decide +kernel
theorem d_BF_found_15 : decode (kB k_BF_found) 15 = .ok (.ldc 193, 2) := by decide +kernel
theorem d_BF_found_17 : decode (kB k_BF_found) 17 = .ok (.invokespecial 145, 3) := by decide +kernel
theorem d_BF_found_20 : decode (kB k_BF_found) 20 = .ok (.athrow, 1) := by decide +kernel
theorem d_BF_found_21 : decode (kB k_BF_found) 21 = .ok (.aload_n 0, 1) := by decide +kernel
theorem d_BF_found_22 : decode (kB k_BF_found) 22 = .ok (.getfield 35, 3) := by decide +kernel
theorem d_BF_found_25 : decode (kB k_BF_found) 25 = .ok (.iload_n 1, 1) := by decide +kernel
theorem d_BF_found_26 : decode (kB k_BF_found) 26 = .ok (.invokevirtual 195, 3) := by decide +kernel
theorem d_BF_found_29 : decode (kB k_BF_found) 29 = .ok (.ireturn, 1) := by decide +kernel
theorem d_BF_score_0 : decode (kB k_BF_score) 0 = .ok (.aload_n 0, 1) := by decide +kernel
theorem d_BF_score_1 : decode (kB k_BF_score) 1 = .ok (.getfield 35, 3) := by decide +kernel
theorem d_BF_score_4 : decode (kB k_BF_score) 4 = .ok (.iload_n 1, 1) := by decide +kernel
theorem d_BF_score_5 : decode (kB k_BF_score) 5 = .ok (.invokevirtual 192, 3) := by decide +kernel
theorem d_BF_score_8 : decode (kB k_BF_score) 8 = .ok (.ifCond .ne (13), 3) := by decide +kernel
theorem d_BF_score_11 : decode (kB k_BF_score) 11 = .ok (.new 141, 3) := by decide +kernel
theorem d_BF_score_14 : decode (kB k_BF_score) 14 = .ok (.dup, 1) := by decide +kernel
theorem d_BF_score_15 : decode (kB k_BF_score) 15 = .ok (.ldc 193, 2) := by decide +kernel
theorem d_BF_score_17 : decode (kB k_BF_score) 17 = .ok (.invokespecial 145, 3) := by decide +kernel
theorem d_BF_score_20 : decode (kB k_BF_score) 20 = .ok (.athrow, 1) := by decide +kernel
theorem d_BF_score_21 : decode (kB k_BF_score) 21 = .ok (.aload_n 0, 1) := by decide +kernel
theorem d_BF_score_22 : decode (kB k_BF_score) 22 = .ok (.getfield 35, 3) := by decide +kernel
theorem d_BF_score_25 : decode (kB k_BF_score) 25 = .ok (.iload_n 1, 1) := by decide +kernel
theorem d_BF_score_26 : decode (kB k_BF_score) 26 = .ok (.invokevirtual 198, 3) := by decide +kernel
theorem d_BF_score_29 : decode (kB k_BF_score) 29 = .ok (.dreturn, 1) := by decide +kernel
theorem d_BF_model_0 : decode (kB k_BF_model) 0 = .ok (.iload_n 1, 1) := by decide +kernel
theorem d_BF_model_1 : decode (kB k_BF_model) 1 = .ok (.iconst 1, 1) := by decide +kernel
theorem d_BF_model_2 : decode (kB k_BF_model) 2 = .ok (.if_icmp .lt (8), 3) := by decide +kernel
theorem d_BF_model_5 : decode (kB k_BF_model) 5 = .ok (.iload_n 1, 1) := by decide +kernel
theorem d_BF_model_6 : decode (kB k_BF_model) 6 = .ok (.iconst 4, 1) := by decide +kernel
theorem d_BF_model_7 : decode (kB k_BF_model) 7 = .ok (.if_icmp .le (13), 3) := by decide +kernel
theorem d_BF_model_10 : decode (kB k_BF_model) 10 = .ok (.new 48, 3) := by decide +kernel
theorem d_BF_model_13 : decode (kB k_BF_model) 13 = .ok (.dup, 1) := by decide +kernel
theorem d_BF_model_14 : decode (kB k_BF_model) 14 = .ok (.ldc 202, 2) := by decide +kernel
theorem d_BF_model_16 : decode (kB k_BF_model) 16 = .ok (.invokespecial 52, 3) := by decide +kernel
theorem d_BF_model_19 : decode (kB k_BF_model) 19 = .ok (.athrow, 1) := by decide +kernel
theorem d_BF_model_20 : decode (kB k_BF_model) 20 = .ok (.aload_n 0, 1) := by decide +kernel
theorem d_BF_model_21 : decode (kB k_BF_model) 21 = .ok (.getfield 35, 3) := by decide +kernel
theorem d_BF_model_24 : decode (kB k_BF_model) 24 = .ok (.invokevirtual 204, 3) := by decide +kernel
theorem d_BF_model_27 : decode (kB k_BF_model) 27 = .ok (.ifCond .ne (13), 3) := by decide +kernel
theorem d_BF_model_30 : decode (kB k_BF_model) 30 = .ok (.new 59, 3) := by decide +kernel
theorem d_BF_model_33 : decode (kB k_BF_model) 33 = .ok (.dup, 1) := by decide +kernel
theorem d_BF_model_34 : decode (kB k_BF_model) 34 = .ok (.ldc 205, 2) := by decide +kernel
theorem d_BF_model_36 : decode (kB k_BF_model) 36 = .ok (.invokespecial 63, 3) := by decide +kernel
theorem d_BF_model_39 : decode (kB k_BF_model) 39 = .ok (.athrow, 1) := by decide +kernel
theorem d_BF_model_40 : decode (kB k_BF_model) 40 = .ok (.aload_n 0, 1) := by decide +kernel
theorem d_BF_model_41 : decode (kB k_BF_model) 41 = .ok (.getfield 44, 3) := by decide +kernel
theorem d_BF_model_44 : decode (kB k_BF_model) 44 = .ok (.iload_n 1, 1) := by decide +kernel
theorem d_BF_model_45 : decode (kB k_BF_model) 45 = .ok (.invokevirtual 207, 3) := by decide +kernel
theorem d_BF_model_48 : decode (kB k_BF_model) 48 = .ok (.aload_n 0, 1) := by decide +kernel
theorem d_BF_model_49 : decode (kB k_BF_model) 49 = .ok (.getfield 44, 3) := by decide +kernel
theorem d_BF_model_52 : decode (kB k_BF_model) 52 = .ok (.aload_n 0, 1) := by decide +kernel
theorem d_BF_model_53 : decode (kB k_BF_model) 53 = .ok (.getfield 19, 3) := by decide +kernel
theorem d_BF_model_56 : decode (kB k_BF_model) 56 = .ok (.invokevirtual 210, 3) := by decide +kernel
theorem d_BF_model_59 : decode (kB k_BF_model) 59 = .ok (.aload_n 0, 1) := by decide +kernel
theorem d_BF_model_60 : decode (kB k_BF_model) 60 = .ok (.getfield 19, 3) := by decide +kernel
theorem d_BF_model_63 : decode (kB k_BF_model) 63 = .ok (.invokevirtual 125, 3) := by decide +kernel
theorem d_BF_model_66 : decode (kB k_BF_model) 66 = .ok (.ireturn, 1) := by decide +kernel
theorem d_BF_told_0 : decode (kB k_BF_told) 0 = .ok (.aload_n 0, 1) := by decide +kernel
theorem d_BF_told_1 : decode (kB k_BF_told) 1 = .ok (.getfield 19, 3) := by decide +kernel
theorem d_BF_told_4 : decode (kB k_BF_told) 4 = .ok (.iload_n 1, 1) := by decide +kernel
theorem d_BF_told_5 : decode (kB k_BF_told) 5 = .ok (.invokevirtual 167, 3) := by decide +kernel
theorem d_BF_told_8 : decode (kB k_BF_told) 8 = .ok (.ifCond .ne (13), 3) := by decide +kernel
theorem d_BF_told_11 : decode (kB k_BF_told) 11 = .ok (.new 141, 3) := by decide +kernel
theorem d_BF_told_14 : decode (kB k_BF_told) 14 = .ok (.dup, 1) := by decide +kernel
theorem d_BF_told_15 : decode (kB k_BF_told) 15 = .ok (.ldc 214, 2) := by decide +kernel
theorem d_BF_told_17 : decode (kB k_BF_told) 17 = .ok (.invokespecial 145, 3) := by decide +kernel
theorem d_BF_told_20 : decode (kB k_BF_told) 20 = .ok (.athrow, 1) := by decide +kernel
theorem d_BF_told_21 : decode (kB k_BF_told) 21 = .ok (.iload_n 2, 1) := by decide +kernel
theorem d_BF_told_22 : decode (kB k_BF_told) 22 = .ok (.tableswitch (55) (0) (2) #[26, 36, 46], 26) := by decide +kernel
theorem d_BF_told_48 : decode (kB k_BF_told) 48 = .ok (.aload_n 0, 1) := by decide +kernel
theorem d_BF_told_49 : decode (kB k_BF_told) 49 = .ok (.getfield 19, 3) := by decide +kernel
theorem d_BF_told_52 : decode (kB k_BF_told) 52 = .ok (.iload_n 1, 1) := by decide +kernel
theorem d_BF_told_53 : decode (kB k_BF_told) 53 = .ok (.invokevirtual 170, 3) := by decide +kernel
theorem d_BF_told_56 : decode (kB k_BF_told) 56 = .ok (.i2d, 1) := by decide +kernel
theorem d_BF_told_57 : decode (kB k_BF_told) 57 = .ok (.dreturn, 1) := by decide +kernel
theorem d_BF_told_58 : decode (kB k_BF_told) 58 = .ok (.aload_n 0, 1) := by decide +kernel
theorem d_BF_told_59 : decode (kB k_BF_told) 59 = .ok (.getfield 19, 3) := by decide +kernel
theorem d_BF_told_62 : decode (kB k_BF_told) 62 = .ok (.iload_n 1, 1) := by decide +kernel
theorem d_BF_told_63 : decode (kB k_BF_told) 63 = .ok (.invokevirtual 216, 3) := by decide +kernel
theorem d_BF_told_66 : decode (kB k_BF_told) 66 = .ok (.i2d, 1) := by decide +kernel
theorem d_BF_told_67 : decode (kB k_BF_told) 67 = .ok (.dreturn, 1) := by decide +kernel
theorem d_BF_told_68 : decode (kB k_BF_told) 68 = .ok (.aload_n 0, 1) := by decide +kernel
theorem d_BF_told_69 : decode (kB k_BF_told) 69 = .ok (.getfield 19, 3) := by decide +kernel
theorem d_BF_told_72 : decode (kB k_BF_told) 72 = .ok (.iload_n 1, 1) := by decide +kernel
theorem d_BF_told_73 : decode (kB k_BF_told) 73 = .ok (.invokevirtual 219, 3) := by decide +kernel
theorem d_BF_told_76 : decode (kB k_BF_told) 76 = .ok (.dreturn, 1) := by decide +kernel
theorem d_BF_told_77 : decode (kB k_BF_told) 77 = .ok (.new 48, 3) := by decide +kernel
theorem d_BF_told_80 : decode (kB k_BF_told) 80 = .ok (.dup, 1) := by decide +kernel
theorem d_BF_told_81 : decode (kB k_BF_told) 81 = .ok (.ldc 222, 2) := by decide +kernel
theorem d_BF_told_83 : decode (kB k_BF_told) 83 = .ok (.invokespecial 52, 3) := by decide +kernel
theorem d_BF_told_86 : decode (kB k_BF_told) 86 = .ok (.athrow, 1) := by decide +kernel
theorem d_BF_count_0 : decode (kB k_BF_count) 0 = .ok (.iload_n 1, 1) := by decide +kernel
theorem d_BF_count_1 : decode (kB k_BF_count) 1 = .ok (.bipush 10, 2) := by decide +kernel
theorem d_BF_count_3 : decode (kB k_BF_count) 3 = .ok (.if_icmp .lt (21), 3) := by decide +kernel
theorem d_BF_count_6 : decode (kB k_BF_count) 6 = .ok (.iload_n 1, 1) := by decide +kernel
theorem d_BF_count_7 : decode (kB k_BF_count) 7 = .ok (.bipush 22, 2) := by decide +kernel
theorem d_BF_count_9 : decode (kB k_BF_count) 9 = .ok (.if_icmp .ge (15), 3) := by decide +kernel
theorem d_BF_count_12 : decode (kB k_BF_count) 12 = .ok (.aload_n 0, 1) := by decide +kernel
theorem d_BF_count_13 : decode (kB k_BF_count) 13 = .ok (.getfield 10, 3) := by decide +kernel
theorem d_BF_count_16 : decode (kB k_BF_count) 16 = .ok (.iload_n 1, 1) := by decide +kernel
theorem d_BF_count_17 : decode (kB k_BF_count) 17 = .ok (.bipush 10, 2) := by decide +kernel
theorem d_BF_count_19 : decode (kB k_BF_count) 19 = .ok (.isub, 1) := by decide +kernel
theorem d_BF_count_20 : decode (kB k_BF_count) 20 = .ok (.invokevirtual 138, 3) := by decide +kernel
theorem d_BF_count_23 : decode (kB k_BF_count) 23 = .ok (.ireturn, 1) := by decide +kernel
theorem d_BF_count_24 : decode (kB k_BF_count) 24 = .ok (.iload_n 1, 1) := by decide +kernel
theorem d_BF_count_25 : decode (kB k_BF_count) 25 = .ok (.bipush 30, 2) := by decide +kernel
theorem d_BF_count_27 : decode (kB k_BF_count) 27 = .ok (.if_icmp .lt (21), 3) := by decide +kernel
theorem d_BF_count_30 : decode (kB k_BF_count) 30 = .ok (.iload_n 1, 1) := by decide +kernel
theorem d_BF_count_31 : decode (kB k_BF_count) 31 = .ok (.bipush 46, 2) := by decide +kernel
theorem d_BF_count_33 : decode (kB k_BF_count) 33 = .ok (.if_icmp .ge (15), 3) := by decide +kernel
theorem d_BF_count_36 : decode (kB k_BF_count) 36 = .ok (.aload_n 0, 1) := by decide +kernel
theorem d_BF_count_37 : decode (kB k_BF_count) 37 = .ok (.getfield 10, 3) := by decide +kernel
theorem d_BF_count_40 : decode (kB k_BF_count) 40 = .ok (.iload_n 1, 1) := by decide +kernel
theorem d_BF_count_41 : decode (kB k_BF_count) 41 = .ok (.bipush 30, 2) := by decide +kernel
theorem d_BF_count_43 : decode (kB k_BF_count) 43 = .ok (.isub, 1) := by decide +kernel
theorem d_BF_count_44 : decode (kB k_BF_count) 44 = .ok (.invokevirtual 224, 3) := by decide +kernel
theorem d_BF_count_47 : decode (kB k_BF_count) 47 = .ok (.ireturn, 1) := by decide +kernel
theorem d_BF_count_48 : decode (kB k_BF_count) 48 = .ok (.iload_n 1, 1) := by decide +kernel
theorem d_BF_count_49 : decode (kB k_BF_count) 49 = .ok (.tableswitch (75) (0) (4) #[35, 43, 51, 59, 67], 35) := by decide +kernel
theorem d_BF_count_84 : decode (kB k_BF_count) 84 = .ok (.aload_n 0, 1) := by decide +kernel
theorem d_BF_count_85 : decode (kB k_BF_count) 85 = .ok (.getfield 10, 3) := by decide +kernel
theorem d_BF_count_88 : decode (kB k_BF_count) 88 = .ok (.invokevirtual 185, 3) := by decide +kernel
theorem d_BF_count_91 : decode (kB k_BF_count) 91 = .ok (.ireturn, 1) := by decide +kernel
theorem d_BF_count_92 : decode (kB k_BF_count) 92 = .ok (.aload_n 0, 1) := by decide +kernel
theorem d_BF_count_93 : decode (kB k_BF_count) 93 = .ok (.getfield 10, 3) := by decide +kernel
theorem d_BF_count_96 : decode (kB k_BF_count) 96 = .ok (.invokevirtual 227, 3) := by decide +kernel
theorem d_BF_count_99 : decode (kB k_BF_count) 99 = .ok (.ireturn, 1) := by decide +kernel
theorem d_BF_count_100 : decode (kB k_BF_count) 100 = .ok (.aload_n 0, 1) := by decide +kernel
theorem d_BF_count_101 : decode (kB k_BF_count) 101 = .ok (.getfield 19, 3) := by decide +kernel
theorem d_BF_count_104 : decode (kB k_BF_count) 104 = .ok (.invokevirtual 125, 3) := by decide +kernel
theorem d_BF_count_107 : decode (kB k_BF_count) 107 = .ok (.ireturn, 1) := by decide +kernel
theorem d_BF_count_108 : decode (kB k_BF_count) 108 = .ok (.aload_n 0, 1) := by decide +kernel
theorem d_BF_count_109 : decode (kB k_BF_count) 109 = .ok (.getfield 35, 3) := by decide +kernel
theorem d_BF_count_112 : decode (kB k_BF_count) 112 = .ok (.invokevirtual 204, 3) := by decide +kernel
theorem d_BF_count_115 : decode (kB k_BF_count) 115 = .ok (.ireturn, 1) := by decide +kernel
theorem d_BF_count_116 : decode (kB k_BF_count) 116 = .ok (.aload_n 0, 1) := by decide +kernel
theorem d_BF_count_117 : decode (kB k_BF_count) 117 = .ok (.getfield 35, 3) := by decide +kernel
theorem d_BF_count_120 : decode (kB k_BF_count) 120 = .ok (.invokevirtual 230, 3) := by decide +kernel
theorem d_BF_count_123 : decode (kB k_BF_count) 123 = .ok (.ireturn, 1) := by decide +kernel
theorem d_BF_count_124 : decode (kB k_BF_count) 124 = .ok (.new 48, 3) := by decide +kernel
theorem d_BF_count_127 : decode (kB k_BF_count) 127 = .ok (.dup, 1) := by decide +kernel
theorem d_BF_count_128 : decode (kB k_BF_count) 128 = .ok (.ldc 233, 2) := by decide +kernel
theorem d_BF_count_130 : decode (kB k_BF_count) 130 = .ok (.invokespecial 52, 3) := by decide +kernel
theorem d_BF_count_133 : decode (kB k_BF_count) 133 = .ok (.athrow, 1) := by decide +kernel
theorem d_BF_rank_0 : decode (kB k_BF_rank) 0 = .ok (.aload_n 0, 1) := by decide +kernel
theorem d_BF_rank_1 : decode (kB k_BF_rank) 1 = .ok (.getfield 28, 3) := by decide +kernel
theorem d_BF_rank_4 : decode (kB k_BF_rank) 4 = .ok (.iload_n 1, 1) := by decide +kernel
theorem d_BF_rank_5 : decode (kB k_BF_rank) 5 = .ok (.invokevirtual 151, 3) := by decide +kernel
theorem d_BF_rank_8 : decode (kB k_BF_rank) 8 = .ok (.aload_n 0, 1) := by decide +kernel
theorem d_BF_rank_9 : decode (kB k_BF_rank) 9 = .ok (.getfield 28, 3) := by decide +kernel
theorem d_BF_rank_12 : decode (kB k_BF_rank) 12 = .ok (.iload_n 1, 1) := by decide +kernel
theorem d_BF_rank_13 : decode (kB k_BF_rank) 13 = .ok (.invokevirtual 155, 3) := by decide +kernel
theorem d_BF_rank_16 : decode (kB k_BF_rank) 16 = .ok (.ifCond .eq (13), 3) := by decide +kernel
theorem d_BF_rank_19 : decode (kB k_BF_rank) 19 = .ok (.aload_n 0, 1) := by decide +kernel
theorem d_BF_rank_20 : decode (kB k_BF_rank) 20 = .ok (.getfield 35, 3) := by decide +kernel
theorem d_BF_rank_23 : decode (kB k_BF_rank) 23 = .ok (.invokevirtual 235, 3) := by decide +kernel
theorem d_BF_rank_26 : decode (kB k_BF_rank) 26 = .ok (.goto (18), 3) := by decide +kernel
theorem d_BF_rank_29 : decode (kB k_BF_rank) 29 = .ok (.aload_n 0, 1) := by decide +kernel
theorem d_BF_rank_30 : decode (kB k_BF_rank) 30 = .ok (.getfield 35, 3) := by decide +kernel
theorem d_BF_rank_33 : decode (kB k_BF_rank) 33 = .ok (.iload_n 1, 1) := by decide +kernel
theorem d_BF_rank_34 : decode (kB k_BF_rank) 34 = .ok (.aload_n 0, 1) := by decide +kernel
theorem d_BF_rank_35 : decode (kB k_BF_rank) 35 = .ok (.getfield 28, 3) := by decide +kernel
theorem d_BF_rank_38 : decode (kB k_BF_rank) 38 = .ok (.invokevirtual 163, 3) := by decide +kernel
theorem d_BF_rank_41 : decode (kB k_BF_rank) 41 = .ok (.invokevirtual 238, 3) := by decide +kernel
theorem d_BF_rank_44 : decode (kB k_BF_rank) 44 = .ok (.return_, 1) := by decide +kernel
theorem d_BF_isWord_0 : decode (kB k_BF_isWord) 0 = .ok (.iload_n 0, 1) := by decide +kernel
theorem d_BF_isWord_1 : decode (kB k_BF_isWord) 1 = .ok (.ifCond .lt (13), 3) := by decide +kernel
theorem d_BF_isWord_4 : decode (kB k_BF_isWord) 4 = .ok (.iload_n 0, 1) := by decide +kernel
theorem d_BF_isWord_5 : decode (kB k_BF_isWord) 5 = .ok (.bipush 16, 2) := by decide +kernel
theorem d_BF_isWord_7 : decode (kB k_BF_isWord) 7 = .ok (.if_icmp .ge (7), 3) := by decide +kernel
theorem d_BF_isWord_10 : decode (kB k_BF_isWord) 10 = .ok (.iconst 1, 1) := by decide +kernel
theorem d_BF_isWord_11 : decode (kB k_BF_isWord) 11 = .ok (.goto (4), 3) := by decide +kernel
theorem d_BF_isWord_14 : decode (kB k_BF_isWord) 14 = .ok (.iconst 0, 1) := by decide +kernel
theorem d_BF_isWord_15 : decode (kB k_BF_isWord) 15 = .ok (.ireturn, 1) := by decide +kernel
theorem d_BF_isWithin_0 : decode (kB k_BF_isWithin) 0 = .ok (.dload_n 0, 1) := by decide +kernel
theorem d_BF_isWithin_1 : decode (kB k_BF_isWithin) 1 = .ok (.dconst 0, 1) := by decide +kernel
theorem d_BF_isWithin_2 : decode (kB k_BF_isWithin) 2 = .ok (.dcmp .l, 1) := by decide +kernel
theorem d_BF_isWithin_3 : decode (kB k_BF_isWithin) 3 = .ok (.ifCond .le (13), 3) := by decide +kernel
theorem d_BF_isWithin_6 : decode (kB k_BF_isWithin) 6 = .ok (.dload_n 0, 1) := by decide +kernel
theorem d_BF_isWithin_7 : decode (kB k_BF_isWithin) 7 = .ok (.dload_n 2, 1) := by decide +kernel
theorem d_BF_isWithin_8 : decode (kB k_BF_isWithin) 8 = .ok (.dcmp .g, 1) := by decide +kernel
theorem d_BF_isWithin_9 : decode (kB k_BF_isWithin) 9 = .ok (.ifCond .gt (7), 3) := by decide +kernel
theorem d_BF_isWithin_12 : decode (kB k_BF_isWithin) 12 = .ok (.iconst 1, 1) := by decide +kernel
theorem d_BF_isWithin_13 : decode (kB k_BF_isWithin) 13 = .ok (.goto (4), 3) := by decide +kernel
theorem d_BF_isWithin_16 : decode (kB k_BF_isWithin) 16 = .ok (.iconst 0, 1) := by decide +kernel
theorem d_BF_isWithin_17 : decode (kB k_BF_isWithin) 17 = .ok (.ireturn, 1) := by decide +kernel
theorem d_BF_isWindow_0 : decode (kB k_BF_isWindow) 0 = .ok (.iload_n 0, 1) := by decide +kernel
theorem d_BF_isWindow_1 : decode (kB k_BF_isWindow) 1 = .ok (.iconst 2, 1) := by decide +kernel
theorem d_BF_isWindow_2 : decode (kB k_BF_isWindow) 2 = .ok (.if_icmp .lt (12), 3) := by decide +kernel
theorem d_BF_isWindow_5 : decode (kB k_BF_isWindow) 5 = .ok (.iload_n 0, 1) := by decide +kernel
theorem d_BF_isWindow_6 : decode (kB k_BF_isWindow) 6 = .ok (.iconst 4, 1) := by decide +kernel
theorem d_BF_isWindow_7 : decode (kB k_BF_isWindow) 7 = .ok (.if_icmp .gt (7), 3) := by decide +kernel
theorem d_BF_isWindow_10 : decode (kB k_BF_isWindow) 10 = .ok (.iconst 1, 1) := by decide +kernel
theorem d_BF_isWindow_11 : decode (kB k_BF_isWindow) 11 = .ok (.goto (4), 3) := by decide +kernel
theorem d_BF_isWindow_14 : decode (kB k_BF_isWindow) 14 = .ok (.iconst 0, 1) := by decide +kernel
theorem d_BF_isWindow_15 : decode (kB k_BF_isWindow) 15 = .ok (.ireturn, 1) := by decide +kernel
theorem d_BF_hasHits_0 : decode (kB k_BF_hasHits) 0 = .ok (.iload_n 0, 1) := by decide +kernel
theorem d_BF_hasHits_1 : decode (kB k_BF_hasHits) 1 = .ok (.ifCond .lt (12), 3) := by decide +kernel
theorem d_BF_hasHits_4 : decode (kB k_BF_hasHits) 4 = .ok (.iload_n 0, 1) := by decide +kernel
theorem d_BF_hasHits_5 : decode (kB k_BF_hasHits) 5 = .ok (.iconst 4, 1) := by decide +kernel
theorem d_BF_hasHits_6 : decode (kB k_BF_hasHits) 6 = .ok (.if_icmp .gt (7), 3) := by decide +kernel
theorem d_BF_hasHits_9 : decode (kB k_BF_hasHits) 9 = .ok (.iconst 1, 1) := by decide +kernel
theorem d_BF_hasHits_10 : decode (kB k_BF_hasHits) 10 = .ok (.goto (4), 3) := by decide +kernel
theorem d_BF_hasHits_13 : decode (kB k_BF_hasHits) 13 = .ok (.iconst 0, 1) := by decide +kernel
theorem d_BF_hasHits_14 : decode (kB k_BF_hasHits) 14 = .ok (.ireturn, 1) := by decide +kernel
theorem d_BF_isNumberOf_0 : decode (kB k_BF_isNumberOf) 0 = .ok (.iload_n 0, 1) := by decide +kernel
theorem d_BF_isNumberOf_1 : decode (kB k_BF_isNumberOf) 1 = .ok (.tableswitch (103) (0) (11) #[63, 63, 68, 68, 101, 85, 85, 85, 85, 85, 101, 101], 63) := by decide +kernel
theorem d_BF_isNumberOf_64 : decode (kB k_BF_isNumberOf) 64 = .ok (.iload_n 1, 1) := by decide +kernel
theorem d_BF_isNumberOf_65 : decode (kB k_BF_isNumberOf) 65 = .ok (.invokestatic 68, 3) := by decide +kernel
theorem d_BF_isNumberOf_68 : decode (kB k_BF_isNumberOf) 68 = .ok (.ireturn, 1) := by decide +kernel
theorem d_BF_isNumberOf_69 : decode (kB k_BF_isNumberOf) 69 = .ok (.iload_n 1, 1) := by decide +kernel
theorem d_BF_isNumberOf_70 : decode (kB k_BF_isNumberOf) 70 = .ok (.iconst 1, 1) := by decide +kernel
theorem d_BF_isNumberOf_71 : decode (kB k_BF_isNumberOf) 71 = .ok (.if_icmp .lt (13), 3) := by decide +kernel
theorem d_BF_isNumberOf_74 : decode (kB k_BF_isNumberOf) 74 = .ok (.iload_n 1, 1) := by decide +kernel
theorem d_BF_isNumberOf_75 : decode (kB k_BF_isNumberOf) 75 = .ok (.bipush 24, 2) := by decide +kernel
theorem d_BF_isNumberOf_77 : decode (kB k_BF_isNumberOf) 77 = .ok (.if_icmp .gt (7), 3) := by decide +kernel
theorem d_BF_isNumberOf_80 : decode (kB k_BF_isNumberOf) 80 = .ok (.iconst 1, 1) := by decide +kernel
theorem d_BF_isNumberOf_81 : decode (kB k_BF_isNumberOf) 81 = .ok (.goto (4), 3) := by decide +kernel
theorem d_BF_isNumberOf_84 : decode (kB k_BF_isNumberOf) 84 = .ok (.iconst 0, 1) := by decide +kernel
theorem d_BF_isNumberOf_85 : decode (kB k_BF_isNumberOf) 85 = .ok (.ireturn, 1) := by decide +kernel
theorem d_BF_isNumberOf_86 : decode (kB k_BF_isNumberOf) 86 = .ok (.iload_n 1, 1) := by decide +kernel
theorem d_BF_isNumberOf_87 : decode (kB k_BF_isNumberOf) 87 = .ok (.iconst 1, 1) := by decide +kernel
theorem d_BF_isNumberOf_88 : decode (kB k_BF_isNumberOf) 88 = .ok (.if_icmp .lt (12), 3) := by decide +kernel
theorem d_BF_isNumberOf_91 : decode (kB k_BF_isNumberOf) 91 = .ok (.iload_n 1, 1) := by decide +kernel
theorem d_BF_isNumberOf_92 : decode (kB k_BF_isNumberOf) 92 = .ok (.iconst 4, 1) := by decide +kernel
theorem d_BF_isNumberOf_93 : decode (kB k_BF_isNumberOf) 93 = .ok (.if_icmp .gt (7), 3) := by decide +kernel
theorem d_BF_isNumberOf_96 : decode (kB k_BF_isNumberOf) 96 = .ok (.iconst 1, 1) := by decide +kernel
theorem d_BF_isNumberOf_97 : decode (kB k_BF_isNumberOf) 97 = .ok (.goto (4), 3) := by decide +kernel
theorem d_BF_isNumberOf_100 : decode (kB k_BF_isNumberOf) 100 = .ok (.iconst 0, 1) := by decide +kernel
theorem d_BF_isNumberOf_101 : decode (kB k_BF_isNumberOf) 101 = .ok (.ireturn, 1) := by decide +kernel
theorem d_BF_isNumberOf_102 : decode (kB k_BF_isNumberOf) 102 = .ok (.iconst 1, 1) := by decide +kernel
theorem d_BF_isNumberOf_103 : decode (kB k_BF_isNumberOf) 103 = .ok (.ireturn, 1) := by decide +kernel
theorem d_BF_isNumberOf_104 : decode (kB k_BF_isNumberOf) 104 = .ok (.iconst 0, 1) := by decide +kernel
theorem d_BF_isNumberOf_105 : decode (kB k_BF_isNumberOf) 105 = .ok (.ireturn, 1) := by decide +kernel
theorem d_BF_isWeightOf_0 : decode (kB k_BF_isWeightOf) 0 = .ok (.iload_n 0, 1) := by decide +kernel
theorem d_BF_isWeightOf_1 : decode (kB k_BF_isWeightOf) 1 = .ok (.invokestatic 242, 3) := by decide +kernel
theorem d_BF_isWeightOf_4 : decode (kB k_BF_isWeightOf) 4 = .ok (.ifCond .eq (39), 3) := by decide +kernel
theorem d_BF_isWeightOf_7 : decode (kB k_BF_isWeightOf) 7 = .ok (.dload_n 1, 1) := by decide +kernel
theorem d_BF_isWeightOf_8 : decode (kB k_BF_isWeightOf) 8 = .ok (.dconst 1, 1) := by decide +kernel
theorem d_BF_isWeightOf_9 : decode (kB k_BF_isWeightOf) 9 = .ok (.dcmp .l, 1) := by decide +kernel
theorem d_BF_isWeightOf_10 : decode (kB k_BF_isWeightOf) 10 = .ok (.ifCond .eq (27), 3) := by decide +kernel
theorem d_BF_isWeightOf_13 : decode (kB k_BF_isWeightOf) 13 = .ok (.dload_n 1, 1) := by decide +kernel
theorem d_BF_isWeightOf_14 : decode (kB k_BF_isWeightOf) 14 = .ok (.ldc2_w 245, 3) := by decide +kernel
theorem d_BF_isWeightOf_17 : decode (kB k_BF_isWeightOf) 17 = .ok (.dcmp .l, 1) := by decide +kernel
theorem d_BF_isWeightOf_18 : decode (kB k_BF_isWeightOf) 18 = .ok (.ifCond .eq (19), 3) := by decide +kernel
theorem d_BF_isWeightOf_21 : decode (kB k_BF_isWeightOf) 21 = .ok (.dload_n 1, 1) := by decide +kernel
theorem d_BF_isWeightOf_22 : decode (kB k_BF_isWeightOf) 22 = .ok (.ldc2_w 247, 3) := by decide +kernel
theorem d_BF_isWeightOf_25 : decode (kB k_BF_isWeightOf) 25 = .ok (.dcmp .l, 1) := by decide +kernel
theorem d_BF_isWeightOf_26 : decode (kB k_BF_isWeightOf) 26 = .ok (.ifCond .eq (11), 3) := by decide +kernel
theorem d_BF_isWeightOf_29 : decode (kB k_BF_isWeightOf) 29 = .ok (.dload_n 1, 1) := by decide +kernel
theorem d_BF_isWeightOf_30 : decode (kB k_BF_isWeightOf) 30 = .ok (.ldc2_w 249, 3) := by decide +kernel
theorem d_BF_isWeightOf_33 : decode (kB k_BF_isWeightOf) 33 = .ok (.dcmp .l, 1) := by decide +kernel
theorem d_BF_isWeightOf_34 : decode (kB k_BF_isWeightOf) 34 = .ok (.ifCond .ne (7), 3) := by decide +kernel
theorem d_BF_isWeightOf_37 : decode (kB k_BF_isWeightOf) 37 = .ok (.iconst 1, 1) := by decide +kernel
theorem d_BF_isWeightOf_38 : decode (kB k_BF_isWeightOf) 38 = .ok (.goto (4), 3) := by decide +kernel
theorem d_BF_isWeightOf_41 : decode (kB k_BF_isWeightOf) 41 = .ok (.iconst 0, 1) := by decide +kernel
theorem d_BF_isWeightOf_42 : decode (kB k_BF_isWeightOf) 42 = .ok (.ireturn, 1) := by decide +kernel
theorem d_BF_isWeightOf_43 : decode (kB k_BF_isWeightOf) 43 = .ok (.dload_n 1, 1) := by decide +kernel
theorem d_BF_isWeightOf_44 : decode (kB k_BF_isWeightOf) 44 = .ok (.ldc2_w 84, 3) := by decide +kernel
theorem d_BF_isWeightOf_47 : decode (kB k_BF_isWeightOf) 47 = .ok (.invokestatic 86, 3) := by decide +kernel
theorem d_BF_isWeightOf_50 : decode (kB k_BF_isWeightOf) 50 = .ok (.ireturn, 1) := by decide +kernel
