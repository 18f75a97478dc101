/-! what the bytes say (written by gen/names.py) -/
theorem d_NE_weightsOf_0 : decode (kB k_NE_weightsOf) 0 = .ok (.dconst 0, 1) := by decide +kernel
theorem d_NE_weightsOf_1 : decode (kB k_NE_weightsOf) 1 = .ok (.dstore_n 2, 1) := by decide +kernel
theorem d_NE_weightsOf_2 : decode (kB k_NE_weightsOf) 2 = .ok (.iconst 0, 1) := by decide +kernel
theorem d_NE_weightsOf_3 : decode (kB k_NE_weightsOf) 3 = .ok (.istore 4, 2) := by decide +kernel
theorem d_NE_weightsOf_5 : decode (kB k_NE_weightsOf) 5 = .ok (.iload 4, 2) := by decide +kernel
theorem d_NE_weightsOf_7 : decode (kB k_NE_weightsOf) 7 = .ok (.aload_n 0, 1) := by decide +kernel
theorem d_NE_weightsOf_8 : decode (kB k_NE_weightsOf) 8 = .ok (.getfield 38, 3) := by decide +kernel
theorem d_NE_weightsOf_11 : decode (kB k_NE_weightsOf) 11 = .ok (.iload_n 1, 1) := by decide +kernel
theorem d_NE_weightsOf_12 : decode (kB k_NE_weightsOf) 12 = .ok (.invokevirtual 105, 3) := by decide +kernel
theorem d_NE_weightsOf_15 : decode (kB k_NE_weightsOf) 15 = .ok (.if_icmp .ge (19), 3) := by decide +kernel
theorem d_NE_weightsOf_18 : decode (kB k_NE_weightsOf) 18 = .ok (.dload_n 2, 1) := by decide +kernel
theorem d_NE_weightsOf_19 : decode (kB k_NE_weightsOf) 19 = .ok (.aload_n 0, 1) := by decide +kernel
theorem d_NE_weightsOf_20 : decode (kB k_NE_weightsOf) 20 = .ok (.iload_n 1, 1) := by decide +kernel
theorem d_NE_weightsOf_21 : decode (kB k_NE_weightsOf) 21 = .ok (.iload 4, 2) := by decide +kernel
theorem d_NE_weightsOf_23 : decode (kB k_NE_weightsOf) 23 = .ok (.invokevirtual 155, 3) := by decide +kernel
theorem d_NE_weightsOf_26 : decode (kB k_NE_weightsOf) 26 = .ok (.dadd, 1) := by decide +kernel
theorem d_NE_weightsOf_27 : decode (kB k_NE_weightsOf) 27 = .ok (.dstore_n 2, 1) := by decide +kernel
theorem d_NE_weightsOf_28 : decode (kB k_NE_weightsOf) 28 = .ok (.iinc 4 1, 3) := by decide +kernel
theorem d_NE_weightsOf_31 : decode (kB k_NE_weightsOf) 31 = .ok (.goto (-26), 3) := by decide +kernel
theorem d_NE_weightsOf_34 : decode (kB k_NE_weightsOf) 34 = .ok (.dload_n 2, 1) := by decide +kernel
theorem d_NE_weightsOf_35 : decode (kB k_NE_weightsOf) 35 = .ok (.dreturn, 1) := by decide +kernel
theorem d_RA_init_0 : decode (kB k_RA_init) 0 = .ok (.aload_n 0, 1) := by decide +kernel
theorem d_RA_init_1 : decode (kB k_RA_init) 1 = .ok (.invokespecial 3, 3) := by decide +kernel
theorem d_RA_init_4 : decode (kB k_RA_init) 4 = .ok (.aload_n 0, 1) := by decide +kernel
theorem d_RA_init_5 : decode (kB k_RA_init) 5 = .ok (.bipush 12, 2) := by decide +kernel
theorem d_RA_init_7 : decode (kB k_RA_init) 7 = .ok (.newarray .int, 2) := by decide +kernel
theorem d_RA_init_9 : decode (kB k_RA_init) 9 = .ok (.putfield 9, 3) := by decide +kernel
theorem d_RA_init_12 : decode (kB k_RA_init) 12 = .ok (.aload_n 0, 1) := by decide +kernel
theorem d_RA_init_13 : decode (kB k_RA_init) 13 = .ok (.bipush 12, 2) := by decide +kernel
theorem d_RA_init_15 : decode (kB k_RA_init) 15 = .ok (.newarray .double, 2) := by decide +kernel
theorem d_RA_init_17 : decode (kB k_RA_init) 17 = .ok (.putfield 15, 3) := by decide +kernel
theorem d_RA_init_20 : decode (kB k_RA_init) 20 = .ok (.aload_n 0, 1) := by decide +kernel
theorem d_RA_init_21 : decode (kB k_RA_init) 21 = .ok (.iconst 0, 1) := by decide +kernel
theorem d_RA_init_22 : decode (kB k_RA_init) 22 = .ok (.putfield 19, 3) := by decide +kernel
theorem d_RA_init_25 : decode (kB k_RA_init) 25 = .ok (.aload_n 0, 1) := by decide +kernel
theorem d_RA_init_26 : decode (kB k_RA_init) 26 = .ok (.iconst 0, 1) := by decide +kernel
theorem d_RA_init_27 : decode (kB k_RA_init) 27 = .ok (.putfield 23, 3) := by decide +kernel
theorem d_RA_init_30 : decode (kB k_RA_init) 30 = .ok (.return_, 1) := by decide +kernel
theorem d_RA_size_0 : decode (kB k_RA_size) 0 = .ok (.aload_n 0, 1) := by decide +kernel
theorem d_RA_size_1 : decode (kB k_RA_size) 1 = .ok (.getfield 19, 3) := by decide +kernel
theorem d_RA_size_4 : decode (kB k_RA_size) 4 = .ok (.ireturn, 1) := by decide +kernel
theorem d_RA_leftOut_0 : decode (kB k_RA_leftOut) 0 = .ok (.aload_n 0, 1) := by decide +kernel
theorem d_RA_leftOut_1 : decode (kB k_RA_leftOut) 1 = .ok (.getfield 23, 3) := by decide +kernel
theorem d_RA_leftOut_4 : decode (kB k_RA_leftOut) 4 = .ok (.ireturn, 1) := by decide +kernel
theorem d_RA_has_0 : decode (kB k_RA_has) 0 = .ok (.iload_n 1, 1) := by decide +kernel
theorem d_RA_has_1 : decode (kB k_RA_has) 1 = .ok (.ifCond .lt (15), 3) := by decide +kernel
theorem d_RA_has_4 : decode (kB k_RA_has) 4 = .ok (.iload_n 1, 1) := by decide +kernel
theorem d_RA_has_5 : decode (kB k_RA_has) 5 = .ok (.aload_n 0, 1) := by decide +kernel
theorem d_RA_has_6 : decode (kB k_RA_has) 6 = .ok (.getfield 19, 3) := by decide +kernel
theorem d_RA_has_9 : decode (kB k_RA_has) 9 = .ok (.if_icmp .ge (7), 3) := by decide +kernel
theorem d_RA_has_12 : decode (kB k_RA_has) 12 = .ok (.iconst 1, 1) := by decide +kernel
theorem d_RA_has_13 : decode (kB k_RA_has) 13 = .ok (.goto (4), 3) := by decide +kernel
theorem d_RA_has_16 : decode (kB k_RA_has) 16 = .ok (.iconst 0, 1) := by decide +kernel
theorem d_RA_has_17 : decode (kB k_RA_has) 17 = .ok (.ireturn, 1) := by decide +kernel
theorem d_RA_documentAt_0 : decode (kB k_RA_documentAt) 0 = .ok (.aload_n 0, 1) := by decide +kernel
theorem d_RA_documentAt_1 : decode (kB k_RA_documentAt) 1 = .ok (.getfield 9, 3) := by decide +kernel
theorem d_RA_documentAt_4 : decode (kB k_RA_documentAt) 4 = .ok (.iload_n 1, 1) := by decide +kernel
theorem d_RA_documentAt_5 : decode (kB k_RA_documentAt) 5 = .ok (.iaload, 1) := by decide +kernel
theorem d_RA_documentAt_6 : decode (kB k_RA_documentAt) 6 = .ok (.ireturn, 1) := by decide +kernel
theorem d_RA_beliefAt_0 : decode (kB k_RA_beliefAt) 0 = .ok (.aload_n 0, 1) := by decide +kernel
theorem d_RA_beliefAt_1 : decode (kB k_RA_beliefAt) 1 = .ok (.getfield 15, 3) := by decide +kernel
theorem d_RA_beliefAt_4 : decode (kB k_RA_beliefAt) 4 = .ok (.iload_n 1, 1) := by decide +kernel
theorem d_RA_beliefAt_5 : decode (kB k_RA_beliefAt) 5 = .ok (.daload, 1) := by decide +kernel
theorem d_RA_beliefAt_6 : decode (kB k_RA_beliefAt) 6 = .ok (.dreturn, 1) := by decide +kernel
theorem d_RA_empty_0 : decode (kB k_RA_empty) 0 = .ok (.aload_n 0, 1) := by decide +kernel
theorem d_RA_empty_1 : decode (kB k_RA_empty) 1 = .ok (.iconst 0, 1) := by decide +kernel
theorem d_RA_empty_2 : decode (kB k_RA_empty) 2 = .ok (.putfield 19, 3) := by decide +kernel
theorem d_RA_empty_5 : decode (kB k_RA_empty) 5 = .ok (.aload_n 0, 1) := by decide +kernel
theorem d_RA_empty_6 : decode (kB k_RA_empty) 6 = .ok (.iconst 0, 1) := by decide +kernel
theorem d_RA_empty_7 : decode (kB k_RA_empty) 7 = .ok (.putfield 23, 3) := by decide +kernel
theorem d_RA_empty_10 : decode (kB k_RA_empty) 10 = .ok (.return_, 1) := by decide +kernel
theorem d_RA_leaveOut_0 : decode (kB k_RA_leaveOut) 0 = .ok (.aload_n 0, 1) := by decide +kernel
theorem d_RA_leaveOut_1 : decode (kB k_RA_leaveOut) 1 = .ok (.dup, 1) := by decide +kernel
theorem d_RA_leaveOut_2 : decode (kB k_RA_leaveOut) 2 = .ok (.getfield 23, 3) := by decide +kernel
theorem d_RA_leaveOut_5 : decode (kB k_RA_leaveOut) 5 = .ok (.iconst 1, 1) := by decide +kernel
theorem d_RA_leaveOut_6 : decode (kB k_RA_leaveOut) 6 = .ok (.iadd, 1) := by decide +kernel
theorem d_RA_leaveOut_7 : decode (kB k_RA_leaveOut) 7 = .ok (.putfield 23, 3) := by decide +kernel
theorem d_RA_leaveOut_10 : decode (kB k_RA_leaveOut) 10 = .ok (.return_, 1) := by decide +kernel
theorem d_RA_put_0 : decode (kB k_RA_put) 0 = .ok (.aload_n 0, 1) := by decide +kernel
theorem d_RA_put_1 : decode (kB k_RA_put) 1 = .ok (.getfield 19, 3) := by decide +kernel
theorem d_RA_put_4 : decode (kB k_RA_put) 4 = .ok (.istore 4, 2) := by decide +kernel
theorem d_RA_put_6 : decode (kB k_RA_put) 6 = .ok (.iload 4, 2) := by decide +kernel
theorem d_RA_put_8 : decode (kB k_RA_put) 8 = .ok (.ifCond .le (55), 3) := by decide +kernel
theorem d_RA_put_11 : decode (kB k_RA_put) 11 = .ok (.aload_n 0, 1) := by decide +kernel
theorem d_RA_put_12 : decode (kB k_RA_put) 12 = .ok (.getfield 15, 3) := by decide +kernel
theorem d_RA_put_15 : decode (kB k_RA_put) 15 = .ok (.iload 4, 2) := by decide +kernel
theorem d_RA_put_17 : decode (kB k_RA_put) 17 = .ok (.iconst 1, 1) := by decide +kernel
theorem d_RA_put_18 : decode (kB k_RA_put) 18 = .ok (.isub, 1) := by decide +kernel
theorem d_RA_put_19 : decode (kB k_RA_put) 19 = .ok (.daload, 1) := by decide +kernel
theorem d_RA_put_20 : decode (kB k_RA_put) 20 = .ok (.dload_n 2, 1) := by decide +kernel
theorem d_RA_put_21 : decode (kB k_RA_put) 21 = .ok (.dcmp .g, 1) := by decide +kernel
theorem d_RA_put_22 : decode (kB k_RA_put) 22 = .ok (.ifCond .ge (41), 3) := by decide +kernel
theorem d_RA_put_25 : decode (kB k_RA_put) 25 = .ok (.aload_n 0, 1) := by decide +kernel
theorem d_RA_put_26 : decode (kB k_RA_put) 26 = .ok (.getfield 9, 3) := by decide +kernel
theorem d_RA_put_29 : decode (kB k_RA_put) 29 = .ok (.iload 4, 2) := by decide +kernel
theorem d_RA_put_31 : decode (kB k_RA_put) 31 = .ok (.aload_n 0, 1) := by decide +kernel
theorem d_RA_put_32 : decode (kB k_RA_put) 32 = .ok (.getfield 9, 3) := by decide +kernel
theorem d_RA_put_35 : decode (kB k_RA_put) 35 = .ok (.iload 4, 2) := by decide +kernel
theorem d_RA_put_37 : decode (kB k_RA_put) 37 = .ok (.iconst 1, 1) := by decide +kernel
theorem d_RA_put_38 : decode (kB k_RA_put) 38 = .ok (.isub, 1) := by decide +kernel
theorem d_RA_put_39 : decode (kB k_RA_put) 39 = .ok (.iaload, 1) := by decide +kernel
theorem d_RA_put_40 : decode (kB k_RA_put) 40 = .ok (.iastore, 1) := by decide +kernel
theorem d_RA_put_41 : decode (kB k_RA_put) 41 = .ok (.aload_n 0, 1) := by decide +kernel
theorem d_RA_put_42 : decode (kB k_RA_put) 42 = .ok (.getfield 15, 3) := by decide +kernel
theorem d_RA_put_45 : decode (kB k_RA_put) 45 = .ok (.iload 4, 2) := by decide +kernel
theorem d_RA_put_47 : decode (kB k_RA_put) 47 = .ok (.aload_n 0, 1) := by decide +kernel
theorem d_RA_put_48 : decode (kB k_RA_put) 48 = .ok (.getfield 15, 3) := by decide +kernel
theorem d_RA_put_51 : decode (kB k_RA_put) 51 = .ok (.iload 4, 2) := by decide +kernel
theorem d_RA_put_53 : decode (kB k_RA_put) 53 = .ok (.iconst 1, 1) := by decide +kernel
theorem d_RA_put_54 : decode (kB k_RA_put) 54 = .ok (.isub, 1) := by decide +kernel
theorem d_RA_put_55 : decode (kB k_RA_put) 55 = .ok (.daload, 1) := by decide +kernel
theorem d_RA_put_56 : decode (kB k_RA_put) 56 = .ok (.dastore, 1) := by decide +kernel
theorem d_RA_put_57 : decode (kB k_RA_put) 57 = .ok (.iinc 4 (-1), 3) := by decide +kernel
theorem d_RA_put_60 : decode (kB k_RA_put) 60 = .ok (.goto (-54), 3) := by decide +kernel
theorem d_RA_put_63 : decode (kB k_RA_put) 63 = .ok (.aload_n 0, 1) := by decide +kernel
theorem d_RA_put_64 : decode (kB k_RA_put) 64 = .ok (.getfield 9, 3) := by decide +kernel
theorem d_RA_put_67 : decode (kB k_RA_put) 67 = .ok (.iload 4, 2) := by decide +kernel
theorem d_RA_put_69 : decode (kB k_RA_put) 69 = .ok (.iload_n 1, 1) := by decide +kernel
theorem d_RA_put_70 : decode (kB k_RA_put) 70 = .ok (.iastore, 1) := by decide +kernel
theorem d_RA_put_71 : decode (kB k_RA_put) 71 = .ok (.aload_n 0, 1) := by decide +kernel
theorem d_RA_put_72 : decode (kB k_RA_put) 72 = .ok (.getfield 15, 3) := by decide +kernel
theorem d_RA_put_75 : decode (kB k_RA_put) 75 = .ok (.iload 4, 2) := by decide +kernel
theorem d_RA_put_77 : decode (kB k_RA_put) 77 = .ok (.dload_n 2, 1) := by decide +kernel
theorem d_RA_put_78 : decode (kB k_RA_put) 78 = .ok (.dastore, 1) := by decide +kernel
theorem d_RA_put_79 : decode (kB k_RA_put) 79 = .ok (.aload_n 0, 1) := by decide +kernel
theorem d_RA_put_80 : decode (kB k_RA_put) 80 = .ok (.dup, 1) := by decide +kernel
theorem d_RA_put_81 : decode (kB k_RA_put) 81 = .ok (.getfield 19, 3) := by decide +kernel
theorem d_RA_put_84 : decode (kB k_RA_put) 84 = .ok (.iconst 1, 1) := by decide +kernel
theorem d_RA_put_85 : decode (kB k_RA_put) 85 = .ok (.iadd, 1) := by decide +kernel
theorem d_RA_put_86 : decode (kB k_RA_put) 86 = .ok (.putfield 19, 3) := by decide +kernel
theorem d_RA_put_89 : decode (kB k_RA_put) 89 = .ok (.return_, 1) := by decide +kernel
theorem d_RA_keep_0 : decode (kB k_RA_keep) 0 = .ok (.aload_n 0, 1) := by decide +kernel
theorem d_RA_keep_1 : decode (kB k_RA_keep) 1 = .ok (.aload_n 0, 1) := by decide +kernel
theorem d_RA_keep_2 : decode (kB k_RA_keep) 2 = .ok (.getfield 19, 3) := by decide +kernel
theorem d_RA_keep_5 : decode (kB k_RA_keep) 5 = .ok (.iload_n 1, 1) := by decide +kernel
theorem d_RA_keep_6 : decode (kB k_RA_keep) 6 = .ok (.invokestatic 26, 3) := by decide +kernel
theorem d_RA_keep_9 : decode (kB k_RA_keep) 9 = .ok (.putfield 19, 3) := by decide +kernel
theorem d_RA_keep_12 : decode (kB k_RA_keep) 12 = .ok (.aload_n 0, 1) := by decide +kernel
theorem d_RA_keep_13 : decode (kB k_RA_keep) 13 = .ok (.getfield 19, 3) := by decide +kernel
theorem d_RA_keep_16 : decode (kB k_RA_keep) 16 = .ok (.ireturn, 1) := by decide +kernel
theorem d_MK_init_0 : decode (kB k_MK_init) 0 = .ok (.aload_n 0, 1) := by decide +kernel
theorem d_MK_init_1 : decode (kB k_MK_init) 1 = .ok (.invokespecial 3, 3) := by decide +kernel
theorem d_MK_init_4 : decode (kB k_MK_init) 4 = .ok (.aload_n 0, 1) := by decide +kernel
theorem d_MK_init_5 : decode (kB k_MK_init) 5 = .ok (.bipush 16, 2) := by decide +kernel
theorem d_MK_init_7 : decode (kB k_MK_init) 7 = .ok (.newarray .double, 2) := by decide +kernel
theorem d_MK_init_9 : decode (kB k_MK_init) 9 = .ok (.putfield 9, 3) := by decide +kernel
theorem d_MK_init_12 : decode (kB k_MK_init) 12 = .ok (.aload_n 0, 1) := by decide +kernel
theorem d_MK_init_13 : decode (kB k_MK_init) 13 = .ok (.iconst 4, 1) := by decide +kernel
theorem d_MK_init_14 : decode (kB k_MK_init) 14 = .ok (.newarray .int, 2) := by decide +kernel
theorem d_MK_init_16 : decode (kB k_MK_init) 16 = .ok (.putfield 15, 3) := by decide +kernel
theorem d_MK_init_19 : decode (kB k_MK_init) 19 = .ok (.aload_n 0, 1) := by decide +kernel
theorem d_MK_init_20 : decode (kB k_MK_init) 20 = .ok (.iconst 4, 1) := by decide +kernel
theorem d_MK_init_21 : decode (kB k_MK_init) 21 = .ok (.newarray .double, 2) := by decide +kernel
theorem d_MK_init_23 : decode (kB k_MK_init) 23 = .ok (.putfield 19, 3) := by decide +kernel
theorem d_MK_init_26 : decode (kB k_MK_init) 26 = .ok (.aload_n 0, 1) := by decide +kernel
theorem d_MK_init_27 : decode (kB k_MK_init) 27 = .ok (.iconst 0, 1) := by decide +kernel
theorem d_MK_init_28 : decode (kB k_MK_init) 28 = .ok (.putfield 22, 3) := by decide +kernel
theorem d_MK_init_31 : decode (kB k_MK_init) 31 = .ok (.aload_n 0, 1) := by decide +kernel
theorem d_MK_init_32 : decode (kB k_MK_init) 32 = .ok (.aload_n 1, 1) := by decide +kernel
theorem d_MK_init_33 : decode (kB k_MK_init) 33 = .ok (.putfield 26, 3) := by decide +kernel
theorem d_MK_init_36 : decode (kB k_MK_init) 36 = .ok (.aload_n 0, 1) := by decide +kernel
theorem d_MK_init_37 : decode (kB k_MK_init) 37 = .ok (.aload_n 2, 1) := by decide +kernel
theorem d_MK_init_38 : decode (kB k_MK_init) 38 = .ok (.putfield 30, 3) := by decide +kernel
theorem d_MK_init_41 : decode (kB k_MK_init) 41 = .ok (.return_, 1) := by decide +kernel
theorem d_MK_choose_0 : decode (kB k_MK_choose) 0 = .ok (.iconst 0, 1) := by decide +kernel
theorem d_MK_choose_1 : decode (kB k_MK_choose) 1 = .ok (.istore_n 2, 1) := by decide +kernel
theorem d_MK_choose_2 : decode (kB k_MK_choose) 2 = .ok (.iload_n 2, 1) := by decide +kernel
theorem d_MK_choose_3 : decode (kB k_MK_choose) 3 = .ok (.bipush 16, 2) := by decide +kernel
theorem d_MK_choose_5 : decode (kB k_MK_choose) 5 = .ok (.if_icmp .ge (20), 3) := by decide +kernel
theorem d_MK_choose_8 : decode (kB k_MK_choose) 8 = .ok (.aload_n 0, 1) := by decide +kernel
theorem d_MK_choose_9 : decode (kB k_MK_choose) 9 = .ok (.getfield 9, 3) := by decide +kernel
theorem d_MK_choose_12 : decode (kB k_MK_choose) 12 = .ok (.iload_n 2, 1) := by decide +kernel
theorem d_MK_choose_13 : decode (kB k_MK_choose) 13 = .ok (.aload_n 0, 1) := by decide +kernel
theorem d_MK_choose_14 : decode (kB k_MK_choose) 14 = .ok (.iload_n 2, 1) := by decide +kernel
theorem d_MK_choose_15 : decode (kB k_MK_choose) 15 = .ok (.invokevirtual 34, 3) := by decide +kernel
theorem d_MK_choose_18 : decode (kB k_MK_choose) 18 = .ok (.dastore, 1) := by decide +kernel
theorem d_MK_choose_19 : decode (kB k_MK_choose) 19 = .ok (.iinc 2 1, 3) := by decide +kernel
theorem d_MK_choose_22 : decode (kB k_MK_choose) 22 = .ok (.goto (-20), 3) := by decide +kernel
theorem d_MK_choose_25 : decode (kB k_MK_choose) 25 = .ok (.aload_n 0, 1) := by decide +kernel
theorem d_MK_choose_26 : decode (kB k_MK_choose) 26 = .ok (.iconst 0, 1) := by decide +kernel
theorem d_MK_choose_27 : decode (kB k_MK_choose) 27 = .ok (.putfield 22, 3) := by decide +kernel
theorem d_MK_choose_30 : decode (kB k_MK_choose) 30 = .ok (.iconst 0, 1) := by decide +kernel
theorem d_MK_choose_31 : decode (kB k_MK_choose) 31 = .ok (.istore_n 2, 1) := by decide +kernel
theorem d_MK_choose_32 : decode (kB k_MK_choose) 32 = .ok (.iload_n 2, 1) := by decide +kernel
theorem d_MK_choose_33 : decode (kB k_MK_choose) 33 = .ok (.iload_n 1, 1) := by decide +kernel
theorem d_MK_choose_34 : decode (kB k_MK_choose) 34 = .ok (.if_icmp .ge (13), 3) := by decide +kernel
theorem d_MK_choose_37 : decode (kB k_MK_choose) 37 = .ok (.aload_n 0, 1) := by decide +kernel
theorem d_MK_choose_38 : decode (kB k_MK_choose) 38 = .ok (.invokevirtual 38, 3) := by decide +kernel
theorem d_MK_choose_41 : decode (kB k_MK_choose) 41 = .ok (.iinc 2 1, 3) := by decide +kernel
theorem d_MK_choose_44 : decode (kB k_MK_choose) 44 = .ok (.goto (-12), 3) := by decide +kernel
theorem d_MK_choose_47 : decode (kB k_MK_choose) 47 = .ok (.return_, 1) := by decide +kernel
theorem d_MK_write_0 : decode (kB k_MK_write) 0 = .ok (.aload_n 1, 1) := by decide +kernel
theorem d_MK_write_1 : decode (kB k_MK_write) 1 = .ok (.invokevirtual 41, 3) := by decide +kernel
theorem d_MK_write_4 : decode (kB k_MK_write) 4 = .ok (.aload_n 0, 1) := by decide +kernel
theorem d_MK_write_5 : decode (kB k_MK_write) 5 = .ok (.getfield 22, 3) := by decide +kernel
theorem d_MK_write_8 : decode (kB k_MK_write) 8 = .ok (.iconst 1, 1) := by decide +kernel
theorem d_MK_write_9 : decode (kB k_MK_write) 9 = .ok (.if_icmp .le (15), 3) := by decide +kernel
theorem d_MK_write_12 : decode (kB k_MK_write) 12 = .ok (.aload_n 1, 1) := by decide +kernel
theorem d_MK_write_13 : decode (kB k_MK_write) 13 = .ok (.bipush 9, 2) := by decide +kernel
theorem d_MK_write_15 : decode (kB k_MK_write) 15 = .ok (.aload_n 0, 1) := by decide +kernel
theorem d_MK_write_16 : decode (kB k_MK_write) 16 = .ok (.getfield 22, 3) := by decide +kernel
theorem d_MK_write_19 : decode (kB k_MK_write) 19 = .ok (.dconst 1, 1) := by decide +kernel
theorem d_MK_write_20 : decode (kB k_MK_write) 20 = .ok (.invokevirtual 46, 3) := by decide +kernel
theorem d_MK_write_23 : decode (kB k_MK_write) 23 = .ok (.pop, 1) := by decide +kernel
theorem d_MK_write_24 : decode (kB k_MK_write) 24 = .ok (.iconst 0, 1) := by decide +kernel
theorem d_MK_write_25 : decode (kB k_MK_write) 25 = .ok (.istore_n 2, 1) := by decide +kernel
theorem d_MK_write_26 : decode (kB k_MK_write) 26 = .ok (.iload_n 2, 1) := by decide +kernel
theorem d_MK_write_27 : decode (kB k_MK_write) 27 = .ok (.aload_n 0, 1) := by decide +kernel
theorem d_MK_write_28 : decode (kB k_MK_write) 28 = .ok (.getfield 22, 3) := by decide +kernel
theorem d_MK_write_31 : decode (kB k_MK_write) 31 = .ok (.if_icmp .ge (27), 3) := by decide +kernel
theorem d_MK_write_34 : decode (kB k_MK_write) 34 = .ok (.aload_n 1, 1) := by decide +kernel
theorem d_MK_write_35 : decode (kB k_MK_write) 35 = .ok (.iconst 0, 1) := by decide +kernel
theorem d_MK_write_36 : decode (kB k_MK_write) 36 = .ok (.aload_n 0, 1) := by decide +kernel
theorem d_MK_write_37 : decode (kB k_MK_write) 37 = .ok (.getfield 15, 3) := by decide +kernel
theorem d_MK_write_40 : decode (kB k_MK_write) 40 = .ok (.iload_n 2, 1) := by decide +kernel
theorem d_MK_write_41 : decode (kB k_MK_write) 41 = .ok (.iaload, 1) := by decide +kernel
theorem d_MK_write_42 : decode (kB k_MK_write) 42 = .ok (.aload_n 0, 1) := by decide +kernel
theorem d_MK_write_43 : decode (kB k_MK_write) 43 = .ok (.getfield 19, 3) := by decide +kernel
theorem d_MK_write_46 : decode (kB k_MK_write) 46 = .ok (.iload_n 2, 1) := by decide +kernel
theorem d_MK_write_47 : decode (kB k_MK_write) 47 = .ok (.daload, 1) := by decide +kernel
theorem d_MK_write_48 : decode (kB k_MK_write) 48 = .ok (.invokevirtual 46, 3) := by decide +kernel
theorem d_MK_write_51 : decode (kB k_MK_write) 51 = .ok (.pop, 1) := by decide +kernel
theorem d_MK_write_52 : decode (kB k_MK_write) 52 = .ok (.iinc 2 1, 3) := by decide +kernel
theorem d_MK_write_55 : decode (kB k_MK_write) 55 = .ok (.goto (-29), 3) := by decide +kernel
theorem d_MK_write_58 : decode (kB k_MK_write) 58 = .ok (.return_, 1) := by decide +kernel
theorem d_MK_sumOf_0 : decode (kB k_MK_sumOf) 0 = .ok (.dconst 0, 1) := by decide +kernel
theorem d_MK_sumOf_1 : decode (kB k_MK_sumOf) 1 = .ok (.dstore_n 2, 1) := by decide +kernel
theorem d_MK_sumOf_2 : decode (kB k_MK_sumOf) 2 = .ok (.iconst 0, 1) := by decide +kernel
theorem d_MK_sumOf_3 : decode (kB k_MK_sumOf) 3 = .ok (.istore 4, 2) := by decide +kernel
theorem d_MK_sumOf_5 : decode (kB k_MK_sumOf) 5 = .ok (.iload 4, 2) := by decide +kernel
theorem d_MK_sumOf_7 : decode (kB k_MK_sumOf) 7 = .ok (.aload_n 0, 1) := by decide +kernel
theorem d_MK_sumOf_8 : decode (kB k_MK_sumOf) 8 = .ok (.getfield 30, 3) := by decide +kernel
theorem d_MK_sumOf_11 : decode (kB k_MK_sumOf) 11 = .ok (.invokevirtual 50, 3) := by decide +kernel
theorem d_MK_sumOf_14 : decode (kB k_MK_sumOf) 14 = .ok (.if_icmp .ge (57), 3) := by decide +kernel
theorem d_MK_sumOf_17 : decode (kB k_MK_sumOf) 17 = .ok (.aload_n 0, 1) := by decide +kernel
theorem d_MK_sumOf_18 : decode (kB k_MK_sumOf) 18 = .ok (.getfield 30, 3) := by decide +kernel
theorem d_MK_sumOf_21 : decode (kB k_MK_sumOf) 21 = .ok (.iload 4, 2) := by decide +kernel
theorem d_MK_sumOf_23 : decode (kB k_MK_sumOf) 23 = .ok (.invokevirtual 55, 3) := by decide +kernel
theorem d_MK_sumOf_26 : decode (kB k_MK_sumOf) 26 = .ok (.istore 5, 2) := by decide +kernel
theorem d_MK_sumOf_28 : decode (kB k_MK_sumOf) 28 = .ok (.dload_n 2, 1) := by decide +kernel
theorem d_MK_sumOf_29 : decode (kB k_MK_sumOf) 29 = .ok (.aload_n 0, 1) := by decide +kernel
theorem d_MK_sumOf_30 : decode (kB k_MK_sumOf) 30 = .ok (.getfield 30, 3) := by decide +kernel
theorem d_MK_sumOf_33 : decode (kB k_MK_sumOf) 33 = .ok (.iload 4, 2) := by decide +kernel
theorem d_MK_sumOf_35 : decode (kB k_MK_sumOf) 35 = .ok (.invokevirtual 59, 3) := by decide +kernel
theorem d_MK_sumOf_38 : decode (kB k_MK_sumOf) 38 = .ok (.aload_n 0, 1) := by decide +kernel
theorem d_MK_sumOf_39 : decode (kB k_MK_sumOf) 39 = .ok (.getfield 26, 3) := by decide +kernel
theorem d_MK_sumOf_42 : decode (kB k_MK_sumOf) 42 = .ok (.iload_n 1, 1) := by decide +kernel
theorem d_MK_sumOf_43 : decode (kB k_MK_sumOf) 43 = .ok (.iload 5, 2) := by decide +kernel
theorem d_MK_sumOf_45 : decode (kB k_MK_sumOf) 45 = .ok (.invokevirtual 62, 3) := by decide +kernel
theorem d_MK_sumOf_48 : decode (kB k_MK_sumOf) 48 = .ok (.i2d, 1) := by decide +kernel
theorem d_MK_sumOf_49 : decode (kB k_MK_sumOf) 49 = .ok (.aload_n 0, 1) := by decide +kernel
theorem d_MK_sumOf_50 : decode (kB k_MK_sumOf) 50 = .ok (.getfield 26, 3) := by decide +kernel
theorem d_MK_sumOf_53 : decode (kB k_MK_sumOf) 53 = .ok (.iload 5, 2) := by decide +kernel
theorem d_MK_sumOf_55 : decode (kB k_MK_sumOf) 55 = .ok (.invokevirtual 68, 3) := by decide +kernel
theorem d_MK_sumOf_58 : decode (kB k_MK_sumOf) 58 = .ok (.i2d, 1) := by decide +kernel
theorem d_MK_sumOf_59 : decode (kB k_MK_sumOf) 59 = .ok (.invokestatic 71, 3) := by decide +kernel
theorem d_MK_sumOf_62 : decode (kB k_MK_sumOf) 62 = .ok (.dmul, 1) := by decide +kernel
theorem d_MK_sumOf_63 : decode (kB k_MK_sumOf) 63 = .ok (.dadd, 1) := by decide +kernel
theorem d_MK_sumOf_64 : decode (kB k_MK_sumOf) 64 = .ok (.dstore_n 2, 1) := by decide +kernel
theorem d_MK_sumOf_65 : decode (kB k_MK_sumOf) 65 = .ok (.iinc 4 1, 3) := by decide +kernel
theorem d_MK_sumOf_68 : decode (kB k_MK_sumOf) 68 = .ok (.goto (-63), 3) := by decide +kernel
theorem d_MK_sumOf_71 : decode (kB k_MK_sumOf) 71 = .ok (.dload_n 2, 1) := by decide +kernel
theorem d_MK_sumOf_72 : decode (kB k_MK_sumOf) 72 = .ok (.dreturn, 1) := by decide +kernel
theorem d_MK_takeGreatest_0 : decode (kB k_MK_takeGreatest) 0 = .ok (.iconst 0, 1) := by decide +kernel
theorem d_MK_takeGreatest_1 : decode (kB k_MK_takeGreatest) 1 = .ok (.istore_n 1, 1) := by decide +kernel
theorem d_MK_takeGreatest_2 : decode (kB k_MK_takeGreatest) 2 = .ok (.iconst 1, 1) := by decide +kernel
theorem d_MK_takeGreatest_3 : decode (kB k_MK_takeGreatest) 3 = .ok (.istore_n 2, 1) := by decide +kernel
theorem d_MK_takeGreatest_4 : decode (kB k_MK_takeGreatest) 4 = .ok (.iload_n 2, 1) := by decide +kernel
theorem d_MK_takeGreatest_5 : decode (kB k_MK_takeGreatest) 5 = .ok (.bipush 16, 2) := by decide +kernel
theorem d_MK_takeGreatest_7 : decode (kB k_MK_takeGreatest) 7 = .ok (.if_icmp .ge (31), 3) := by decide +kernel
theorem d_MK_takeGreatest_10 : decode (kB k_MK_takeGreatest) 10 = .ok (.aload_n 0, 1) := by decide +kernel
theorem d_MK_takeGreatest_11 : decode (kB k_MK_takeGreatest) 11 = .ok (.getfield 9, 3) := by decide +kernel
theorem d_MK_takeGreatest_14 : decode (kB k_MK_takeGreatest) 14 = .ok (.iload_n 2, 1) := by decide +kernel
theorem d_MK_takeGreatest_15 : decode (kB k_MK_takeGreatest) 15 = .ok (.daload, 1) := by decide +kernel
theorem d_MK_takeGreatest_16 : decode (kB k_MK_takeGreatest) 16 = .ok (.aload_n 0, 1) := by decide +kernel
theorem d_MK_takeGreatest_17 : decode (kB k_MK_takeGreatest) 17 = .ok (.getfield 9, 3) := by decide +kernel
theorem d_MK_takeGreatest_20 : decode (kB k_MK_takeGreatest) 20 = .ok (.iload_n 1, 1) := by decide +kernel
theorem d_MK_takeGreatest_21 : decode (kB k_MK_takeGreatest) 21 = .ok (.daload, 1) := by decide +kernel
theorem d_MK_takeGreatest_22 : decode (kB k_MK_takeGreatest) 22 = .ok (.dcmp .l, 1) := by decide +kernel
theorem d_MK_takeGreatest_23 : decode (kB k_MK_takeGreatest) 23 = .ok (.ifCond .le (7), 3) := by decide +kernel
theorem d_MK_takeGreatest_26 : decode (kB k_MK_takeGreatest) 26 = .ok (.iload_n 2, 1) := by decide +kernel
theorem d_MK_takeGreatest_27 : decode (kB k_MK_takeGreatest) 27 = .ok (.goto (4), 3) := by decide +kernel
theorem d_MK_takeGreatest_30 : decode (kB k_MK_takeGreatest) 30 = .ok (.iload_n 1, 1) := by decide +kernel
theorem d_MK_takeGreatest_31 : decode (kB k_MK_takeGreatest) 31 = .ok (.istore_n 1, 1) := by decide +kernel
theorem d_MK_takeGreatest_32 : decode (kB k_MK_takeGreatest) 32 = .ok (.iinc 2 1, 3) := by decide +kernel
theorem d_MK_takeGreatest_35 : decode (kB k_MK_takeGreatest) 35 = .ok (.goto (-31), 3) := by decide +kernel
theorem d_MK_takeGreatest_38 : decode (kB k_MK_takeGreatest) 38 = .ok (.aload_n 0, 1) := by decide +kernel
theorem d_MK_takeGreatest_39 : decode (kB k_MK_takeGreatest) 39 = .ok (.getfield 9, 3) := by decide +kernel
theorem d_MK_takeGreatest_42 : decode (kB k_MK_takeGreatest) 42 = .ok (.iload_n 1, 1) := by decide +kernel
theorem d_MK_takeGreatest_43 : decode (kB k_MK_takeGreatest) 43 = .ok (.daload, 1) := by decide +kernel
theorem d_MK_takeGreatest_44 : decode (kB k_MK_takeGreatest) 44 = .ok (.dconst 0, 1) := by decide +kernel
theorem d_MK_takeGreatest_45 : decode (kB k_MK_takeGreatest) 45 = .ok (.dcmp .l, 1) := by decide +kernel
theorem d_MK_takeGreatest_46 : decode (kB k_MK_takeGreatest) 46 = .ok (.ifCond .le (45), 3) := by decide +kernel
theorem d_MK_takeGreatest_49 : decode (kB k_MK_takeGreatest) 49 = .ok (.aload_n 0, 1) := by decide +kernel
theorem d_MK_takeGreatest_50 : decode (kB k_MK_takeGreatest) 50 = .ok (.getfield 15, 3) := by decide +kernel
theorem d_MK_takeGreatest_53 : decode (kB k_MK_takeGreatest) 53 = .ok (.aload_n 0, 1) := by decide +kernel
theorem d_MK_takeGreatest_54 : decode (kB k_MK_takeGreatest) 54 = .ok (.getfield 22, 3) := by decide +kernel
theorem d_MK_takeGreatest_57 : decode (kB k_MK_takeGreatest) 57 = .ok (.iload_n 1, 1) := by decide +kernel
theorem d_MK_takeGreatest_58 : decode (kB k_MK_takeGreatest) 58 = .ok (.iastore, 1) := by decide +kernel
theorem d_MK_takeGreatest_59 : decode (kB k_MK_takeGreatest) 59 = .ok (.aload_n 0, 1) := by decide +kernel
theorem d_MK_takeGreatest_60 : decode (kB k_MK_takeGreatest) 60 = .ok (.getfield 19, 3) := by decide +kernel
theorem d_MK_takeGreatest_63 : decode (kB k_MK_takeGreatest) 63 = .ok (.aload_n 0, 1) := by decide +kernel
theorem d_MK_takeGreatest_64 : decode (kB k_MK_takeGreatest) 64 = .ok (.getfield 22, 3) := by decide +kernel
theorem d_MK_takeGreatest_67 : decode (kB k_MK_takeGreatest) 67 = .ok (.aload_n 0, 1) := by decide +kernel
theorem d_MK_takeGreatest_68 : decode (kB k_MK_takeGreatest) 68 = .ok (.getfield 9, 3) := by decide +kernel
theorem d_MK_takeGreatest_71 : decode (kB k_MK_takeGreatest) 71 = .ok (.iload_n 1, 1) := by decide +kernel
theorem d_MK_takeGreatest_72 : decode (kB k_MK_takeGreatest) 72 = .ok (.daload, 1) := by decide +kernel
theorem d_MK_takeGreatest_73 : decode (kB k_MK_takeGreatest) 73 = .ok (.dastore, 1) := by decide +kernel
theorem d_MK_takeGreatest_74 : decode (kB k_MK_takeGreatest) 74 = .ok (.aload_n 0, 1) := by decide +kernel
theorem d_MK_takeGreatest_75 : decode (kB k_MK_takeGreatest) 75 = .ok (.dup, 1) := by decide +kernel
theorem d_MK_takeGreatest_76 : decode (kB k_MK_takeGreatest) 76 = .ok (.getfield 22, 3) := by decide +kernel
theorem d_MK_takeGreatest_79 : decode (kB k_MK_takeGreatest) 79 = .ok (.iconst 1, 1) := by decide +kernel
theorem d_MK_takeGreatest_80 : decode (kB k_MK_takeGreatest) 80 = .ok (.iadd, 1) := by decide +kernel
theorem d_MK_takeGreatest_81 : decode (kB k_MK_takeGreatest) 81 = .ok (.putfield 22, 3) := by decide +kernel
theorem d_MK_takeGreatest_84 : decode (kB k_MK_takeGreatest) 84 = .ok (.aload_n 0, 1) := by decide +kernel
theorem d_MK_takeGreatest_85 : decode (kB k_MK_takeGreatest) 85 = .ok (.getfield 9, 3) := by decide +kernel
theorem d_MK_takeGreatest_88 : decode (kB k_MK_takeGreatest) 88 = .ok (.iload_n 1, 1) := by decide +kernel
theorem d_MK_takeGreatest_89 : decode (kB k_MK_takeGreatest) 89 = .ok (.dconst 0, 1) := by decide +kernel
theorem d_MK_takeGreatest_90 : decode (kB k_MK_takeGreatest) 90 = .ok (.dastore, 1) := by decide +kernel
theorem d_MK_takeGreatest_91 : decode (kB k_MK_takeGreatest) 91 = .ok (.return_, 1) := by decide +kernel
theorem d_MO_init_0 : decode (kB k_MO_init) 0 = .ok (.aload_n 0, 1) := by decide +kernel
theorem d_MO_init_1 : decode (kB k_MO_init) 1 = .ok (.invokespecial 1, 3) := by decide +kernel
theorem d_MO_init_4 : decode (kB k_MO_init) 4 = .ok (.aload_n 0, 1) := by decide +kernel
theorem d_MO_init_5 : decode (kB k_MO_init) 5 = .ok (.sipush 288, 3) := by decide +kernel
theorem d_MO_init_8 : decode (kB k_MO_init) 8 = .ok (.newarray .int, 2) := by decide +kernel
theorem d_MO_init_10 : decode (kB k_MO_init) 10 = .ok (.putfield 7, 3) := by decide +kernel
theorem d_MO_init_13 : decode (kB k_MO_init) 13 = .ok (.aload_n 0, 1) := by decide +kernel
theorem d_MO_init_14 : decode (kB k_MO_init) 14 = .ok (.bipush 12, 2) := by decide +kernel
theorem d_MO_init_16 : decode (kB k_MO_init) 16 = .ok (.newarray .int, 2) := by decide +kernel
theorem d_MO_init_18 : decode (kB k_MO_init) 18 = .ok (.putfield 13, 3) := by decide +kernel
theorem d_MO_init_21 : decode (kB k_MO_init) 21 = .ok (.aload_n 0, 1) := by decide +kernel
theorem d_MO_init_22 : decode (kB k_MO_init) 22 = .ok (.bipush 12, 2) := by decide +kernel
theorem d_MO_init_24 : decode (kB k_MO_init) 24 = .ok (.newarray .int, 2) := by decide +kernel
theorem d_MO_init_26 : decode (kB k_MO_init) 26 = .ok (.putfield 16, 3) := by decide +kernel
theorem d_MO_init_29 : decode (kB k_MO_init) 29 = .ok (.aload_n 0, 1) := by decide +kernel
theorem d_MO_init_30 : decode (kB k_MO_init) 30 = .ok (.bipush 24, 2) := by decide +kernel
theorem d_MO_init_32 : decode (kB k_MO_init) 32 = .ok (.newarray .int, 2) := by decide +kernel
theorem d_MO_init_34 : decode (kB k_MO_init) 34 = .ok (.putfield 19, 3) := by decide +kernel
theorem d_MO_init_37 : decode (kB k_MO_init) 37 = .ok (.aload_n 0, 1) := by decide +kernel
theorem d_MO_init_38 : decode (kB k_MO_init) 38 = .ok (.bipush 24, 2) := by decide +kernel
theorem d_MO_init_40 : decode (kB k_MO_init) 40 = .ok (.newarray .int, 2) := by decide +kernel
theorem d_MO_init_42 : decode (kB k_MO_init) 42 = .ok (.putfield 22, 3) := by decide +kernel
theorem d_MO_init_45 : decode (kB k_MO_init) 45 = .ok (.aload_n 0, 1) := by decide +kernel
theorem d_MO_init_46 : decode (kB k_MO_init) 46 = .ok (.bipush 24, 2) := by decide +kernel
theorem d_MO_init_48 : decode (kB k_MO_init) 48 = .ok (.newarray .double, 2) := by decide +kernel
theorem d_MO_init_50 : decode (kB k_MO_init) 50 = .ok (.putfield 25, 3) := by decide +kernel
theorem d_MO_init_53 : decode (kB k_MO_init) 53 = .ok (.aload_n 0, 1) := by decide +kernel
theorem d_MO_init_54 : decode (kB k_MO_init) 54 = .ok (.ldc2_w 29, 3) := by decide +kernel
theorem d_MO_init_57 : decode (kB k_MO_init) 57 = .ok (.putfield 31, 3) := by decide +kernel
theorem d_MO_init_60 : decode (kB k_MO_init) 60 = .ok (.aload_n 0, 1) := by decide +kernel
theorem d_MO_init_61 : decode (kB k_MO_init) 61 = .ok (.bipush 24, 2) := by decide +kernel
theorem d_MO_init_63 : decode (kB k_MO_init) 63 = .ok (.newarray .double, 2) := by decide +kernel
theorem d_MO_init_65 : decode (kB k_MO_init) 65 = .ok (.putfield 35, 3) := by decide +kernel
theorem d_MO_init_68 : decode (kB k_MO_init) 68 = .ok (.aload_n 0, 1) := by decide +kernel
theorem d_MO_init_69 : decode (kB k_MO_init) 69 = .ok (.bipush 24, 2) := by decide +kernel
theorem d_MO_init_71 : decode (kB k_MO_init) 71 = .ok (.newarray .double, 2) := by decide +kernel
theorem d_MO_init_73 : decode (kB k_MO_init) 73 = .ok (.putfield 38, 3) := by decide +kernel
theorem d_MO_init_76 : decode (kB k_MO_init) 76 = .ok (.aload_n 0, 1) := by decide +kernel
theorem d_MO_init_77 : decode (kB k_MO_init) 77 = .ok (.bipush 24, 2) := by decide +kernel
theorem d_MO_init_79 : decode (kB k_MO_init) 79 = .ok (.newarray .int, 2) := by decide +kernel
theorem d_MO_init_81 : decode (kB k_MO_init) 81 = .ok (.putfield 41, 3) := by decide +kernel
theorem d_MO_init_84 : decode (kB k_MO_init) 84 = .ok (.aload_n 0, 1) := by decide +kernel
theorem d_MO_init_85 : decode (kB k_MO_init) 85 = .ok (.bipush 12, 2) := by decide +kernel
theorem d_MO_init_87 : decode (kB k_MO_init) 87 = .ok (.newarray .int, 2) := by decide +kernel
theorem d_MO_init_89 : decode (kB k_MO_init) 89 = .ok (.putfield 44, 3) := by decide +kernel
theorem d_MO_init_92 : decode (kB k_MO_init) 92 = .ok (.aload_n 0, 1) := by decide +kernel
theorem d_MO_init_93 : decode (kB k_MO_init) 93 = .ok (.bipush 12, 2) := by decide +kernel
theorem d_MO_init_95 : decode (kB k_MO_init) 95 = .ok (.newarray .double, 2) := by decide +kernel
theorem d_MO_init_97 : decode (kB k_MO_init) 97 = .ok (.putfield 47, 3) := by decide +kernel
theorem d_MO_init_100 : decode (kB k_MO_init) 100 = .ok (.return_, 1) := by decide +kernel
theorem d_MO_thrown_0 : decode (kB k_MO_thrown) 0 = .ok (.aload_n 0, 1) := by decide +kernel
theorem d_MO_thrown_1 : decode (kB k_MO_thrown) 1 = .ok (.getfield 50, 3) := by decide +kernel
theorem d_MO_thrown_4 : decode (kB k_MO_thrown) 4 = .ok (.ireturn, 1) := by decide +kernel
theorem d_MO_in_0 : decode (kB k_MO_in) 0 = .ok (.iload_n 0, 1) := by decide +kernel
theorem d_MO_in_1 : decode (kB k_MO_in) 1 = .ok (.iload_n 1, 1) := by decide +kernel
theorem d_MO_in_2 : decode (kB k_MO_in) 2 = .ok (.if_icmp .lt (12), 3) := by decide +kernel
theorem d_MO_in_5 : decode (kB k_MO_in) 5 = .ok (.iload_n 0, 1) := by decide +kernel
theorem d_MO_in_6 : decode (kB k_MO_in) 6 = .ok (.iload_n 2, 1) := by decide +kernel
theorem d_MO_in_7 : decode (kB k_MO_in) 7 = .ok (.if_icmp .gt (7), 3) := by decide +kernel
theorem d_MO_in_10 : decode (kB k_MO_in) 10 = .ok (.iconst 1, 1) := by decide +kernel
theorem d_MO_in_11 : decode (kB k_MO_in) 11 = .ok (.goto (4), 3) := by decide +kernel
theorem d_MO_in_14 : decode (kB k_MO_in) 14 = .ok (.iconst 0, 1) := by decide +kernel
theorem d_MO_in_15 : decode (kB k_MO_in) 15 = .ok (.ireturn, 1) := by decide +kernel
theorem d_MO_refuse_0 : decode (kB k_MO_refuse) 0 = .ok (.aload_n 0, 1) := by decide +kernel
theorem d_MO_refuse_1 : decode (kB k_MO_refuse) 1 = .ok (.iload_n 1, 1) := by decide +kernel
theorem d_MO_refuse_2 : decode (kB k_MO_refuse) 2 = .ok (.putfield 50, 3) := by decide +kernel
theorem d_MO_refuse_5 : decode (kB k_MO_refuse) 5 = .ok (.iconst 0, 1) := by decide +kernel
theorem d_MO_refuse_6 : decode (kB k_MO_refuse) 6 = .ok (.ireturn, 1) := by decide +kernel
theorem d_MO_document_0 : decode (kB k_MO_document) 0 = .ok (.iload_n 1, 1) := by decide +kernel
theorem d_MO_document_1 : decode (kB k_MO_document) 1 = .ok (.iconst 0, 1) := by decide +kernel
theorem d_MO_document_2 : decode (kB k_MO_document) 2 = .ok (.bipush 24, 2) := by decide +kernel
theorem d_MO_document_4 : decode (kB k_MO_document) 4 = .ok (.invokestatic 54, 3) := by decide +kernel
theorem d_MO_document_7 : decode (kB k_MO_document) 7 = .ok (.ifCond .ne (9), 3) := by decide +kernel
theorem d_MO_document_10 : decode (kB k_MO_document) 10 = .ok (.aload_n 0, 1) := by decide +kernel
theorem d_MO_document_11 : decode (kB k_MO_document) 11 = .ok (.iconst 1, 1) := by decide +kernel
theorem d_MO_document_12 : decode (kB k_MO_document) 12 = .ok (.invokevirtual 58, 3) := by decide +kernel
theorem d_MO_document_15 : decode (kB k_MO_document) 15 = .ok (.ireturn, 1) := by decide +kernel
theorem d_MO_document_16 : decode (kB k_MO_document) 16 = .ok (.aload_n 0, 1) := by decide +kernel
theorem d_MO_document_17 : decode (kB k_MO_document) 17 = .ok (.getfield 62, 3) := by decide +kernel
theorem d_MO_document_20 : decode (kB k_MO_document) 20 = .ok (.bipush 12, 2) := by decide +kernel
theorem d_MO_document_22 : decode (kB k_MO_document) 22 = .ok (.if_icmp .ne (9), 3) := by decide +kernel
theorem d_MO_document_25 : decode (kB k_MO_document) 25 = .ok (.aload_n 0, 1) := by decide +kernel
theorem d_MO_document_26 : decode (kB k_MO_document) 26 = .ok (.iconst 2, 1) := by decide +kernel
theorem d_MO_document_27 : decode (kB k_MO_document) 27 = .ok (.invokevirtual 58, 3) := by decide +kernel
theorem d_MO_document_30 : decode (kB k_MO_document) 30 = .ok (.ireturn, 1) := by decide +kernel
theorem d_MO_document_31 : decode (kB k_MO_document) 31 = .ok (.aload_n 0, 1) := by decide +kernel
theorem d_MO_document_32 : decode (kB k_MO_document) 32 = .ok (.iconst 0, 1) := by decide +kernel
theorem d_MO_document_33 : decode (kB k_MO_document) 33 = .ok (.putfield 50, 3) := by decide +kernel
theorem d_MO_document_36 : decode (kB k_MO_document) 36 = .ok (.aload_n 0, 1) := by decide +kernel
theorem d_MO_document_37 : decode (kB k_MO_document) 37 = .ok (.getfield 16, 3) := by decide +kernel
theorem d_MO_document_40 : decode (kB k_MO_document) 40 = .ok (.aload_n 0, 1) := by decide +kernel
theorem d_MO_document_41 : decode (kB k_MO_document) 41 = .ok (.getfield 62, 3) := by decide +kernel
theorem d_MO_document_44 : decode (kB k_MO_document) 44 = .ok (.iload_n 1, 1) := by decide +kernel
theorem d_MO_document_45 : decode (kB k_MO_document) 45 = .ok (.iastore, 1) := by decide +kernel
theorem d_MO_document_46 : decode (kB k_MO_document) 46 = .ok (.aload_n 0, 1) := by decide +kernel
theorem d_MO_document_47 : decode (kB k_MO_document) 47 = .ok (.getfield 13, 3) := by decide +kernel
theorem d_MO_document_50 : decode (kB k_MO_document) 50 = .ok (.aload_n 0, 1) := by decide +kernel
theorem d_MO_document_51 : decode (kB k_MO_document) 51 = .ok (.getfield 62, 3) := by decide +kernel
theorem d_MO_document_54 : decode (kB k_MO_document) 54 = .ok (.iconst 0, 1) := by decide +kernel
theorem d_MO_document_55 : decode (kB k_MO_document) 55 = .ok (.iastore, 1) := by decide +kernel
theorem d_MO_document_56 : decode (kB k_MO_document) 56 = .ok (.aload_n 0, 1) := by decide +kernel
theorem d_MO_document_57 : decode (kB k_MO_document) 57 = .ok (.dup, 1) := by decide +kernel
theorem d_MO_document_58 : decode (kB k_MO_document) 58 = .ok (.getfield 62, 3) := by decide +kernel
theorem d_MO_document_61 : decode (kB k_MO_document) 61 = .ok (.iconst 1, 1) := by decide +kernel
theorem d_MO_document_62 : decode (kB k_MO_document) 62 = .ok (.iadd, 1) := by decide +kernel
theorem d_MO_document_63 : decode (kB k_MO_document) 63 = .ok (.putfield 62, 3) := by decide +kernel
theorem d_MO_document_66 : decode (kB k_MO_document) 66 = .ok (.aload_n 0, 1) := by decide +kernel
theorem d_MO_document_67 : decode (kB k_MO_document) 67 = .ok (.getfield 62, 3) := by decide +kernel
theorem d_MO_document_70 : decode (kB k_MO_document) 70 = .ok (.iconst 1, 1) := by decide +kernel
theorem d_MO_document_71 : decode (kB k_MO_document) 71 = .ok (.isub, 1) := by decide +kernel
theorem d_MO_document_72 : decode (kB k_MO_document) 72 = .ok (.ireturn, 1) := by decide +kernel
theorem d_MO_word_0 : decode (kB k_MO_word) 0 = .ok (.iload_n 1, 1) := by decide +kernel
theorem d_MO_word_1 : decode (kB k_MO_word) 1 = .ok (.iconst 0, 1) := by decide +kernel
theorem d_MO_word_2 : decode (kB k_MO_word) 2 = .ok (.bipush 15, 2) := by decide +kernel
theorem d_MO_word_4 : decode (kB k_MO_word) 4 = .ok (.invokestatic 54, 3) := by decide +kernel
theorem d_MO_word_7 : decode (kB k_MO_word) 7 = .ok (.ifCond .ne (9), 3) := by decide +kernel
theorem d_MO_word_10 : decode (kB k_MO_word) 10 = .ok (.aload_n 0, 1) := by decide +kernel
theorem d_MO_word_11 : decode (kB k_MO_word) 11 = .ok (.iconst 1, 1) := by decide +kernel
theorem d_MO_word_12 : decode (kB k_MO_word) 12 = .ok (.invokevirtual 58, 3) := by decide +kernel
theorem d_MO_word_15 : decode (kB k_MO_word) 15 = .ok (.ireturn, 1) := by decide +kernel
theorem d_MO_word_16 : decode (kB k_MO_word) 16 = .ok (.aload_n 0, 1) := by decide +kernel
theorem d_MO_word_17 : decode (kB k_MO_word) 17 = .ok (.getfield 62, 3) := by decide +kernel
theorem d_MO_word_20 : decode (kB k_MO_word) 20 = .ok (.ifCond .eq (19), 3) := by decide +kernel
theorem d_MO_word_23 : decode (kB k_MO_word) 23 = .ok (.aload_n 0, 1) := by decide +kernel
theorem d_MO_word_24 : decode (kB k_MO_word) 24 = .ok (.getfield 13, 3) := by decide +kernel
theorem d_MO_word_27 : decode (kB k_MO_word) 27 = .ok (.aload_n 0, 1) := by decide +kernel
theorem d_MO_word_28 : decode (kB k_MO_word) 28 = .ok (.getfield 62, 3) := by decide +kernel
theorem d_MO_word_31 : decode (kB k_MO_word) 31 = .ok (.iconst 1, 1) := by decide +kernel
theorem d_MO_word_32 : decode (kB k_MO_word) 32 = .ok (.isub, 1) := by decide +kernel
theorem d_MO_word_33 : decode (kB k_MO_word) 33 = .ok (.iaload, 1) := by decide +kernel
theorem d_MO_word_34 : decode (kB k_MO_word) 34 = .ok (.bipush 24, 2) := by decide +kernel
theorem d_MO_word_36 : decode (kB k_MO_word) 36 = .ok (.if_icmp .ne (9), 3) := by decide +kernel
theorem d_MO_word_39 : decode (kB k_MO_word) 39 = .ok (.aload_n 0, 1) := by decide +kernel
theorem d_MO_word_40 : decode (kB k_MO_word) 40 = .ok (.iconst 2, 1) := by decide +kernel
theorem d_MO_word_41 : decode (kB k_MO_word) 41 = .ok (.invokevirtual 58, 3) := by decide +kernel
theorem d_MO_word_44 : decode (kB k_MO_word) 44 = .ok (.ireturn, 1) := by decide +kernel
theorem d_MO_word_45 : decode (kB k_MO_word) 45 = .ok (.aload_n 0, 1) := by decide +kernel
theorem d_MO_word_46 : decode (kB k_MO_word) 46 = .ok (.iconst 0, 1) := by decide +kernel
theorem d_MO_word_47 : decode (kB k_MO_word) 47 = .ok (.putfield 50, 3) := by decide +kernel
theorem d_MO_word_50 : decode (kB k_MO_word) 50 = .ok (.aload_n 0, 1) := by decide +kernel
theorem d_MO_word_51 : decode (kB k_MO_word) 51 = .ok (.getfield 62, 3) := by decide +kernel
theorem d_MO_word_54 : decode (kB k_MO_word) 54 = .ok (.iconst 1, 1) := by decide +kernel
theorem d_MO_word_55 : decode (kB k_MO_word) 55 = .ok (.isub, 1) := by decide +kernel
theorem d_MO_word_56 : decode (kB k_MO_word) 56 = .ok (.istore_n 2, 1) := by decide +kernel
theorem d_MO_word_57 : decode (kB k_MO_word) 57 = .ok (.aload_n 0, 1) := by decide +kernel
theorem d_MO_word_58 : decode (kB k_MO_word) 58 = .ok (.getfield 7, 3) := by decide +kernel
theorem d_MO_word_61 : decode (kB k_MO_word) 61 = .ok (.bipush 24, 2) := by decide +kernel
theorem d_MO_word_63 : decode (kB k_MO_word) 63 = .ok (.iload_n 2, 1) := by decide +kernel
theorem d_MO_word_64 : decode (kB k_MO_word) 64 = .ok (.imul, 1) := by decide +kernel
theorem d_MO_word_65 : decode (kB k_MO_word) 65 = .ok (.aload_n 0, 1) := by decide +kernel
theorem d_MO_word_66 : decode (kB k_MO_word) 66 = .ok (.getfield 13, 3) := by decide +kernel
theorem d_MO_word_69 : decode (kB k_MO_word) 69 = .ok (.iload_n 2, 1) := by decide +kernel
theorem d_MO_word_70 : decode (kB k_MO_word) 70 = .ok (.iaload, 1) := by decide +kernel
theorem d_MO_word_71 : decode (kB k_MO_word) 71 = .ok (.iadd, 1) := by decide +kernel
theorem d_MO_word_72 : decode (kB k_MO_word) 72 = .ok (.iload_n 1, 1) := by decide +kernel
theorem d_MO_word_73 : decode (kB k_MO_word) 73 = .ok (.iastore, 1) := by decide +kernel
theorem d_MO_word_74 : decode (kB k_MO_word) 74 = .ok (.aload_n 0, 1) := by decide +kernel
theorem d_MO_word_75 : decode (kB k_MO_word) 75 = .ok (.getfield 13, 3) := by decide +kernel
theorem d_MO_word_78 : decode (kB k_MO_word) 78 = .ok (.iload_n 2, 1) := by decide +kernel
theorem d_MO_word_79 : decode (kB k_MO_word) 79 = .ok (.dup2, 1) := by decide +kernel
theorem d_MO_word_80 : decode (kB k_MO_word) 80 = .ok (.iaload, 1) := by decide +kernel
theorem d_MO_word_81 : decode (kB k_MO_word) 81 = .ok (.iconst 1, 1) := by decide +kernel
theorem d_MO_word_82 : decode (kB k_MO_word) 82 = .ok (.iadd, 1) := by decide +kernel
theorem d_MO_word_83 : decode (kB k_MO_word) 83 = .ok (.iastore, 1) := by decide +kernel
theorem d_MO_word_84 : decode (kB k_MO_word) 84 = .ok (.aload_n 0, 1) := by decide +kernel
theorem d_MO_word_85 : decode (kB k_MO_word) 85 = .ok (.getfield 13, 3) := by decide +kernel
theorem d_MO_word_88 : decode (kB k_MO_word) 88 = .ok (.iload_n 2, 1) := by decide +kernel
theorem d_MO_word_89 : decode (kB k_MO_word) 89 = .ok (.iaload, 1) := by decide +kernel
theorem d_MO_word_90 : decode (kB k_MO_word) 90 = .ok (.ireturn, 1) := by decide +kernel
theorem d_MO_smooth_0 : decode (kB k_MO_smooth) 0 = .ok (.iload_n 1, 1) := by decide +kernel
theorem d_MO_smooth_1 : decode (kB k_MO_smooth) 1 = .ok (.iconst 0, 1) := by decide +kernel
theorem d_MO_smooth_2 : decode (kB k_MO_smooth) 2 = .ok (.iconst 1, 1) := by decide +kernel
theorem d_MO_smooth_3 : decode (kB k_MO_smooth) 3 = .ok (.invokestatic 54, 3) := by decide +kernel
theorem d_MO_smooth_6 : decode (kB k_MO_smooth) 6 = .ok (.ifCond .eq (25), 3) := by decide +kernel
theorem d_MO_smooth_9 : decode (kB k_MO_smooth) 9 = .ok (.dload_n 2, 1) := by decide +kernel
theorem d_MO_smooth_10 : decode (kB k_MO_smooth) 10 = .ok (.dconst 0, 1) := by decide +kernel
theorem d_MO_smooth_11 : decode (kB k_MO_smooth) 11 = .ok (.dcmp .l, 1) := by decide +kernel
theorem d_MO_smooth_12 : decode (kB k_MO_smooth) 12 = .ok (.ifCond .le (19), 3) := by decide +kernel
theorem d_MO_smooth_15 : decode (kB k_MO_smooth) 15 = .ok (.dload_n 2, 1) := by decide +kernel
theorem d_MO_smooth_16 : decode (kB k_MO_smooth) 16 = .ok (.iload_n 1, 1) := by decide +kernel
theorem d_MO_smooth_17 : decode (kB k_MO_smooth) 17 = .ok (.ifCond .ne (8), 3) := by decide +kernel
theorem d_MO_smooth_20 : decode (kB k_MO_smooth) 20 = .ok (.bipush 100, 2) := by decide +kernel
theorem d_MO_smooth_22 : decode (kB k_MO_smooth) 22 = .ok (.goto (4), 3) := by decide +kernel
theorem d_MO_smooth_25 : decode (kB k_MO_smooth) 25 = .ok (.iconst 1, 1) := by decide +kernel
theorem d_MO_smooth_26 : decode (kB k_MO_smooth) 26 = .ok (.i2d, 1) := by decide +kernel
theorem d_MO_smooth_27 : decode (kB k_MO_smooth) 27 = .ok (.dcmp .g, 1) := by decide +kernel
theorem d_MO_smooth_28 : decode (kB k_MO_smooth) 28 = .ok (.ifCond .le (9), 3) := by decide +kernel
theorem d_MO_smooth_31 : decode (kB k_MO_smooth) 31 = .ok (.aload_n 0, 1) := by decide +kernel
theorem d_MO_smooth_32 : decode (kB k_MO_smooth) 32 = .ok (.iconst 1, 1) := by decide +kernel
theorem d_MO_smooth_33 : decode (kB k_MO_smooth) 33 = .ok (.invokevirtual 58, 3) := by decide +kernel
theorem d_MO_smooth_36 : decode (kB k_MO_smooth) 36 = .ok (.ireturn, 1) := by decide +kernel
theorem d_MO_smooth_37 : decode (kB k_MO_smooth) 37 = .ok (.aload_n 0, 1) := by decide +kernel
theorem d_MO_smooth_38 : decode (kB k_MO_smooth) 38 = .ok (.iconst 0, 1) := by decide +kernel
theorem d_MO_smooth_39 : decode (kB k_MO_smooth) 39 = .ok (.putfield 50, 3) := by decide +kernel
theorem d_MO_smooth_42 : decode (kB k_MO_smooth) 42 = .ok (.aload_n 0, 1) := by decide +kernel
theorem d_MO_smooth_43 : decode (kB k_MO_smooth) 43 = .ok (.getfield 65, 3) := by decide +kernel
theorem d_MO_smooth_46 : decode (kB k_MO_smooth) 46 = .ok (.istore 4, 2) := by decide +kernel
theorem d_MO_smooth_48 : decode (kB k_MO_smooth) 48 = .ok (.aload_n 0, 1) := by decide +kernel
theorem d_MO_smooth_49 : decode (kB k_MO_smooth) 49 = .ok (.iload_n 1, 1) := by decide +kernel
theorem d_MO_smooth_50 : decode (kB k_MO_smooth) 50 = .ok (.putfield 65, 3) := by decide +kernel
theorem d_MO_smooth_53 : decode (kB k_MO_smooth) 53 = .ok (.aload_n 0, 1) := by decide +kernel
theorem d_MO_smooth_54 : decode (kB k_MO_smooth) 54 = .ok (.dload_n 2, 1) := by decide +kernel
theorem d_MO_smooth_55 : decode (kB k_MO_smooth) 55 = .ok (.putfield 31, 3) := by decide +kernel
theorem d_MO_smooth_58 : decode (kB k_MO_smooth) 58 = .ok (.iload 4, 2) := by decide +kernel
theorem d_MO_smooth_60 : decode (kB k_MO_smooth) 60 = .ok (.ireturn, 1) := by decide +kernel
theorem d_MO_partsOf_0 : decode (kB k_MO_partsOf) 0 = .ok (.aload_n 0, 1) := by decide +kernel
theorem d_MO_partsOf_1 : decode (kB k_MO_partsOf) 1 = .ok (.getfield 19, 3) := by decide +kernel
theorem d_MO_partsOf_4 : decode (kB k_MO_partsOf) 4 = .ok (.iload_n 1, 1) := by decide +kernel
theorem d_MO_partsOf_5 : decode (kB k_MO_partsOf) 5 = .ok (.iaload, 1) := by decide +kernel
theorem d_MO_partsOf_6 : decode (kB k_MO_partsOf) 6 = .ok (.istore_n 2, 1) := by decide +kernel
theorem d_MO_partsOf_7 : decode (kB k_MO_partsOf) 7 = .ok (.iload_n 2, 1) := by decide +kernel
theorem d_MO_partsOf_8 : decode (kB k_MO_partsOf) 8 = .ok (.iconst 2, 1) := by decide +kernel
theorem d_MO_partsOf_9 : decode (kB k_MO_partsOf) 9 = .ok (.if_icmp .ge (5), 3) := by decide +kernel
theorem d_MO_partsOf_12 : decode (kB k_MO_partsOf) 12 = .ok (.iconst 0, 1) := by decide +kernel
theorem d_MO_partsOf_13 : decode (kB k_MO_partsOf) 13 = .ok (.ireturn, 1) := by decide +kernel
theorem d_MO_partsOf_14 : decode (kB k_MO_partsOf) 14 = .ok (.iload_n 2, 1) := by decide +kernel
theorem d_MO_partsOf_15 : decode (kB k_MO_partsOf) 15 = .ok (.iconst 4, 1) := by decide +kernel
theorem d_MO_partsOf_16 : decode (kB k_MO_partsOf) 16 = .ok (.if_icmp .gt (13), 3) := by decide +kernel
theorem d_MO_partsOf_19 : decode (kB k_MO_partsOf) 19 = .ok (.aload_n 0, 1) := by decide +kernel
theorem d_MO_partsOf_20 : decode (kB k_MO_partsOf) 20 = .ok (.getfield 25, 3) := by decide +kernel
theorem d_MO_partsOf_23 : decode (kB k_MO_partsOf) 23 = .ok (.iload_n 1, 1) := by decide +kernel
theorem d_MO_partsOf_24 : decode (kB k_MO_partsOf) 24 = .ok (.daload, 1) := by decide +kernel
theorem d_MO_partsOf_25 : decode (kB k_MO_partsOf) 25 = .ok (.d2i, 1) := by decide +kernel
theorem d_MO_partsOf_26 : decode (kB k_MO_partsOf) 26 = .ok (.goto (29), 3) := by decide +kernel
theorem d_MO_partsOf_29 : decode (kB k_MO_partsOf) 29 = .ok (.iload_n 2, 1) := by decide +kernel
theorem d_MO_partsOf_30 : decode (kB k_MO_partsOf) 30 = .ok (.bipush 9, 2) := by decide +kernel
theorem d_MO_partsOf_32 : decode (kB k_MO_partsOf) 32 = .ok (.if_icmp .gt (12), 3) := by decide +kernel
theorem d_MO_partsOf_35 : decode (kB k_MO_partsOf) 35 = .ok (.aload_n 0, 1) := by decide +kernel
theorem d_MO_partsOf_36 : decode (kB k_MO_partsOf) 36 = .ok (.getfield 22, 3) := by decide +kernel
theorem d_MO_partsOf_39 : decode (kB k_MO_partsOf) 39 = .ok (.iload_n 1, 1) := by decide +kernel
theorem d_MO_partsOf_40 : decode (kB k_MO_partsOf) 40 = .ok (.iaload, 1) := by decide +kernel
theorem d_MO_partsOf_41 : decode (kB k_MO_partsOf) 41 = .ok (.goto (14), 3) := by decide +kernel
theorem d_MO_partsOf_44 : decode (kB k_MO_partsOf) 44 = .ok (.iload_n 2, 1) := by decide +kernel
theorem d_MO_partsOf_45 : decode (kB k_MO_partsOf) 45 = .ok (.bipush 10, 2) := by decide +kernel
theorem d_MO_partsOf_47 : decode (kB k_MO_partsOf) 47 = .ok (.if_icmp .ne (7), 3) := by decide +kernel
theorem d_MO_partsOf_50 : decode (kB k_MO_partsOf) 50 = .ok (.iconst 1, 1) := by decide +kernel
theorem d_MO_partsOf_51 : decode (kB k_MO_partsOf) 51 = .ok (.goto (4), 3) := by decide +kernel
theorem d_MO_partsOf_54 : decode (kB k_MO_partsOf) 54 = .ok (.iconst 2, 1) := by decide +kernel
theorem d_MO_partsOf_55 : decode (kB k_MO_partsOf) 55 = .ok (.ireturn, 1) := by decide +kernel
theorem d_MO_open_0 : decode (kB k_MO_open) 0 = .ok (.iconst 1, 1) := by decide +kernel
theorem d_MO_open_1 : decode (kB k_MO_open) 1 = .ok (.istore_n 1, 1) := by decide +kernel
theorem d_MO_open_2 : decode (kB k_MO_open) 2 = .ok (.iconst 0, 1) := by decide +kernel
theorem d_MO_open_3 : decode (kB k_MO_open) 3 = .ok (.istore_n 2, 1) := by decide +kernel
theorem d_MO_open_4 : decode (kB k_MO_open) 4 = .ok (.iload_n 2, 1) := by decide +kernel
theorem d_MO_open_5 : decode (kB k_MO_open) 5 = .ok (.aload_n 0, 1) := by decide +kernel
theorem d_MO_open_6 : decode (kB k_MO_open) 6 = .ok (.getfield 68, 3) := by decide +kernel
theorem d_MO_open_9 : decode (kB k_MO_open) 9 = .ok (.if_icmp .ge (19), 3) := by decide +kernel
theorem d_MO_open_12 : decode (kB k_MO_open) 12 = .ok (.iload_n 1, 1) := by decide +kernel
theorem d_MO_open_13 : decode (kB k_MO_open) 13 = .ok (.aload_n 0, 1) := by decide +kernel
theorem d_MO_open_14 : decode (kB k_MO_open) 14 = .ok (.iload_n 2, 1) := by decide +kernel
theorem d_MO_open_15 : decode (kB k_MO_open) 15 = .ok (.invokevirtual 71, 3) := by decide +kernel
theorem d_MO_open_18 : decode (kB k_MO_open) 18 = .ok (.iconst 1, 1) := by decide +kernel
theorem d_MO_open_19 : decode (kB k_MO_open) 19 = .ok (.isub, 1) := by decide +kernel
theorem d_MO_open_20 : decode (kB k_MO_open) 20 = .ok (.iadd, 1) := by decide +kernel
theorem d_MO_open_21 : decode (kB k_MO_open) 21 = .ok (.istore_n 1, 1) := by decide +kernel
theorem d_MO_open_22 : decode (kB k_MO_open) 22 = .ok (.iinc 2 1, 3) := by decide +kernel
theorem d_MO_open_25 : decode (kB k_MO_open) 25 = .ok (.goto (-21), 3) := by decide +kernel
theorem d_MO_open_28 : decode (kB k_MO_open) 28 = .ok (.iload_n 1, 1) := by decide +kernel
theorem d_MO_open_29 : decode (kB k_MO_open) 29 = .ok (.ireturn, 1) := by decide +kernel
