/-! what the bytes say (written by gen/names.py) -/
theorem d_NE_change_0 : decode (kB k_NE_change) 0 = .ok (.aload_n 0, 1) := by decide +kernel
theorem d_NE_change_1 : decode (kB k_NE_change) 1 = .ok (.getfield 24, 3) := by decide +kernel
theorem d_NE_change_4 : decode (kB k_NE_change) 4 = .ok (.istore 4, 2) := by decide +kernel
theorem d_NE_change_6 : decode (kB k_NE_change) 6 = .ok (.aload_n 0, 1) := by decide +kernel
theorem d_NE_change_7 : decode (kB k_NE_change) 7 = .ok (.iload_n 1, 1) := by decide +kernel
theorem d_NE_change_8 : decode (kB k_NE_change) 8 = .ok (.putfield 24, 3) := by decide +kernel
theorem d_NE_change_11 : decode (kB k_NE_change) 11 = .ok (.aload_n 0, 1) := by decide +kernel
theorem d_NE_change_12 : decode (kB k_NE_change) 12 = .ok (.dload_n 2, 1) := by decide +kernel
theorem d_NE_change_13 : decode (kB k_NE_change) 13 = .ok (.putfield 30, 3) := by decide +kernel
theorem d_NE_change_16 : decode (kB k_NE_change) 16 = .ok (.iload 4, 2) := by decide +kernel
theorem d_NE_change_18 : decode (kB k_NE_change) 18 = .ok (.ireturn, 1) := by decide +kernel
theorem d_NE_hitsIn_0 : decode (kB k_NE_hitsIn) 0 = .ok (.iconst 0, 1) := by decide +kernel
theorem d_NE_hitsIn_1 : decode (kB k_NE_hitsIn) 1 = .ok (.istore_n 3, 1) := by decide +kernel
theorem d_NE_hitsIn_2 : decode (kB k_NE_hitsIn) 2 = .ok (.iconst 0, 1) := by decide +kernel
theorem d_NE_hitsIn_3 : decode (kB k_NE_hitsIn) 3 = .ok (.istore 4, 2) := by decide +kernel
theorem d_NE_hitsIn_5 : decode (kB k_NE_hitsIn) 5 = .ok (.iload 4, 2) := by decide +kernel
theorem d_NE_hitsIn_7 : decode (kB k_NE_hitsIn) 7 = .ok (.aload_n 0, 1) := by decide +kernel
theorem d_NE_hitsIn_8 : decode (kB k_NE_hitsIn) 8 = .ok (.getfield 34, 3) := by decide +kernel
theorem d_NE_hitsIn_11 : decode (kB k_NE_hitsIn) 11 = .ok (.iload_n 2, 1) := by decide +kernel
theorem d_NE_hitsIn_12 : decode (kB k_NE_hitsIn) 12 = .ok (.invokevirtual 42, 3) := by decide +kernel
theorem d_NE_hitsIn_15 : decode (kB k_NE_hitsIn) 15 = .ok (.if_icmp .ge (23), 3) := by decide +kernel
theorem d_NE_hitsIn_18 : decode (kB k_NE_hitsIn) 18 = .ok (.aload_n 0, 1) := by decide +kernel
theorem d_NE_hitsIn_19 : decode (kB k_NE_hitsIn) 19 = .ok (.iload_n 1, 1) := by decide +kernel
theorem d_NE_hitsIn_20 : decode (kB k_NE_hitsIn) 20 = .ok (.iload_n 2, 1) := by decide +kernel
theorem d_NE_hitsIn_21 : decode (kB k_NE_hitsIn) 21 = .ok (.iload 4, 2) := by decide +kernel
theorem d_NE_hitsIn_23 : decode (kB k_NE_hitsIn) 23 = .ok (.invokevirtual 48, 3) := by decide +kernel
theorem d_NE_hitsIn_26 : decode (kB k_NE_hitsIn) 26 = .ok (.ifCond .eq (6), 3) := by decide +kernel
theorem d_NE_hitsIn_29 : decode (kB k_NE_hitsIn) 29 = .ok (.iinc 3 1, 3) := by decide +kernel
theorem d_NE_hitsIn_32 : decode (kB k_NE_hitsIn) 32 = .ok (.iinc 4 1, 3) := by decide +kernel
theorem d_NE_hitsIn_35 : decode (kB k_NE_hitsIn) 35 = .ok (.goto (-30), 3) := by decide +kernel
theorem d_NE_hitsIn_38 : decode (kB k_NE_hitsIn) 38 = .ok (.iload_n 3, 1) := by decide +kernel
theorem d_NE_hitsIn_39 : decode (kB k_NE_hitsIn) 39 = .ok (.ireturn, 1) := by decide +kernel
theorem d_NE_countHits_0 : decode (kB k_NE_countHits) 0 = .ok (.iconst 0, 1) := by decide +kernel
theorem d_NE_countHits_1 : decode (kB k_NE_countHits) 1 = .ok (.istore_n 1, 1) := by decide +kernel
theorem d_NE_countHits_2 : decode (kB k_NE_countHits) 2 = .ok (.iload_n 1, 1) := by decide +kernel
theorem d_NE_countHits_3 : decode (kB k_NE_countHits) 3 = .ok (.aload_n 0, 1) := by decide +kernel
theorem d_NE_countHits_4 : decode (kB k_NE_countHits) 4 = .ok (.getfield 38, 3) := by decide +kernel
theorem d_NE_countHits_7 : decode (kB k_NE_countHits) 7 = .ok (.invokevirtual 52, 3) := by decide +kernel
theorem d_NE_countHits_10 : decode (kB k_NE_countHits) 10 = .ok (.if_icmp .ge (28), 3) := by decide +kernel
theorem d_NE_countHits_13 : decode (kB k_NE_countHits) 13 = .ok (.aload_n 0, 1) := by decide +kernel
theorem d_NE_countHits_14 : decode (kB k_NE_countHits) 14 = .ok (.getfield 38, 3) := by decide +kernel
theorem d_NE_countHits_17 : decode (kB k_NE_countHits) 17 = .ok (.iload_n 1, 1) := by decide +kernel
theorem d_NE_countHits_18 : decode (kB k_NE_countHits) 18 = .ok (.invokevirtual 58, 3) := by decide +kernel
theorem d_NE_countHits_21 : decode (kB k_NE_countHits) 21 = .ok (.invokestatic 61, 3) := by decide +kernel
theorem d_NE_countHits_24 : decode (kB k_NE_countHits) 24 = .ok (.ifCond .eq (8), 3) := by decide +kernel
theorem d_NE_countHits_27 : decode (kB k_NE_countHits) 27 = .ok (.aload_n 0, 1) := by decide +kernel
theorem d_NE_countHits_28 : decode (kB k_NE_countHits) 28 = .ok (.iload_n 1, 1) := by decide +kernel
theorem d_NE_countHits_29 : decode (kB k_NE_countHits) 29 = .ok (.invokevirtual 65, 3) := by decide +kernel
theorem d_NE_countHits_32 : decode (kB k_NE_countHits) 32 = .ok (.iinc 1 1, 3) := by decide +kernel
theorem d_NE_countHits_35 : decode (kB k_NE_countHits) 35 = .ok (.goto (-33), 3) := by decide +kernel
theorem d_NE_countHits_38 : decode (kB k_NE_countHits) 38 = .ok (.return_, 1) := by decide +kernel
theorem d_NE_judge_0 : decode (kB k_NE_judge) 0 = .ok (.aload_n 0, 1) := by decide +kernel
theorem d_NE_judge_1 : decode (kB k_NE_judge) 1 = .ok (.getfield 38, 3) := by decide +kernel
theorem d_NE_judge_4 : decode (kB k_NE_judge) 4 = .ok (.invokevirtual 52, 3) := by decide +kernel
theorem d_NE_judge_7 : decode (kB k_NE_judge) 7 = .ok (.iconst 1, 1) := by decide +kernel
theorem d_NE_judge_8 : decode (kB k_NE_judge) 8 = .ok (.isub, 1) := by decide +kernel
theorem d_NE_judge_9 : decode (kB k_NE_judge) 9 = .ok (.istore_n 2, 1) := by decide +kernel
theorem d_NE_judge_10 : decode (kB k_NE_judge) 10 = .ok (.iload_n 2, 1) := by decide +kernel
theorem d_NE_judge_11 : decode (kB k_NE_judge) 11 = .ok (.ifCond .lt (21), 3) := by decide +kernel
theorem d_NE_judge_14 : decode (kB k_NE_judge) 14 = .ok (.aload_n 0, 1) := by decide +kernel
theorem d_NE_judge_15 : decode (kB k_NE_judge) 15 = .ok (.getfield 20, 3) := by decide +kernel
theorem d_NE_judge_18 : decode (kB k_NE_judge) 18 = .ok (.iload_n 2, 1) := by decide +kernel
theorem d_NE_judge_19 : decode (kB k_NE_judge) 19 = .ok (.aload_n 0, 1) := by decide +kernel
theorem d_NE_judge_20 : decode (kB k_NE_judge) 20 = .ok (.iload_n 2, 1) := by decide +kernel
theorem d_NE_judge_21 : decode (kB k_NE_judge) 21 = .ok (.iload_n 1, 1) := by decide +kernel
theorem d_NE_judge_22 : decode (kB k_NE_judge) 22 = .ok (.invokevirtual 69, 3) := by decide +kernel
theorem d_NE_judge_25 : decode (kB k_NE_judge) 25 = .ok (.dastore, 1) := by decide +kernel
theorem d_NE_judge_26 : decode (kB k_NE_judge) 26 = .ok (.iinc 2 (-1), 3) := by decide +kernel
theorem d_NE_judge_29 : decode (kB k_NE_judge) 29 = .ok (.goto (-19), 3) := by decide +kernel
theorem d_NE_judge_32 : decode (kB k_NE_judge) 32 = .ok (.return_, 1) := by decide +kernel
theorem d_NE_judgement_0 : decode (kB k_NE_judgement) 0 = .ok (.aload_n 0, 1) := by decide +kernel
theorem d_NE_judgement_1 : decode (kB k_NE_judgement) 1 = .ok (.getfield 20, 3) := by decide +kernel
theorem d_NE_judgement_4 : decode (kB k_NE_judgement) 4 = .ok (.iconst 0, 1) := by decide +kernel
theorem d_NE_judgement_5 : decode (kB k_NE_judgement) 5 = .ok (.daload, 1) := by decide +kernel
theorem d_NE_judgement_6 : decode (kB k_NE_judgement) 6 = .ok (.dreturn, 1) := by decide +kernel
theorem d_NE_leavesOut_0 : decode (kB k_NE_leavesOut) 0 = .ok (.iconst 0, 1) := by decide +kernel
theorem d_NE_leavesOut_1 : decode (kB k_NE_leavesOut) 1 = .ok (.istore_n 2, 1) := by decide +kernel
theorem d_NE_leavesOut_2 : decode (kB k_NE_leavesOut) 2 = .ok (.iload_n 2, 1) := by decide +kernel
theorem d_NE_leavesOut_3 : decode (kB k_NE_leavesOut) 3 = .ok (.aload_n 0, 1) := by decide +kernel
theorem d_NE_leavesOut_4 : decode (kB k_NE_leavesOut) 4 = .ok (.getfield 38, 3) := by decide +kernel
theorem d_NE_leavesOut_7 : decode (kB k_NE_leavesOut) 7 = .ok (.invokevirtual 52, 3) := by decide +kernel
theorem d_NE_leavesOut_10 : decode (kB k_NE_leavesOut) 10 = .ok (.if_icmp .ge (35), 3) := by decide +kernel
theorem d_NE_leavesOut_13 : decode (kB k_NE_leavesOut) 13 = .ok (.aload_n 0, 1) := by decide +kernel
theorem d_NE_leavesOut_14 : decode (kB k_NE_leavesOut) 14 = .ok (.getfield 38, 3) := by decide +kernel
theorem d_NE_leavesOut_17 : decode (kB k_NE_leavesOut) 17 = .ok (.iload_n 2, 1) := by decide +kernel
theorem d_NE_leavesOut_18 : decode (kB k_NE_leavesOut) 18 = .ok (.invokevirtual 58, 3) := by decide +kernel
theorem d_NE_leavesOut_21 : decode (kB k_NE_leavesOut) 21 = .ok (.bipush 11, 2) := by decide +kernel
theorem d_NE_leavesOut_23 : decode (kB k_NE_leavesOut) 23 = .ok (.if_icmp .ne (16), 3) := by decide +kernel
theorem d_NE_leavesOut_26 : decode (kB k_NE_leavesOut) 26 = .ok (.aload_n 0, 1) := by decide +kernel
theorem d_NE_leavesOut_27 : decode (kB k_NE_leavesOut) 27 = .ok (.iload_n 2, 1) := by decide +kernel
theorem d_NE_leavesOut_28 : decode (kB k_NE_leavesOut) 28 = .ok (.iconst 1, 1) := by decide +kernel
theorem d_NE_leavesOut_29 : decode (kB k_NE_leavesOut) 29 = .ok (.iadd, 1) := by decide +kernel
theorem d_NE_leavesOut_30 : decode (kB k_NE_leavesOut) 30 = .ok (.iload_n 1, 1) := by decide +kernel
theorem d_NE_leavesOut_31 : decode (kB k_NE_leavesOut) 31 = .ok (.invokevirtual 73, 3) := by decide +kernel
theorem d_NE_leavesOut_34 : decode (kB k_NE_leavesOut) 34 = .ok (.ifCond .ne (5), 3) := by decide +kernel
theorem d_NE_leavesOut_37 : decode (kB k_NE_leavesOut) 37 = .ok (.iconst 1, 1) := by decide +kernel
theorem d_NE_leavesOut_38 : decode (kB k_NE_leavesOut) 38 = .ok (.ireturn, 1) := by decide +kernel
theorem d_NE_leavesOut_39 : decode (kB k_NE_leavesOut) 39 = .ok (.iinc 2 1, 3) := by decide +kernel
theorem d_NE_leavesOut_42 : decode (kB k_NE_leavesOut) 42 = .ok (.goto (-40), 3) := by decide +kernel
theorem d_NE_leavesOut_45 : decode (kB k_NE_leavesOut) 45 = .ok (.iconst 0, 1) := by decide +kernel
theorem d_NE_leavesOut_46 : decode (kB k_NE_leavesOut) 46 = .ok (.ireturn, 1) := by decide +kernel
theorem d_NE_isMet_0 : decode (kB k_NE_isMet) 0 = .ok (.aload_n 0, 1) := by decide +kernel
theorem d_NE_isMet_1 : decode (kB k_NE_isMet) 1 = .ok (.getfield 38, 3) := by decide +kernel
theorem d_NE_isMet_4 : decode (kB k_NE_isMet) 4 = .ok (.iload_n 1, 1) := by decide +kernel
theorem d_NE_isMet_5 : decode (kB k_NE_isMet) 5 = .ok (.invokevirtual 58, 3) := by decide +kernel
theorem d_NE_isMet_8 : decode (kB k_NE_isMet) 8 = .ok (.invokestatic 61, 3) := by decide +kernel
theorem d_NE_isMet_11 : decode (kB k_NE_isMet) 11 = .ok (.ifCond .eq (22), 3) := by decide +kernel
theorem d_NE_isMet_14 : decode (kB k_NE_isMet) 14 = .ok (.aload_n 0, 1) := by decide +kernel
theorem d_NE_isMet_15 : decode (kB k_NE_isMet) 15 = .ok (.getfield 11, 3) := by decide +kernel
theorem d_NE_isMet_18 : decode (kB k_NE_isMet) 18 = .ok (.iload_n 1, 1) := by decide +kernel
theorem d_NE_isMet_19 : decode (kB k_NE_isMet) 19 = .ok (.aaload, 1) := by decide +kernel
theorem d_NE_isMet_20 : decode (kB k_NE_isMet) 20 = .ok (.iload_n 2, 1) := by decide +kernel
theorem d_NE_isMet_21 : decode (kB k_NE_isMet) 21 = .ok (.iaload, 1) := by decide +kernel
theorem d_NE_isMet_22 : decode (kB k_NE_isMet) 22 = .ok (.ifCond .le (7), 3) := by decide +kernel
theorem d_NE_isMet_25 : decode (kB k_NE_isMet) 25 = .ok (.iconst 1, 1) := by decide +kernel
theorem d_NE_isMet_26 : decode (kB k_NE_isMet) 26 = .ok (.goto (25), 3) := by decide +kernel
theorem d_NE_isMet_29 : decode (kB k_NE_isMet) 29 = .ok (.iconst 0, 1) := by decide +kernel
theorem d_NE_isMet_30 : decode (kB k_NE_isMet) 30 = .ok (.goto (21), 3) := by decide +kernel
theorem d_NE_isMet_33 : decode (kB k_NE_isMet) 33 = .ok (.aload_n 0, 1) := by decide +kernel
theorem d_NE_isMet_34 : decode (kB k_NE_isMet) 34 = .ok (.getfield 20, 3) := by decide +kernel
theorem d_NE_isMet_37 : decode (kB k_NE_isMet) 37 = .ok (.iload_n 1, 1) := by decide +kernel
theorem d_NE_isMet_38 : decode (kB k_NE_isMet) 38 = .ok (.daload, 1) := by decide +kernel
theorem d_NE_isMet_39 : decode (kB k_NE_isMet) 39 = .ok (.ldc2_w 77, 3) := by decide +kernel
theorem d_NE_isMet_42 : decode (kB k_NE_isMet) 42 = .ok (.dcmp .l, 1) := by decide +kernel
theorem d_NE_isMet_43 : decode (kB k_NE_isMet) 43 = .ok (.ifCond .le (7), 3) := by decide +kernel
theorem d_NE_isMet_46 : decode (kB k_NE_isMet) 46 = .ok (.iconst 1, 1) := by decide +kernel
theorem d_NE_isMet_47 : decode (kB k_NE_isMet) 47 = .ok (.goto (4), 3) := by decide +kernel
theorem d_NE_isMet_50 : decode (kB k_NE_isMet) 50 = .ok (.iconst 0, 1) := by decide +kernel
theorem d_NE_isMet_51 : decode (kB k_NE_isMet) 51 = .ok (.ireturn, 1) := by decide +kernel
theorem d_NE_countHitsOf_0 : decode (kB k_NE_countHitsOf) 0 = .ok (.aload_n 0, 1) := by decide +kernel
theorem d_NE_countHitsOf_1 : decode (kB k_NE_countHitsOf) 1 = .ok (.getfield 16, 3) := by decide +kernel
theorem d_NE_countHitsOf_4 : decode (kB k_NE_countHitsOf) 4 = .ok (.iload_n 1, 1) := by decide +kernel
theorem d_NE_countHitsOf_5 : decode (kB k_NE_countHitsOf) 5 = .ok (.iconst 0, 1) := by decide +kernel
theorem d_NE_countHitsOf_6 : decode (kB k_NE_countHitsOf) 6 = .ok (.iastore, 1) := by decide +kernel
theorem d_NE_countHitsOf_7 : decode (kB k_NE_countHitsOf) 7 = .ok (.iconst 0, 1) := by decide +kernel
theorem d_NE_countHitsOf_8 : decode (kB k_NE_countHitsOf) 8 = .ok (.istore_n 2, 1) := by decide +kernel
theorem d_NE_countHitsOf_9 : decode (kB k_NE_countHitsOf) 9 = .ok (.iload_n 2, 1) := by decide +kernel
theorem d_NE_countHitsOf_10 : decode (kB k_NE_countHitsOf) 10 = .ok (.aload_n 0, 1) := by decide +kernel
theorem d_NE_countHitsOf_11 : decode (kB k_NE_countHitsOf) 11 = .ok (.getfield 34, 3) := by decide +kernel
theorem d_NE_countHitsOf_14 : decode (kB k_NE_countHitsOf) 14 = .ok (.invokevirtual 79, 3) := by decide +kernel
theorem d_NE_countHitsOf_17 : decode (kB k_NE_countHitsOf) 17 = .ok (.if_icmp .ge (40), 3) := by decide +kernel
theorem d_NE_countHitsOf_20 : decode (kB k_NE_countHitsOf) 20 = .ok (.aload_n 0, 1) := by decide +kernel
theorem d_NE_countHitsOf_21 : decode (kB k_NE_countHitsOf) 21 = .ok (.getfield 11, 3) := by decide +kernel
theorem d_NE_countHitsOf_24 : decode (kB k_NE_countHitsOf) 24 = .ok (.iload_n 1, 1) := by decide +kernel
theorem d_NE_countHitsOf_25 : decode (kB k_NE_countHitsOf) 25 = .ok (.aaload, 1) := by decide +kernel
theorem d_NE_countHitsOf_26 : decode (kB k_NE_countHitsOf) 26 = .ok (.iload_n 2, 1) := by decide +kernel
theorem d_NE_countHitsOf_27 : decode (kB k_NE_countHitsOf) 27 = .ok (.aload_n 0, 1) := by decide +kernel
theorem d_NE_countHitsOf_28 : decode (kB k_NE_countHitsOf) 28 = .ok (.iload_n 1, 1) := by decide +kernel
theorem d_NE_countHitsOf_29 : decode (kB k_NE_countHitsOf) 29 = .ok (.iload_n 2, 1) := by decide +kernel
theorem d_NE_countHitsOf_30 : decode (kB k_NE_countHitsOf) 30 = .ok (.invokevirtual 80, 3) := by decide +kernel
theorem d_NE_countHitsOf_33 : decode (kB k_NE_countHitsOf) 33 = .ok (.iastore, 1) := by decide +kernel
theorem d_NE_countHitsOf_34 : decode (kB k_NE_countHitsOf) 34 = .ok (.aload_n 0, 1) := by decide +kernel
theorem d_NE_countHitsOf_35 : decode (kB k_NE_countHitsOf) 35 = .ok (.getfield 16, 3) := by decide +kernel
theorem d_NE_countHitsOf_38 : decode (kB k_NE_countHitsOf) 38 = .ok (.iload_n 1, 1) := by decide +kernel
theorem d_NE_countHitsOf_39 : decode (kB k_NE_countHitsOf) 39 = .ok (.dup2, 1) := by decide +kernel
theorem d_NE_countHitsOf_40 : decode (kB k_NE_countHitsOf) 40 = .ok (.iaload, 1) := by decide +kernel
theorem d_NE_countHitsOf_41 : decode (kB k_NE_countHitsOf) 41 = .ok (.aload_n 0, 1) := by decide +kernel
theorem d_NE_countHitsOf_42 : decode (kB k_NE_countHitsOf) 42 = .ok (.getfield 11, 3) := by decide +kernel
theorem d_NE_countHitsOf_45 : decode (kB k_NE_countHitsOf) 45 = .ok (.iload_n 1, 1) := by decide +kernel
theorem d_NE_countHitsOf_46 : decode (kB k_NE_countHitsOf) 46 = .ok (.aaload, 1) := by decide +kernel
theorem d_NE_countHitsOf_47 : decode (kB k_NE_countHitsOf) 47 = .ok (.iload_n 2, 1) := by decide +kernel
theorem d_NE_countHitsOf_48 : decode (kB k_NE_countHitsOf) 48 = .ok (.iaload, 1) := by decide +kernel
theorem d_NE_countHitsOf_49 : decode (kB k_NE_countHitsOf) 49 = .ok (.iadd, 1) := by decide +kernel
theorem d_NE_countHitsOf_50 : decode (kB k_NE_countHitsOf) 50 = .ok (.iastore, 1) := by decide +kernel
theorem d_NE_countHitsOf_51 : decode (kB k_NE_countHitsOf) 51 = .ok (.iinc 2 1, 3) := by decide +kernel
theorem d_NE_countHitsOf_54 : decode (kB k_NE_countHitsOf) 54 = .ok (.goto (-45), 3) := by decide +kernel
theorem d_NE_countHitsOf_57 : decode (kB k_NE_countHitsOf) 57 = .ok (.return_, 1) := by decide +kernel
theorem d_NE_isHit_0 : decode (kB k_NE_isHit) 0 = .ok (.aload_n 0, 1) := by decide +kernel
theorem d_NE_isHit_1 : decode (kB k_NE_isHit) 1 = .ok (.getfield 38, 3) := by decide +kernel
theorem d_NE_isHit_4 : decode (kB k_NE_isHit) 4 = .ok (.iload_n 1, 1) := by decide +kernel
theorem d_NE_isHit_5 : decode (kB k_NE_isHit) 5 = .ok (.invokevirtual 58, 3) := by decide +kernel
theorem d_NE_isHit_8 : decode (kB k_NE_isHit) 8 = .ok (.tableswitch (102) (0) (3) #[32, 50, 68, 76], 32) := by decide +kernel
theorem d_NE_isHit_40 : decode (kB k_NE_isHit) 40 = .ok (.aload_n 0, 1) := by decide +kernel
theorem d_NE_isHit_41 : decode (kB k_NE_isHit) 41 = .ok (.getfield 34, 3) := by decide +kernel
theorem d_NE_isHit_44 : decode (kB k_NE_isHit) 44 = .ok (.aload_n 0, 1) := by decide +kernel
theorem d_NE_isHit_45 : decode (kB k_NE_isHit) 45 = .ok (.getfield 38, 3) := by decide +kernel
theorem d_NE_isHit_48 : decode (kB k_NE_isHit) 48 = .ok (.iload_n 1, 1) := by decide +kernel
theorem d_NE_isHit_49 : decode (kB k_NE_isHit) 49 = .ok (.invokevirtual 84, 3) := by decide +kernel
theorem d_NE_isHit_52 : decode (kB k_NE_isHit) 52 = .ok (.iload_n 2, 1) := by decide +kernel
theorem d_NE_isHit_53 : decode (kB k_NE_isHit) 53 = .ok (.iload_n 3, 1) := by decide +kernel
theorem d_NE_isHit_54 : decode (kB k_NE_isHit) 54 = .ok (.invokevirtual 87, 3) := by decide +kernel
theorem d_NE_isHit_57 : decode (kB k_NE_isHit) 57 = .ok (.ireturn, 1) := by decide +kernel
theorem d_NE_isHit_58 : decode (kB k_NE_isHit) 58 = .ok (.aload_n 0, 1) := by decide +kernel
theorem d_NE_isHit_59 : decode (kB k_NE_isHit) 59 = .ok (.getfield 34, 3) := by decide +kernel
theorem d_NE_isHit_62 : decode (kB k_NE_isHit) 62 = .ok (.aload_n 0, 1) := by decide +kernel
theorem d_NE_isHit_63 : decode (kB k_NE_isHit) 63 = .ok (.getfield 38, 3) := by decide +kernel
theorem d_NE_isHit_66 : decode (kB k_NE_isHit) 66 = .ok (.iload_n 1, 1) := by decide +kernel
theorem d_NE_isHit_67 : decode (kB k_NE_isHit) 67 = .ok (.invokevirtual 84, 3) := by decide +kernel
theorem d_NE_isHit_70 : decode (kB k_NE_isHit) 70 = .ok (.iload_n 2, 1) := by decide +kernel
theorem d_NE_isHit_71 : decode (kB k_NE_isHit) 71 = .ok (.iload_n 3, 1) := by decide +kernel
theorem d_NE_isHit_72 : decode (kB k_NE_isHit) 72 = .ok (.invokevirtual 90, 3) := by decide +kernel
theorem d_NE_isHit_75 : decode (kB k_NE_isHit) 75 = .ok (.ireturn, 1) := by decide +kernel
theorem d_NE_isHit_76 : decode (kB k_NE_isHit) 76 = .ok (.aload_n 0, 1) := by decide +kernel
theorem d_NE_isHit_77 : decode (kB k_NE_isHit) 77 = .ok (.iload_n 1, 1) := by decide +kernel
theorem d_NE_isHit_78 : decode (kB k_NE_isHit) 78 = .ok (.iload_n 2, 1) := by decide +kernel
theorem d_NE_isHit_79 : decode (kB k_NE_isHit) 79 = .ok (.iload_n 3, 1) := by decide +kernel
theorem d_NE_isHit_80 : decode (kB k_NE_isHit) 80 = .ok (.invokevirtual 93, 3) := by decide +kernel
theorem d_NE_isHit_83 : decode (kB k_NE_isHit) 83 = .ok (.ireturn, 1) := by decide +kernel
theorem d_NE_isHit_84 : decode (kB k_NE_isHit) 84 = .ok (.aload_n 0, 1) := by decide +kernel
theorem d_NE_isHit_85 : decode (kB k_NE_isHit) 85 = .ok (.iload_n 1, 1) := by decide +kernel
theorem d_NE_isHit_86 : decode (kB k_NE_isHit) 86 = .ok (.iload_n 2, 1) := by decide +kernel
theorem d_NE_isHit_87 : decode (kB k_NE_isHit) 87 = .ok (.iload_n 3, 1) := by decide +kernel
theorem d_NE_isHit_88 : decode (kB k_NE_isHit) 88 = .ok (.invokevirtual 96, 3) := by decide +kernel
theorem d_NE_isHit_91 : decode (kB k_NE_isHit) 91 = .ok (.ifCond .eq (17), 3) := by decide +kernel
theorem d_NE_isHit_94 : decode (kB k_NE_isHit) 94 = .ok (.aload_n 0, 1) := by decide +kernel
theorem d_NE_isHit_95 : decode (kB k_NE_isHit) 95 = .ok (.iload_n 1, 1) := by decide +kernel
theorem d_NE_isHit_96 : decode (kB k_NE_isHit) 96 = .ok (.iload_n 2, 1) := by decide +kernel
theorem d_NE_isHit_97 : decode (kB k_NE_isHit) 97 = .ok (.iload_n 3, 1) := by decide +kernel
theorem d_NE_isHit_98 : decode (kB k_NE_isHit) 98 = .ok (.invokevirtual 99, 3) := by decide +kernel
theorem d_NE_isHit_101 : decode (kB k_NE_isHit) 101 = .ok (.ifCond .eq (7), 3) := by decide +kernel
theorem d_NE_isHit_104 : decode (kB k_NE_isHit) 104 = .ok (.iconst 1, 1) := by decide +kernel
theorem d_NE_isHit_105 : decode (kB k_NE_isHit) 105 = .ok (.goto (4), 3) := by decide +kernel
theorem d_NE_isHit_108 : decode (kB k_NE_isHit) 108 = .ok (.iconst 0, 1) := by decide +kernel
theorem d_NE_isHit_109 : decode (kB k_NE_isHit) 109 = .ok (.ireturn, 1) := by decide +kernel
theorem d_NE_isHit_110 : decode (kB k_NE_isHit) 110 = .ok (.aload_n 0, 1) := by decide +kernel
theorem d_NE_isHit_111 : decode (kB k_NE_isHit) 111 = .ok (.iload_n 1, 1) := by decide +kernel
theorem d_NE_isHit_112 : decode (kB k_NE_isHit) 112 = .ok (.iload_n 2, 1) := by decide +kernel
theorem d_NE_isHit_113 : decode (kB k_NE_isHit) 113 = .ok (.iload_n 3, 1) := by decide +kernel
theorem d_NE_isHit_114 : decode (kB k_NE_isHit) 114 = .ok (.invokevirtual 96, 3) := by decide +kernel
theorem d_NE_isHit_117 : decode (kB k_NE_isHit) 117 = .ok (.ireturn, 1) := by decide +kernel
theorem d_NE_startsWay_0 : decode (kB k_NE_startsWay) 0 = .ok (.aload_n 0, 1) := by decide +kernel
theorem d_NE_startsWay_1 : decode (kB k_NE_startsWay) 1 = .ok (.getfield 34, 3) := by decide +kernel
theorem d_NE_startsWay_4 : decode (kB k_NE_startsWay) 4 = .ok (.aload_n 0, 1) := by decide +kernel
theorem d_NE_startsWay_5 : decode (kB k_NE_startsWay) 5 = .ok (.getfield 38, 3) := by decide +kernel
theorem d_NE_startsWay_8 : decode (kB k_NE_startsWay) 8 = .ok (.iload_n 1, 1) := by decide +kernel
theorem d_NE_startsWay_9 : decode (kB k_NE_startsWay) 9 = .ok (.iconst 0, 1) := by decide +kernel
theorem d_NE_startsWay_10 : decode (kB k_NE_startsWay) 10 = .ok (.invokevirtual 102, 3) := by decide +kernel
theorem d_NE_startsWay_13 : decode (kB k_NE_startsWay) 13 = .ok (.iload_n 2, 1) := by decide +kernel
theorem d_NE_startsWay_14 : decode (kB k_NE_startsWay) 14 = .ok (.iload_n 3, 1) := by decide +kernel
theorem d_NE_startsWay_15 : decode (kB k_NE_startsWay) 15 = .ok (.invokevirtual 87, 3) := by decide +kernel
theorem d_NE_startsWay_18 : decode (kB k_NE_startsWay) 18 = .ok (.ifCond .ne (5), 3) := by decide +kernel
theorem d_NE_startsWay_21 : decode (kB k_NE_startsWay) 21 = .ok (.iconst 0, 1) := by decide +kernel
theorem d_NE_startsWay_22 : decode (kB k_NE_startsWay) 22 = .ok (.ireturn, 1) := by decide +kernel
theorem d_NE_startsWay_23 : decode (kB k_NE_startsWay) 23 = .ok (.iload_n 3, 1) := by decide +kernel
theorem d_NE_startsWay_24 : decode (kB k_NE_startsWay) 24 = .ok (.istore 4, 2) := by decide +kernel
theorem d_NE_startsWay_26 : decode (kB k_NE_startsWay) 26 = .ok (.iconst 1, 1) := by decide +kernel
theorem d_NE_startsWay_27 : decode (kB k_NE_startsWay) 27 = .ok (.istore 5, 2) := by decide +kernel
theorem d_NE_startsWay_29 : decode (kB k_NE_startsWay) 29 = .ok (.iload 5, 2) := by decide +kernel
theorem d_NE_startsWay_31 : decode (kB k_NE_startsWay) 31 = .ok (.aload_n 0, 1) := by decide +kernel
theorem d_NE_startsWay_32 : decode (kB k_NE_startsWay) 32 = .ok (.getfield 38, 3) := by decide +kernel
theorem d_NE_startsWay_35 : decode (kB k_NE_startsWay) 35 = .ok (.iload_n 1, 1) := by decide +kernel
theorem d_NE_startsWay_36 : decode (kB k_NE_startsWay) 36 = .ok (.invokevirtual 105, 3) := by decide +kernel
theorem d_NE_startsWay_39 : decode (kB k_NE_startsWay) 39 = .ok (.if_icmp .ge (55), 3) := by decide +kernel
theorem d_NE_startsWay_42 : decode (kB k_NE_startsWay) 42 = .ok (.aload_n 0, 1) := by decide +kernel
theorem d_NE_startsWay_43 : decode (kB k_NE_startsWay) 43 = .ok (.getfield 34, 3) := by decide +kernel
theorem d_NE_startsWay_46 : decode (kB k_NE_startsWay) 46 = .ok (.aload_n 0, 1) := by decide +kernel
theorem d_NE_startsWay_47 : decode (kB k_NE_startsWay) 47 = .ok (.getfield 38, 3) := by decide +kernel
theorem d_NE_startsWay_50 : decode (kB k_NE_startsWay) 50 = .ok (.iload_n 1, 1) := by decide +kernel
theorem d_NE_startsWay_51 : decode (kB k_NE_startsWay) 51 = .ok (.iload 5, 2) := by decide +kernel
theorem d_NE_startsWay_53 : decode (kB k_NE_startsWay) 53 = .ok (.invokevirtual 102, 3) := by decide +kernel
theorem d_NE_startsWay_56 : decode (kB k_NE_startsWay) 56 = .ok (.iload_n 2, 1) := by decide +kernel
theorem d_NE_startsWay_57 : decode (kB k_NE_startsWay) 57 = .ok (.iload 4, 2) := by decide +kernel
theorem d_NE_startsWay_59 : decode (kB k_NE_startsWay) 59 = .ok (.iconst 1, 1) := by decide +kernel
theorem d_NE_startsWay_60 : decode (kB k_NE_startsWay) 60 = .ok (.iadd, 1) := by decide +kernel
theorem d_NE_startsWay_61 : decode (kB k_NE_startsWay) 61 = .ok (.invokevirtual 108, 3) := by decide +kernel
theorem d_NE_startsWay_64 : decode (kB k_NE_startsWay) 64 = .ok (.istore 6, 2) := by decide +kernel
theorem d_NE_startsWay_66 : decode (kB k_NE_startsWay) 66 = .ok (.iload 6, 2) := by decide +kernel
theorem d_NE_startsWay_68 : decode (kB k_NE_startsWay) 68 = .ok (.iload 4, 2) := by decide +kernel
theorem d_NE_startsWay_70 : decode (kB k_NE_startsWay) 70 = .ok (.isub, 1) := by decide +kernel
theorem d_NE_startsWay_71 : decode (kB k_NE_startsWay) 71 = .ok (.aload_n 0, 1) := by decide +kernel
theorem d_NE_startsWay_72 : decode (kB k_NE_startsWay) 72 = .ok (.getfield 38, 3) := by decide +kernel
theorem d_NE_startsWay_75 : decode (kB k_NE_startsWay) 75 = .ok (.iload_n 1, 1) := by decide +kernel
theorem d_NE_startsWay_76 : decode (kB k_NE_startsWay) 76 = .ok (.invokevirtual 84, 3) := by decide +kernel
theorem d_NE_startsWay_79 : decode (kB k_NE_startsWay) 79 = .ok (.if_icmp .le (5), 3) := by decide +kernel
theorem d_NE_startsWay_82 : decode (kB k_NE_startsWay) 82 = .ok (.iconst 0, 1) := by decide +kernel
theorem d_NE_startsWay_83 : decode (kB k_NE_startsWay) 83 = .ok (.ireturn, 1) := by decide +kernel
theorem d_NE_startsWay_84 : decode (kB k_NE_startsWay) 84 = .ok (.iload 6, 2) := by decide +kernel
theorem d_NE_startsWay_86 : decode (kB k_NE_startsWay) 86 = .ok (.istore 4, 2) := by decide +kernel
theorem d_NE_startsWay_88 : decode (kB k_NE_startsWay) 88 = .ok (.iinc 5 1, 3) := by decide +kernel
theorem d_NE_startsWay_91 : decode (kB k_NE_startsWay) 91 = .ok (.goto (-62), 3) := by decide +kernel
theorem d_NE_startsWay_94 : decode (kB k_NE_startsWay) 94 = .ok (.iconst 1, 1) := by decide +kernel
theorem d_NE_startsWay_95 : decode (kB k_NE_startsWay) 95 = .ok (.ireturn, 1) := by decide +kernel
theorem d_NE_standsAny_0 : decode (kB k_NE_standsAny) 0 = .ok (.iconst 0, 1) := by decide +kernel
theorem d_NE_standsAny_1 : decode (kB k_NE_standsAny) 1 = .ok (.istore 4, 2) := by decide +kernel
theorem d_NE_standsAny_3 : decode (kB k_NE_standsAny) 3 = .ok (.iload 4, 2) := by decide +kernel
theorem d_NE_standsAny_5 : decode (kB k_NE_standsAny) 5 = .ok (.aload_n 0, 1) := by decide +kernel
theorem d_NE_standsAny_6 : decode (kB k_NE_standsAny) 6 = .ok (.getfield 38, 3) := by decide +kernel
theorem d_NE_standsAny_9 : decode (kB k_NE_standsAny) 9 = .ok (.iload_n 1, 1) := by decide +kernel
theorem d_NE_standsAny_10 : decode (kB k_NE_standsAny) 10 = .ok (.invokevirtual 105, 3) := by decide +kernel
theorem d_NE_standsAny_13 : decode (kB k_NE_standsAny) 13 = .ok (.if_icmp .ge (33), 3) := by decide +kernel
theorem d_NE_standsAny_16 : decode (kB k_NE_standsAny) 16 = .ok (.aload_n 0, 1) := by decide +kernel
theorem d_NE_standsAny_17 : decode (kB k_NE_standsAny) 17 = .ok (.getfield 34, 3) := by decide +kernel
theorem d_NE_standsAny_20 : decode (kB k_NE_standsAny) 20 = .ok (.aload_n 0, 1) := by decide +kernel
theorem d_NE_standsAny_21 : decode (kB k_NE_standsAny) 21 = .ok (.getfield 38, 3) := by decide +kernel
theorem d_NE_standsAny_24 : decode (kB k_NE_standsAny) 24 = .ok (.iload_n 1, 1) := by decide +kernel
theorem d_NE_standsAny_25 : decode (kB k_NE_standsAny) 25 = .ok (.iload 4, 2) := by decide +kernel
theorem d_NE_standsAny_27 : decode (kB k_NE_standsAny) 27 = .ok (.invokevirtual 102, 3) := by decide +kernel
theorem d_NE_standsAny_30 : decode (kB k_NE_standsAny) 30 = .ok (.iload_n 2, 1) := by decide +kernel
theorem d_NE_standsAny_31 : decode (kB k_NE_standsAny) 31 = .ok (.iload_n 3, 1) := by decide +kernel
theorem d_NE_standsAny_32 : decode (kB k_NE_standsAny) 32 = .ok (.invokevirtual 87, 3) := by decide +kernel
theorem d_NE_standsAny_35 : decode (kB k_NE_standsAny) 35 = .ok (.ifCond .eq (5), 3) := by decide +kernel
theorem d_NE_standsAny_38 : decode (kB k_NE_standsAny) 38 = .ok (.iconst 1, 1) := by decide +kernel
theorem d_NE_standsAny_39 : decode (kB k_NE_standsAny) 39 = .ok (.ireturn, 1) := by decide +kernel
theorem d_NE_standsAny_40 : decode (kB k_NE_standsAny) 40 = .ok (.iinc 4 1, 3) := by decide +kernel
theorem d_NE_standsAny_43 : decode (kB k_NE_standsAny) 43 = .ok (.goto (-40), 3) := by decide +kernel
theorem d_NE_standsAny_46 : decode (kB k_NE_standsAny) 46 = .ok (.iconst 0, 1) := by decide +kernel
theorem d_NE_standsAny_47 : decode (kB k_NE_standsAny) 47 = .ok (.ireturn, 1) := by decide +kernel
theorem d_NE_standAllWithin_0 : decode (kB k_NE_standAllWithin) 0 = .ok (.iconst 0, 1) := by decide +kernel
theorem d_NE_standAllWithin_1 : decode (kB k_NE_standAllWithin) 1 = .ok (.istore 4, 2) := by decide +kernel
theorem d_NE_standAllWithin_3 : decode (kB k_NE_standAllWithin) 3 = .ok (.iload 4, 2) := by decide +kernel
theorem d_NE_standAllWithin_5 : decode (kB k_NE_standAllWithin) 5 = .ok (.aload_n 0, 1) := by decide +kernel
theorem d_NE_standAllWithin_6 : decode (kB k_NE_standAllWithin) 6 = .ok (.getfield 38, 3) := by decide +kernel
theorem d_NE_standAllWithin_9 : decode (kB k_NE_standAllWithin) 9 = .ok (.iload_n 1, 1) := by decide +kernel
theorem d_NE_standAllWithin_10 : decode (kB k_NE_standAllWithin) 10 = .ok (.invokevirtual 105, 3) := by decide +kernel
theorem d_NE_standAllWithin_13 : decode (kB k_NE_standAllWithin) 13 = .ok (.if_icmp .ge (43), 3) := by decide +kernel
theorem d_NE_standAllWithin_16 : decode (kB k_NE_standAllWithin) 16 = .ok (.aload_n 0, 1) := by decide +kernel
theorem d_NE_standAllWithin_17 : decode (kB k_NE_standAllWithin) 17 = .ok (.getfield 34, 3) := by decide +kernel
theorem d_NE_standAllWithin_20 : decode (kB k_NE_standAllWithin) 20 = .ok (.aload_n 0, 1) := by decide +kernel
theorem d_NE_standAllWithin_21 : decode (kB k_NE_standAllWithin) 21 = .ok (.getfield 38, 3) := by decide +kernel
theorem d_NE_standAllWithin_24 : decode (kB k_NE_standAllWithin) 24 = .ok (.iload_n 1, 1) := by decide +kernel
theorem d_NE_standAllWithin_25 : decode (kB k_NE_standAllWithin) 25 = .ok (.iload 4, 2) := by decide +kernel
theorem d_NE_standAllWithin_27 : decode (kB k_NE_standAllWithin) 27 = .ok (.invokevirtual 102, 3) := by decide +kernel
theorem d_NE_standAllWithin_30 : decode (kB k_NE_standAllWithin) 30 = .ok (.iload_n 2, 1) := by decide +kernel
theorem d_NE_standAllWithin_31 : decode (kB k_NE_standAllWithin) 31 = .ok (.iload_n 3, 1) := by decide +kernel
theorem d_NE_standAllWithin_32 : decode (kB k_NE_standAllWithin) 32 = .ok (.invokevirtual 108, 3) := by decide +kernel
theorem d_NE_standAllWithin_35 : decode (kB k_NE_standAllWithin) 35 = .ok (.iload_n 3, 1) := by decide +kernel
theorem d_NE_standAllWithin_36 : decode (kB k_NE_standAllWithin) 36 = .ok (.aload_n 0, 1) := by decide +kernel
theorem d_NE_standAllWithin_37 : decode (kB k_NE_standAllWithin) 37 = .ok (.getfield 38, 3) := by decide +kernel
theorem d_NE_standAllWithin_40 : decode (kB k_NE_standAllWithin) 40 = .ok (.iload_n 1, 1) := by decide +kernel
theorem d_NE_standAllWithin_41 : decode (kB k_NE_standAllWithin) 41 = .ok (.invokevirtual 84, 3) := by decide +kernel
theorem d_NE_standAllWithin_44 : decode (kB k_NE_standAllWithin) 44 = .ok (.iadd, 1) := by decide +kernel
theorem d_NE_standAllWithin_45 : decode (kB k_NE_standAllWithin) 45 = .ok (.if_icmp .lt (5), 3) := by decide +kernel
theorem d_NE_standAllWithin_48 : decode (kB k_NE_standAllWithin) 48 = .ok (.iconst 0, 1) := by decide +kernel
theorem d_NE_standAllWithin_49 : decode (kB k_NE_standAllWithin) 49 = .ok (.ireturn, 1) := by decide +kernel
theorem d_NE_standAllWithin_50 : decode (kB k_NE_standAllWithin) 50 = .ok (.iinc 4 1, 3) := by decide +kernel
theorem d_NE_standAllWithin_53 : decode (kB k_NE_standAllWithin) 53 = .ok (.goto (-50), 3) := by decide +kernel
theorem d_NE_standAllWithin_56 : decode (kB k_NE_standAllWithin) 56 = .ok (.iconst 1, 1) := by decide +kernel
theorem d_NE_standAllWithin_57 : decode (kB k_NE_standAllWithin) 57 = .ok (.ireturn, 1) := by decide +kernel
theorem d_NE_beliefIn_0 : decode (kB k_NE_beliefIn) 0 = .ok (.aload_n 0, 1) := by decide +kernel
theorem d_NE_beliefIn_1 : decode (kB k_NE_beliefIn) 1 = .ok (.getfield 38, 3) := by decide +kernel
theorem d_NE_beliefIn_4 : decode (kB k_NE_beliefIn) 4 = .ok (.iload_n 1, 1) := by decide +kernel
theorem d_NE_beliefIn_5 : decode (kB k_NE_beliefIn) 5 = .ok (.invokevirtual 58, 3) := by decide +kernel
theorem d_NE_beliefIn_8 : decode (kB k_NE_beliefIn) 8 = .ok (.tableswitch (111) (5) (11) #[44, 50, 58, 64, 81, 95, 104], 44) := by decide +kernel
theorem d_NE_beliefIn_52 : decode (kB k_NE_beliefIn) 52 = .ok (.aload_n 0, 1) := by decide +kernel
theorem d_NE_beliefIn_53 : decode (kB k_NE_beliefIn) 53 = .ok (.iload_n 1, 1) := by decide +kernel
theorem d_NE_beliefIn_54 : decode (kB k_NE_beliefIn) 54 = .ok (.invokevirtual 112, 3) := by decide +kernel
theorem d_NE_beliefIn_57 : decode (kB k_NE_beliefIn) 57 = .ok (.dreturn, 1) := by decide +kernel
theorem d_NE_beliefIn_58 : decode (kB k_NE_beliefIn) 58 = .ok (.dconst 1, 1) := by decide +kernel
theorem d_NE_beliefIn_59 : decode (kB k_NE_beliefIn) 59 = .ok (.aload_n 0, 1) := by decide +kernel
theorem d_NE_beliefIn_60 : decode (kB k_NE_beliefIn) 60 = .ok (.iload_n 1, 1) := by decide +kernel
theorem d_NE_beliefIn_61 : decode (kB k_NE_beliefIn) 61 = .ok (.invokevirtual 116, 3) := by decide +kernel
theorem d_NE_beliefIn_64 : decode (kB k_NE_beliefIn) 64 = .ok (.dsub, 1) := by decide +kernel
theorem d_NE_beliefIn_65 : decode (kB k_NE_beliefIn) 65 = .ok (.dreturn, 1) := by decide +kernel
theorem d_NE_beliefIn_66 : decode (kB k_NE_beliefIn) 66 = .ok (.aload_n 0, 1) := by decide +kernel
theorem d_NE_beliefIn_67 : decode (kB k_NE_beliefIn) 67 = .ok (.iload_n 1, 1) := by decide +kernel
theorem d_NE_beliefIn_68 : decode (kB k_NE_beliefIn) 68 = .ok (.invokevirtual 119, 3) := by decide +kernel
theorem d_NE_beliefIn_71 : decode (kB k_NE_beliefIn) 71 = .ok (.dreturn, 1) := by decide +kernel
theorem d_NE_beliefIn_72 : decode (kB k_NE_beliefIn) 72 = .ok (.aload_n 0, 1) := by decide +kernel
theorem d_NE_beliefIn_73 : decode (kB k_NE_beliefIn) 73 = .ok (.iload_n 1, 1) := by decide +kernel
theorem d_NE_beliefIn_74 : decode (kB k_NE_beliefIn) 74 = .ok (.invokevirtual 122, 3) := by decide +kernel
theorem d_NE_beliefIn_77 : decode (kB k_NE_beliefIn) 77 = .ok (.aload_n 0, 1) := by decide +kernel
theorem d_NE_beliefIn_78 : decode (kB k_NE_beliefIn) 78 = .ok (.iload_n 1, 1) := by decide +kernel
theorem d_NE_beliefIn_79 : decode (kB k_NE_beliefIn) 79 = .ok (.invokevirtual 125, 3) := by decide +kernel
theorem d_NE_beliefIn_82 : decode (kB k_NE_beliefIn) 82 = .ok (.invokestatic 128, 3) := by decide +kernel
theorem d_NE_beliefIn_85 : decode (kB k_NE_beliefIn) 85 = .ok (.invokestatic 132, 3) := by decide +kernel
theorem d_NE_beliefIn_88 : decode (kB k_NE_beliefIn) 88 = .ok (.dreturn, 1) := by decide +kernel
theorem d_NE_beliefIn_89 : decode (kB k_NE_beliefIn) 89 = .ok (.aload_n 0, 1) := by decide +kernel
theorem d_NE_beliefIn_90 : decode (kB k_NE_beliefIn) 90 = .ok (.iload_n 1, 1) := by decide +kernel
theorem d_NE_beliefIn_91 : decode (kB k_NE_beliefIn) 91 = .ok (.invokevirtual 136, 3) := by decide +kernel
theorem d_NE_beliefIn_94 : decode (kB k_NE_beliefIn) 94 = .ok (.aload_n 0, 1) := by decide +kernel
theorem d_NE_beliefIn_95 : decode (kB k_NE_beliefIn) 95 = .ok (.iload_n 1, 1) := by decide +kernel
theorem d_NE_beliefIn_96 : decode (kB k_NE_beliefIn) 96 = .ok (.invokevirtual 125, 3) := by decide +kernel
theorem d_NE_beliefIn_99 : decode (kB k_NE_beliefIn) 99 = .ok (.invokestatic 128, 3) := by decide +kernel
theorem d_NE_beliefIn_102 : decode (kB k_NE_beliefIn) 102 = .ok (.dreturn, 1) := by decide +kernel
theorem d_NE_beliefIn_103 : decode (kB k_NE_beliefIn) 103 = .ok (.dconst 1, 1) := by decide +kernel
theorem d_NE_beliefIn_104 : decode (kB k_NE_beliefIn) 104 = .ok (.aload_n 0, 1) := by decide +kernel
theorem d_NE_beliefIn_105 : decode (kB k_NE_beliefIn) 105 = .ok (.iload_n 1, 1) := by decide +kernel
theorem d_NE_beliefIn_106 : decode (kB k_NE_beliefIn) 106 = .ok (.iconst 0, 1) := by decide +kernel
theorem d_NE_beliefIn_107 : decode (kB k_NE_beliefIn) 107 = .ok (.invokevirtual 139, 3) := by decide +kernel
theorem d_NE_beliefIn_110 : decode (kB k_NE_beliefIn) 110 = .ok (.dsub, 1) := by decide +kernel
theorem d_NE_beliefIn_111 : decode (kB k_NE_beliefIn) 111 = .ok (.dreturn, 1) := by decide +kernel
theorem d_NE_beliefIn_112 : decode (kB k_NE_beliefIn) 112 = .ok (.aload_n 0, 1) := by decide +kernel
theorem d_NE_beliefIn_113 : decode (kB k_NE_beliefIn) 113 = .ok (.iload_n 1, 1) := by decide +kernel
theorem d_NE_beliefIn_114 : decode (kB k_NE_beliefIn) 114 = .ok (.iconst 1, 1) := by decide +kernel
theorem d_NE_beliefIn_115 : decode (kB k_NE_beliefIn) 115 = .ok (.invokevirtual 139, 3) := by decide +kernel
theorem d_NE_beliefIn_118 : decode (kB k_NE_beliefIn) 118 = .ok (.dreturn, 1) := by decide +kernel
theorem d_NE_beliefIn_119 : decode (kB k_NE_beliefIn) 119 = .ok (.aload_n 0, 1) := by decide +kernel
theorem d_NE_beliefIn_120 : decode (kB k_NE_beliefIn) 120 = .ok (.aload_n 0, 1) := by decide +kernel
theorem d_NE_beliefIn_121 : decode (kB k_NE_beliefIn) 121 = .ok (.getfield 11, 3) := by decide +kernel
theorem d_NE_beliefIn_124 : decode (kB k_NE_beliefIn) 124 = .ok (.iload_n 1, 1) := by decide +kernel
theorem d_NE_beliefIn_125 : decode (kB k_NE_beliefIn) 125 = .ok (.aaload, 1) := by decide +kernel
theorem d_NE_beliefIn_126 : decode (kB k_NE_beliefIn) 126 = .ok (.iload_n 2, 1) := by decide +kernel
theorem d_NE_beliefIn_127 : decode (kB k_NE_beliefIn) 127 = .ok (.iaload, 1) := by decide +kernel
theorem d_NE_beliefIn_128 : decode (kB k_NE_beliefIn) 128 = .ok (.aload_n 0, 1) := by decide +kernel
theorem d_NE_beliefIn_129 : decode (kB k_NE_beliefIn) 129 = .ok (.getfield 16, 3) := by decide +kernel
theorem d_NE_beliefIn_132 : decode (kB k_NE_beliefIn) 132 = .ok (.iload_n 1, 1) := by decide +kernel
theorem d_NE_beliefIn_133 : decode (kB k_NE_beliefIn) 133 = .ok (.iaload, 1) := by decide +kernel
theorem d_NE_beliefIn_134 : decode (kB k_NE_beliefIn) 134 = .ok (.aload_n 0, 1) := by decide +kernel
theorem d_NE_beliefIn_135 : decode (kB k_NE_beliefIn) 135 = .ok (.getfield 34, 3) := by decide +kernel
theorem d_NE_beliefIn_138 : decode (kB k_NE_beliefIn) 138 = .ok (.iload_n 2, 1) := by decide +kernel
theorem d_NE_beliefIn_139 : decode (kB k_NE_beliefIn) 139 = .ok (.invokevirtual 42, 3) := by decide +kernel
theorem d_NE_beliefIn_142 : decode (kB k_NE_beliefIn) 142 = .ok (.invokevirtual 142, 3) := by decide +kernel
theorem d_NE_beliefIn_145 : decode (kB k_NE_beliefIn) 145 = .ok (.dreturn, 1) := by decide +kernel
theorem d_NE_smoothed_0 : decode (kB k_NE_smoothed) 0 = .ok (.iload_n 2, 1) := by decide +kernel
theorem d_NE_smoothed_1 : decode (kB k_NE_smoothed) 1 = .ok (.ifCond .ne (9), 3) := by decide +kernel
theorem d_NE_smoothed_4 : decode (kB k_NE_smoothed) 4 = .ok (.ldc2_w 77, 3) := by decide +kernel
theorem d_NE_smoothed_7 : decode (kB k_NE_smoothed) 7 = .ok (.goto (5), 3) := by decide +kernel
theorem d_NE_smoothed_10 : decode (kB k_NE_smoothed) 10 = .ok (.iload_n 2, 1) := by decide +kernel
theorem d_NE_smoothed_11 : decode (kB k_NE_smoothed) 11 = .ok (.i2d, 1) := by decide +kernel
theorem d_NE_smoothed_12 : decode (kB k_NE_smoothed) 12 = .ok (.dstore 4, 2) := by decide +kernel
theorem d_NE_smoothed_14 : decode (kB k_NE_smoothed) 14 = .ok (.dload 4, 2) := by decide +kernel
theorem d_NE_smoothed_16 : decode (kB k_NE_smoothed) 16 = .ok (.aload_n 0, 1) := by decide +kernel
theorem d_NE_smoothed_17 : decode (kB k_NE_smoothed) 17 = .ok (.getfield 34, 3) := by decide +kernel
theorem d_NE_smoothed_20 : decode (kB k_NE_smoothed) 20 = .ok (.invokevirtual 146, 3) := by decide +kernel
theorem d_NE_smoothed_23 : decode (kB k_NE_smoothed) 23 = .ok (.i2d, 1) := by decide +kernel
theorem d_NE_smoothed_24 : decode (kB k_NE_smoothed) 24 = .ok (.invokestatic 128, 3) := by decide +kernel
theorem d_NE_smoothed_27 : decode (kB k_NE_smoothed) 27 = .ok (.dstore 6, 2) := by decide +kernel
theorem d_NE_smoothed_29 : decode (kB k_NE_smoothed) 29 = .ok (.aload_n 0, 1) := by decide +kernel
theorem d_NE_smoothed_30 : decode (kB k_NE_smoothed) 30 = .ok (.getfield 24, 3) := by decide +kernel
theorem d_NE_smoothed_33 : decode (kB k_NE_smoothed) 33 = .ok (.ifCond .ne (24), 3) := by decide +kernel
theorem d_NE_smoothed_36 : decode (kB k_NE_smoothed) 36 = .ok (.iload_n 1, 1) := by decide +kernel
theorem d_NE_smoothed_37 : decode (kB k_NE_smoothed) 37 = .ok (.i2d, 1) := by decide +kernel
theorem d_NE_smoothed_38 : decode (kB k_NE_smoothed) 38 = .ok (.aload_n 0, 1) := by decide +kernel
theorem d_NE_smoothed_39 : decode (kB k_NE_smoothed) 39 = .ok (.getfield 30, 3) := by decide +kernel
theorem d_NE_smoothed_42 : decode (kB k_NE_smoothed) 42 = .ok (.dload 6, 2) := by decide +kernel
theorem d_NE_smoothed_44 : decode (kB k_NE_smoothed) 44 = .ok (.dmul, 1) := by decide +kernel
theorem d_NE_smoothed_45 : decode (kB k_NE_smoothed) 45 = .ok (.dadd, 1) := by decide +kernel
theorem d_NE_smoothed_46 : decode (kB k_NE_smoothed) 46 = .ok (.iload_n 3, 1) := by decide +kernel
theorem d_NE_smoothed_47 : decode (kB k_NE_smoothed) 47 = .ok (.i2d, 1) := by decide +kernel
theorem d_NE_smoothed_48 : decode (kB k_NE_smoothed) 48 = .ok (.aload_n 0, 1) := by decide +kernel
theorem d_NE_smoothed_49 : decode (kB k_NE_smoothed) 49 = .ok (.getfield 30, 3) := by decide +kernel
theorem d_NE_smoothed_52 : decode (kB k_NE_smoothed) 52 = .ok (.dadd, 1) := by decide +kernel
theorem d_NE_smoothed_53 : decode (kB k_NE_smoothed) 53 = .ok (.invokestatic 128, 3) := by decide +kernel
theorem d_NE_smoothed_56 : decode (kB k_NE_smoothed) 56 = .ok (.dreturn, 1) := by decide +kernel
theorem d_NE_smoothed_57 : decode (kB k_NE_smoothed) 57 = .ok (.dconst 1, 1) := by decide +kernel
theorem d_NE_smoothed_58 : decode (kB k_NE_smoothed) 58 = .ok (.aload_n 0, 1) := by decide +kernel
theorem d_NE_smoothed_59 : decode (kB k_NE_smoothed) 59 = .ok (.getfield 30, 3) := by decide +kernel
theorem d_NE_smoothed_62 : decode (kB k_NE_smoothed) 62 = .ok (.dsub, 1) := by decide +kernel
theorem d_NE_smoothed_63 : decode (kB k_NE_smoothed) 63 = .ok (.iload_n 1, 1) := by decide +kernel
theorem d_NE_smoothed_64 : decode (kB k_NE_smoothed) 64 = .ok (.i2d, 1) := by decide +kernel
theorem d_NE_smoothed_65 : decode (kB k_NE_smoothed) 65 = .ok (.iload_n 3, 1) := by decide +kernel
theorem d_NE_smoothed_66 : decode (kB k_NE_smoothed) 66 = .ok (.i2d, 1) := by decide +kernel
theorem d_NE_smoothed_67 : decode (kB k_NE_smoothed) 67 = .ok (.invokestatic 128, 3) := by decide +kernel
theorem d_NE_smoothed_70 : decode (kB k_NE_smoothed) 70 = .ok (.dmul, 1) := by decide +kernel
theorem d_NE_smoothed_71 : decode (kB k_NE_smoothed) 71 = .ok (.aload_n 0, 1) := by decide +kernel
theorem d_NE_smoothed_72 : decode (kB k_NE_smoothed) 72 = .ok (.getfield 30, 3) := by decide +kernel
theorem d_NE_smoothed_75 : decode (kB k_NE_smoothed) 75 = .ok (.dload 6, 2) := by decide +kernel
theorem d_NE_smoothed_77 : decode (kB k_NE_smoothed) 77 = .ok (.dmul, 1) := by decide +kernel
theorem d_NE_smoothed_78 : decode (kB k_NE_smoothed) 78 = .ok (.dadd, 1) := by decide +kernel
theorem d_NE_smoothed_79 : decode (kB k_NE_smoothed) 79 = .ok (.dreturn, 1) := by decide +kernel
theorem d_NE_beliefOf_0 : decode (kB k_NE_beliefOf) 0 = .ok (.aload_n 0, 1) := by decide +kernel
theorem d_NE_beliefOf_1 : decode (kB k_NE_beliefOf) 1 = .ok (.getfield 20, 3) := by decide +kernel
theorem d_NE_beliefOf_4 : decode (kB k_NE_beliefOf) 4 = .ok (.aload_n 0, 1) := by decide +kernel
theorem d_NE_beliefOf_5 : decode (kB k_NE_beliefOf) 5 = .ok (.getfield 38, 3) := by decide +kernel
theorem d_NE_beliefOf_8 : decode (kB k_NE_beliefOf) 8 = .ok (.iload_n 1, 1) := by decide +kernel
theorem d_NE_beliefOf_9 : decode (kB k_NE_beliefOf) 9 = .ok (.iload_n 2, 1) := by decide +kernel
theorem d_NE_beliefOf_10 : decode (kB k_NE_beliefOf) 10 = .ok (.invokevirtual 149, 3) := by decide +kernel
theorem d_NE_beliefOf_13 : decode (kB k_NE_beliefOf) 13 = .ok (.daload, 1) := by decide +kernel
theorem d_NE_beliefOf_14 : decode (kB k_NE_beliefOf) 14 = .ok (.dreturn, 1) := by decide +kernel
theorem d_NE_weightOf_0 : decode (kB k_NE_weightOf) 0 = .ok (.aload_n 0, 1) := by decide +kernel
theorem d_NE_weightOf_1 : decode (kB k_NE_weightOf) 1 = .ok (.getfield 38, 3) := by decide +kernel
theorem d_NE_weightOf_4 : decode (kB k_NE_weightOf) 4 = .ok (.aload_n 0, 1) := by decide +kernel
theorem d_NE_weightOf_5 : decode (kB k_NE_weightOf) 5 = .ok (.getfield 38, 3) := by decide +kernel
theorem d_NE_weightOf_8 : decode (kB k_NE_weightOf) 8 = .ok (.iload_n 1, 1) := by decide +kernel
theorem d_NE_weightOf_9 : decode (kB k_NE_weightOf) 9 = .ok (.iload_n 2, 1) := by decide +kernel
theorem d_NE_weightOf_10 : decode (kB k_NE_weightOf) 10 = .ok (.invokevirtual 149, 3) := by decide +kernel
theorem d_NE_weightOf_13 : decode (kB k_NE_weightOf) 13 = .ok (.invokevirtual 152, 3) := by decide +kernel
theorem d_NE_weightOf_16 : decode (kB k_NE_weightOf) 16 = .ok (.dreturn, 1) := by decide +kernel
theorem d_NE_productOf_0 : decode (kB k_NE_productOf) 0 = .ok (.dconst 1, 1) := by decide +kernel
theorem d_NE_productOf_1 : decode (kB k_NE_productOf) 1 = .ok (.dstore_n 2, 1) := by decide +kernel
theorem d_NE_productOf_2 : decode (kB k_NE_productOf) 2 = .ok (.iconst 0, 1) := by decide +kernel
theorem d_NE_productOf_3 : decode (kB k_NE_productOf) 3 = .ok (.istore 4, 2) := by decide +kernel
theorem d_NE_productOf_5 : decode (kB k_NE_productOf) 5 = .ok (.iload 4, 2) := by decide +kernel
theorem d_NE_productOf_7 : decode (kB k_NE_productOf) 7 = .ok (.aload_n 0, 1) := by decide +kernel
theorem d_NE_productOf_8 : decode (kB k_NE_productOf) 8 = .ok (.getfield 38, 3) := by decide +kernel
theorem d_NE_productOf_11 : decode (kB k_NE_productOf) 11 = .ok (.iload_n 1, 1) := by decide +kernel
theorem d_NE_productOf_12 : decode (kB k_NE_productOf) 12 = .ok (.invokevirtual 105, 3) := by decide +kernel
theorem d_NE_productOf_15 : decode (kB k_NE_productOf) 15 = .ok (.if_icmp .ge (19), 3) := by decide +kernel
theorem d_NE_productOf_18 : decode (kB k_NE_productOf) 18 = .ok (.dload_n 2, 1) := by decide +kernel
theorem d_NE_productOf_19 : decode (kB k_NE_productOf) 19 = .ok (.aload_n 0, 1) := by decide +kernel
theorem d_NE_productOf_20 : decode (kB k_NE_productOf) 20 = .ok (.iload_n 1, 1) := by decide +kernel
theorem d_NE_productOf_21 : decode (kB k_NE_productOf) 21 = .ok (.iload 4, 2) := by decide +kernel
theorem d_NE_productOf_23 : decode (kB k_NE_productOf) 23 = .ok (.invokevirtual 139, 3) := by decide +kernel
theorem d_NE_productOf_26 : decode (kB k_NE_productOf) 26 = .ok (.dmul, 1) := by decide +kernel
theorem d_NE_productOf_27 : decode (kB k_NE_productOf) 27 = .ok (.dstore_n 2, 1) := by decide +kernel
theorem d_NE_productOf_28 : decode (kB k_NE_productOf) 28 = .ok (.iinc 4 1, 3) := by decide +kernel
theorem d_NE_productOf_31 : decode (kB k_NE_productOf) 31 = .ok (.goto (-26), 3) := by decide +kernel
theorem d_NE_productOf_34 : decode (kB k_NE_productOf) 34 = .ok (.dload_n 2, 1) := by decide +kernel
theorem d_NE_productOf_35 : decode (kB k_NE_productOf) 35 = .ok (.dreturn, 1) := by decide +kernel
theorem d_NE_productOfDoubts_0 : decode (kB k_NE_productOfDoubts) 0 = .ok (.dconst 1, 1) := by decide +kernel
theorem d_NE_productOfDoubts_1 : decode (kB k_NE_productOfDoubts) 1 = .ok (.dstore_n 2, 1) := by decide +kernel
theorem d_NE_productOfDoubts_2 : decode (kB k_NE_productOfDoubts) 2 = .ok (.iconst 0, 1) := by decide +kernel
theorem d_NE_productOfDoubts_3 : decode (kB k_NE_productOfDoubts) 3 = .ok (.istore 4, 2) := by decide +kernel
theorem d_NE_productOfDoubts_5 : decode (kB k_NE_productOfDoubts) 5 = .ok (.iload 4, 2) := by decide +kernel
theorem d_NE_productOfDoubts_7 : decode (kB k_NE_productOfDoubts) 7 = .ok (.aload_n 0, 1) := by decide +kernel
theorem d_NE_productOfDoubts_8 : decode (kB k_NE_productOfDoubts) 8 = .ok (.getfield 38, 3) := by decide +kernel
theorem d_NE_productOfDoubts_11 : decode (kB k_NE_productOfDoubts) 11 = .ok (.iload_n 1, 1) := by decide +kernel
theorem d_NE_productOfDoubts_12 : decode (kB k_NE_productOfDoubts) 12 = .ok (.invokevirtual 105, 3) := by decide +kernel
theorem d_NE_productOfDoubts_15 : decode (kB k_NE_productOfDoubts) 15 = .ok (.if_icmp .ge (21), 3) := by decide +kernel
theorem d_NE_productOfDoubts_18 : decode (kB k_NE_productOfDoubts) 18 = .ok (.dload_n 2, 1) := by decide +kernel
theorem d_NE_productOfDoubts_19 : decode (kB k_NE_productOfDoubts) 19 = .ok (.dconst 1, 1) := by decide +kernel
theorem d_NE_productOfDoubts_20 : decode (kB k_NE_productOfDoubts) 20 = .ok (.aload_n 0, 1) := by decide +kernel
theorem d_NE_productOfDoubts_21 : decode (kB k_NE_productOfDoubts) 21 = .ok (.iload_n 1, 1) := by decide +kernel
theorem d_NE_productOfDoubts_22 : decode (kB k_NE_productOfDoubts) 22 = .ok (.iload 4, 2) := by decide +kernel
theorem d_NE_productOfDoubts_24 : decode (kB k_NE_productOfDoubts) 24 = .ok (.invokevirtual 139, 3) := by decide +kernel
theorem d_NE_productOfDoubts_27 : decode (kB k_NE_productOfDoubts) 27 = .ok (.dsub, 1) := by decide +kernel
theorem d_NE_productOfDoubts_28 : decode (kB k_NE_productOfDoubts) 28 = .ok (.dmul, 1) := by decide +kernel
theorem d_NE_productOfDoubts_29 : decode (kB k_NE_productOfDoubts) 29 = .ok (.dstore_n 2, 1) := by decide +kernel
theorem d_NE_productOfDoubts_30 : decode (kB k_NE_productOfDoubts) 30 = .ok (.iinc 4 1, 3) := by decide +kernel
theorem d_NE_productOfDoubts_33 : decode (kB k_NE_productOfDoubts) 33 = .ok (.goto (-28), 3) := by decide +kernel
theorem d_NE_productOfDoubts_36 : decode (kB k_NE_productOfDoubts) 36 = .ok (.dload_n 2, 1) := by decide +kernel
theorem d_NE_productOfDoubts_37 : decode (kB k_NE_productOfDoubts) 37 = .ok (.dreturn, 1) := by decide +kernel
theorem d_NE_greatestOf_0 : decode (kB k_NE_greatestOf) 0 = .ok (.aload_n 0, 1) := by decide +kernel
theorem d_NE_greatestOf_1 : decode (kB k_NE_greatestOf) 1 = .ok (.iload_n 1, 1) := by decide +kernel
theorem d_NE_greatestOf_2 : decode (kB k_NE_greatestOf) 2 = .ok (.iconst 0, 1) := by decide +kernel
theorem d_NE_greatestOf_3 : decode (kB k_NE_greatestOf) 3 = .ok (.invokevirtual 139, 3) := by decide +kernel
theorem d_NE_greatestOf_6 : decode (kB k_NE_greatestOf) 6 = .ok (.dstore_n 2, 1) := by decide +kernel
theorem d_NE_greatestOf_7 : decode (kB k_NE_greatestOf) 7 = .ok (.iconst 1, 1) := by decide +kernel
theorem d_NE_greatestOf_8 : decode (kB k_NE_greatestOf) 8 = .ok (.istore 4, 2) := by decide +kernel
theorem d_NE_greatestOf_10 : decode (kB k_NE_greatestOf) 10 = .ok (.iload 4, 2) := by decide +kernel
theorem d_NE_greatestOf_12 : decode (kB k_NE_greatestOf) 12 = .ok (.aload_n 0, 1) := by decide +kernel
theorem d_NE_greatestOf_13 : decode (kB k_NE_greatestOf) 13 = .ok (.getfield 38, 3) := by decide +kernel
theorem d_NE_greatestOf_16 : decode (kB k_NE_greatestOf) 16 = .ok (.iload_n 1, 1) := by decide +kernel
theorem d_NE_greatestOf_17 : decode (kB k_NE_greatestOf) 17 = .ok (.invokevirtual 105, 3) := by decide +kernel
theorem d_NE_greatestOf_20 : decode (kB k_NE_greatestOf) 20 = .ok (.if_icmp .ge (32), 3) := by decide +kernel
theorem d_NE_greatestOf_23 : decode (kB k_NE_greatestOf) 23 = .ok (.aload_n 0, 1) := by decide +kernel
theorem d_NE_greatestOf_24 : decode (kB k_NE_greatestOf) 24 = .ok (.iload_n 1, 1) := by decide +kernel
theorem d_NE_greatestOf_25 : decode (kB k_NE_greatestOf) 25 = .ok (.iload 4, 2) := by decide +kernel
theorem d_NE_greatestOf_27 : decode (kB k_NE_greatestOf) 27 = .ok (.invokevirtual 139, 3) := by decide +kernel
theorem d_NE_greatestOf_30 : decode (kB k_NE_greatestOf) 30 = .ok (.dstore 5, 2) := by decide +kernel
theorem d_NE_greatestOf_32 : decode (kB k_NE_greatestOf) 32 = .ok (.dload 5, 2) := by decide +kernel
theorem d_NE_greatestOf_34 : decode (kB k_NE_greatestOf) 34 = .ok (.dload_n 2, 1) := by decide +kernel
theorem d_NE_greatestOf_35 : decode (kB k_NE_greatestOf) 35 = .ok (.dcmp .l, 1) := by decide +kernel
theorem d_NE_greatestOf_36 : decode (kB k_NE_greatestOf) 36 = .ok (.ifCond .le (8), 3) := by decide +kernel
theorem d_NE_greatestOf_39 : decode (kB k_NE_greatestOf) 39 = .ok (.dload 5, 2) := by decide +kernel
theorem d_NE_greatestOf_41 : decode (kB k_NE_greatestOf) 41 = .ok (.goto (4), 3) := by decide +kernel
theorem d_NE_greatestOf_44 : decode (kB k_NE_greatestOf) 44 = .ok (.dload_n 2, 1) := by decide +kernel
theorem d_NE_greatestOf_45 : decode (kB k_NE_greatestOf) 45 = .ok (.dstore_n 2, 1) := by decide +kernel
theorem d_NE_greatestOf_46 : decode (kB k_NE_greatestOf) 46 = .ok (.iinc 4 1, 3) := by decide +kernel
theorem d_NE_greatestOf_49 : decode (kB k_NE_greatestOf) 49 = .ok (.goto (-39), 3) := by decide +kernel
theorem d_NE_greatestOf_52 : decode (kB k_NE_greatestOf) 52 = .ok (.dload_n 2, 1) := by decide +kernel
theorem d_NE_greatestOf_53 : decode (kB k_NE_greatestOf) 53 = .ok (.dreturn, 1) := by decide +kernel
theorem d_NE_weighedLgs_0 : decode (kB k_NE_weighedLgs) 0 = .ok (.dconst 0, 1) := by decide +kernel
theorem d_NE_weighedLgs_1 : decode (kB k_NE_weighedLgs) 1 = .ok (.dstore_n 2, 1) := by decide +kernel
theorem d_NE_weighedLgs_2 : decode (kB k_NE_weighedLgs) 2 = .ok (.iconst 0, 1) := by decide +kernel
theorem d_NE_weighedLgs_3 : decode (kB k_NE_weighedLgs) 3 = .ok (.istore 4, 2) := by decide +kernel
theorem d_NE_weighedLgs_5 : decode (kB k_NE_weighedLgs) 5 = .ok (.iload 4, 2) := by decide +kernel
theorem d_NE_weighedLgs_7 : decode (kB k_NE_weighedLgs) 7 = .ok (.aload_n 0, 1) := by decide +kernel
theorem d_NE_weighedLgs_8 : decode (kB k_NE_weighedLgs) 8 = .ok (.getfield 38, 3) := by decide +kernel
theorem d_NE_weighedLgs_11 : decode (kB k_NE_weighedLgs) 11 = .ok (.iload_n 1, 1) := by decide +kernel
theorem d_NE_weighedLgs_12 : decode (kB k_NE_weighedLgs) 12 = .ok (.invokevirtual 105, 3) := by decide +kernel
theorem d_NE_weighedLgs_15 : decode (kB k_NE_weighedLgs) 15 = .ok (.if_icmp .ge (30), 3) := by decide +kernel
theorem d_NE_weighedLgs_18 : decode (kB k_NE_weighedLgs) 18 = .ok (.dload_n 2, 1) := by decide +kernel
theorem d_NE_weighedLgs_19 : decode (kB k_NE_weighedLgs) 19 = .ok (.aload_n 0, 1) := by decide +kernel
theorem d_NE_weighedLgs_20 : decode (kB k_NE_weighedLgs) 20 = .ok (.iload_n 1, 1) := by decide +kernel
theorem d_NE_weighedLgs_21 : decode (kB k_NE_weighedLgs) 21 = .ok (.iload 4, 2) := by decide +kernel
theorem d_NE_weighedLgs_23 : decode (kB k_NE_weighedLgs) 23 = .ok (.invokevirtual 155, 3) := by decide +kernel
theorem d_NE_weighedLgs_26 : decode (kB k_NE_weighedLgs) 26 = .ok (.aload_n 0, 1) := by decide +kernel
theorem d_NE_weighedLgs_27 : decode (kB k_NE_weighedLgs) 27 = .ok (.iload_n 1, 1) := by decide +kernel
theorem d_NE_weighedLgs_28 : decode (kB k_NE_weighedLgs) 28 = .ok (.iload 4, 2) := by decide +kernel
theorem d_NE_weighedLgs_30 : decode (kB k_NE_weighedLgs) 30 = .ok (.invokevirtual 139, 3) := by decide +kernel
theorem d_NE_weighedLgs_33 : decode (kB k_NE_weighedLgs) 33 = .ok (.invokestatic 157, 3) := by decide +kernel
theorem d_NE_weighedLgs_36 : decode (kB k_NE_weighedLgs) 36 = .ok (.dmul, 1) := by decide +kernel
theorem d_NE_weighedLgs_37 : decode (kB k_NE_weighedLgs) 37 = .ok (.dadd, 1) := by decide +kernel
theorem d_NE_weighedLgs_38 : decode (kB k_NE_weighedLgs) 38 = .ok (.dstore_n 2, 1) := by decide +kernel
theorem d_NE_weighedLgs_39 : decode (kB k_NE_weighedLgs) 39 = .ok (.iinc 4 1, 3) := by decide +kernel
theorem d_NE_weighedLgs_42 : decode (kB k_NE_weighedLgs) 42 = .ok (.goto (-37), 3) := by decide +kernel
theorem d_NE_weighedLgs_45 : decode (kB k_NE_weighedLgs) 45 = .ok (.dload_n 2, 1) := by decide +kernel
theorem d_NE_weighedLgs_46 : decode (kB k_NE_weighedLgs) 46 = .ok (.dreturn, 1) := by decide +kernel
theorem d_NE_weighedBeliefs_0 : decode (kB k_NE_weighedBeliefs) 0 = .ok (.dconst 0, 1) := by decide +kernel
theorem d_NE_weighedBeliefs_1 : decode (kB k_NE_weighedBeliefs) 1 = .ok (.dstore_n 2, 1) := by decide +kernel
theorem d_NE_weighedBeliefs_2 : decode (kB k_NE_weighedBeliefs) 2 = .ok (.iconst 0, 1) := by decide +kernel
theorem d_NE_weighedBeliefs_3 : decode (kB k_NE_weighedBeliefs) 3 = .ok (.istore 4, 2) := by decide +kernel
theorem d_NE_weighedBeliefs_5 : decode (kB k_NE_weighedBeliefs) 5 = .ok (.iload 4, 2) := by decide +kernel
theorem d_NE_weighedBeliefs_7 : decode (kB k_NE_weighedBeliefs) 7 = .ok (.aload_n 0, 1) := by decide +kernel
theorem d_NE_weighedBeliefs_8 : decode (kB k_NE_weighedBeliefs) 8 = .ok (.getfield 38, 3) := by decide +kernel
theorem d_NE_weighedBeliefs_11 : decode (kB k_NE_weighedBeliefs) 11 = .ok (.iload_n 1, 1) := by decide +kernel
theorem d_NE_weighedBeliefs_12 : decode (kB k_NE_weighedBeliefs) 12 = .ok (.invokevirtual 105, 3) := by decide +kernel
theorem d_NE_weighedBeliefs_15 : decode (kB k_NE_weighedBeliefs) 15 = .ok (.if_icmp .ge (27), 3) := by decide +kernel
theorem d_NE_weighedBeliefs_18 : decode (kB k_NE_weighedBeliefs) 18 = .ok (.dload_n 2, 1) := by decide +kernel
theorem d_NE_weighedBeliefs_19 : decode (kB k_NE_weighedBeliefs) 19 = .ok (.aload_n 0, 1) := by decide +kernel
theorem d_NE_weighedBeliefs_20 : decode (kB k_NE_weighedBeliefs) 20 = .ok (.iload_n 1, 1) := by decide +kernel
theorem d_NE_weighedBeliefs_21 : decode (kB k_NE_weighedBeliefs) 21 = .ok (.iload 4, 2) := by decide +kernel
theorem d_NE_weighedBeliefs_23 : decode (kB k_NE_weighedBeliefs) 23 = .ok (.invokevirtual 155, 3) := by decide +kernel
theorem d_NE_weighedBeliefs_26 : decode (kB k_NE_weighedBeliefs) 26 = .ok (.aload_n 0, 1) := by decide +kernel
theorem d_NE_weighedBeliefs_27 : decode (kB k_NE_weighedBeliefs) 27 = .ok (.iload_n 1, 1) := by decide +kernel
theorem d_NE_weighedBeliefs_28 : decode (kB k_NE_weighedBeliefs) 28 = .ok (.iload 4, 2) := by decide +kernel
theorem d_NE_weighedBeliefs_30 : decode (kB k_NE_weighedBeliefs) 30 = .ok (.invokevirtual 139, 3) := by decide +kernel
theorem d_NE_weighedBeliefs_33 : decode (kB k_NE_weighedBeliefs) 33 = .ok (.dmul, 1) := by decide +kernel
theorem d_NE_weighedBeliefs_34 : decode (kB k_NE_weighedBeliefs) 34 = .ok (.dadd, 1) := by decide +kernel
theorem d_NE_weighedBeliefs_35 : decode (kB k_NE_weighedBeliefs) 35 = .ok (.dstore_n 2, 1) := by decide +kernel
theorem d_NE_weighedBeliefs_36 : decode (kB k_NE_weighedBeliefs) 36 = .ok (.iinc 4 1, 3) := by decide +kernel
theorem d_NE_weighedBeliefs_39 : decode (kB k_NE_weighedBeliefs) 39 = .ok (.goto (-34), 3) := by decide +kernel
theorem d_NE_weighedBeliefs_42 : decode (kB k_NE_weighedBeliefs) 42 = .ok (.dload_n 2, 1) := by decide +kernel
theorem d_NE_weighedBeliefs_43 : decode (kB k_NE_weighedBeliefs) 43 = .ok (.dreturn, 1) := by decide +kernel
