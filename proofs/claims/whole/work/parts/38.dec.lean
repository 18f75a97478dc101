/-! what the bytes say (written by gen/names.py) -/
theorem d_MO_model_0 : decode (kB k_MO_model) 0 = .ok (.iload_n 1, 1) := by decide +kernel
theorem d_MO_model_1 : decode (kB k_MO_model) 1 = .ok (.iconst 1, 1) := by decide +kernel
theorem d_MO_model_2 : decode (kB k_MO_model) 2 = .ok (.iconst 4, 1) := by decide +kernel
theorem d_MO_model_3 : decode (kB k_MO_model) 3 = .ok (.invokestatic 54, 3) := by decide +kernel
theorem d_MO_model_6 : decode (kB k_MO_model) 6 = .ok (.ifCond .ne (9), 3) := by decide +kernel
theorem d_MO_model_9 : decode (kB k_MO_model) 9 = .ok (.aload_n 0, 1) := by decide +kernel
theorem d_MO_model_10 : decode (kB k_MO_model) 10 = .ok (.iconst 1, 1) := by decide +kernel
theorem d_MO_model_11 : decode (kB k_MO_model) 11 = .ok (.invokevirtual 58, 3) := by decide +kernel
theorem d_MO_model_14 : decode (kB k_MO_model) 14 = .ok (.ireturn, 1) := by decide +kernel
theorem d_MO_model_15 : decode (kB k_MO_model) 15 = .ok (.aload_n 0, 1) := by decide +kernel
theorem d_MO_model_16 : decode (kB k_MO_model) 16 = .ok (.getfield 146, 3) := by decide +kernel
theorem d_MO_model_19 : decode (kB k_MO_model) 19 = .ok (.ifCond .ne (9), 3) := by decide +kernel
theorem d_MO_model_22 : decode (kB k_MO_model) 22 = .ok (.aload_n 0, 1) := by decide +kernel
theorem d_MO_model_23 : decode (kB k_MO_model) 23 = .ok (.iconst 2, 1) := by decide +kernel
theorem d_MO_model_24 : decode (kB k_MO_model) 24 = .ok (.invokevirtual 58, 3) := by decide +kernel
theorem d_MO_model_27 : decode (kB k_MO_model) 27 = .ok (.ireturn, 1) := by decide +kernel
theorem d_MO_model_28 : decode (kB k_MO_model) 28 = .ok (.aload_n 0, 1) := by decide +kernel
theorem d_MO_model_29 : decode (kB k_MO_model) 29 = .ok (.iconst 0, 1) := by decide +kernel
theorem d_MO_model_30 : decode (kB k_MO_model) 30 = .ok (.putfield 50, 3) := by decide +kernel
theorem d_MO_model_33 : decode (kB k_MO_model) 33 = .ok (.iconst 0, 1) := by decide +kernel
theorem d_MO_model_34 : decode (kB k_MO_model) 34 = .ok (.istore_n 2, 1) := by decide +kernel
theorem d_MO_model_35 : decode (kB k_MO_model) 35 = .ok (.iconst 0, 1) := by decide +kernel
theorem d_MO_model_36 : decode (kB k_MO_model) 36 = .ok (.istore_n 3, 1) := by decide +kernel
theorem d_MO_model_37 : decode (kB k_MO_model) 37 = .ok (.aload_n 0, 1) := by decide +kernel
theorem d_MO_model_38 : decode (kB k_MO_model) 38 = .ok (.iconst 0, 1) := by decide +kernel
theorem d_MO_model_39 : decode (kB k_MO_model) 39 = .ok (.putfield 68, 3) := by decide +kernel
theorem d_MO_model_42 : decode (kB k_MO_model) 42 = .ok (.aload_n 0, 1) := by decide +kernel
theorem d_MO_model_43 : decode (kB k_MO_model) 43 = .ok (.bipush 9, 2) := by decide +kernel
theorem d_MO_model_45 : decode (kB k_MO_model) 45 = .ok (.iconst 0, 1) := by decide +kernel
theorem d_MO_model_46 : decode (kB k_MO_model) 46 = .ok (.dconst 1, 1) := by decide +kernel
theorem d_MO_model_47 : decode (kB k_MO_model) 47 = .ok (.invokevirtual 92, 3) := by decide +kernel
theorem d_MO_model_50 : decode (kB k_MO_model) 50 = .ok (.iconst 1, 1) := by decide +kernel
theorem d_MO_model_51 : decode (kB k_MO_model) 51 = .ok (.istore 4, 2) := by decide +kernel
theorem d_MO_model_53 : decode (kB k_MO_model) 53 = .ok (.iload_n 3, 1) := by decide +kernel
theorem d_MO_model_54 : decode (kB k_MO_model) 54 = .ok (.iload_n 1, 1) := by decide +kernel
theorem d_MO_model_55 : decode (kB k_MO_model) 55 = .ok (.if_icmp .ge (118), 3) := by decide +kernel
theorem d_MO_model_58 : decode (kB k_MO_model) 58 = .ok (.iload 4, 2) := by decide +kernel
theorem d_MO_model_60 : decode (kB k_MO_model) 60 = .ok (.ifCond .eq (113), 3) := by decide +kernel
theorem d_MO_model_63 : decode (kB k_MO_model) 63 = .ok (.iconst (-1), 1) := by decide +kernel
theorem d_MO_model_64 : decode (kB k_MO_model) 64 = .ok (.istore 5, 2) := by decide +kernel
theorem d_MO_model_66 : decode (kB k_MO_model) 66 = .ok (.iconst 0, 1) := by decide +kernel
theorem d_MO_model_67 : decode (kB k_MO_model) 67 = .ok (.istore 6, 2) := by decide +kernel
theorem d_MO_model_69 : decode (kB k_MO_model) 69 = .ok (.iload 6, 2) := by decide +kernel
theorem d_MO_model_71 : decode (kB k_MO_model) 71 = .ok (.bipush 16, 2) := by decide +kernel
theorem d_MO_model_73 : decode (kB k_MO_model) 73 = .ok (.if_icmp .ge (54), 3) := by decide +kernel
theorem d_MO_model_76 : decode (kB k_MO_model) 76 = .ok (.iload_n 2, 1) := by decide +kernel
theorem d_MO_model_77 : decode (kB k_MO_model) 77 = .ok (.iload 6, 2) := by decide +kernel
theorem d_MO_model_79 : decode (kB k_MO_model) 79 = .ok (.ishr, 1) := by decide +kernel
theorem d_MO_model_80 : decode (kB k_MO_model) 80 = .ok (.iconst 1, 1) := by decide +kernel
theorem d_MO_model_81 : decode (kB k_MO_model) 81 = .ok (.iand, 1) := by decide +kernel
theorem d_MO_model_82 : decode (kB k_MO_model) 82 = .ok (.ifCond .ne (39), 3) := by decide +kernel
theorem d_MO_model_85 : decode (kB k_MO_model) 85 = .ok (.aload_n 0, 1) := by decide +kernel
theorem d_MO_model_86 : decode (kB k_MO_model) 86 = .ok (.iload 6, 2) := by decide +kernel
theorem d_MO_model_88 : decode (kB k_MO_model) 88 = .ok (.invokevirtual 156, 3) := by decide +kernel
theorem d_MO_model_91 : decode (kB k_MO_model) 91 = .ok (.dconst 0, 1) := by decide +kernel
theorem d_MO_model_92 : decode (kB k_MO_model) 92 = .ok (.dcmp .l, 1) := by decide +kernel
theorem d_MO_model_93 : decode (kB k_MO_model) 93 = .ok (.ifCond .le (28), 3) := by decide +kernel
theorem d_MO_model_96 : decode (kB k_MO_model) 96 = .ok (.iload 5, 2) := by decide +kernel
theorem d_MO_model_98 : decode (kB k_MO_model) 98 = .ok (.ifCond .lt (19), 3) := by decide +kernel
theorem d_MO_model_101 : decode (kB k_MO_model) 101 = .ok (.aload_n 0, 1) := by decide +kernel
theorem d_MO_model_102 : decode (kB k_MO_model) 102 = .ok (.iload 6, 2) := by decide +kernel
theorem d_MO_model_104 : decode (kB k_MO_model) 104 = .ok (.invokevirtual 156, 3) := by decide +kernel
theorem d_MO_model_107 : decode (kB k_MO_model) 107 = .ok (.aload_n 0, 1) := by decide +kernel
theorem d_MO_model_108 : decode (kB k_MO_model) 108 = .ok (.iload 5, 2) := by decide +kernel
theorem d_MO_model_110 : decode (kB k_MO_model) 110 = .ok (.invokevirtual 156, 3) := by decide +kernel
theorem d_MO_model_113 : decode (kB k_MO_model) 113 = .ok (.dcmp .l, 1) := by decide +kernel
theorem d_MO_model_114 : decode (kB k_MO_model) 114 = .ok (.ifCond .le (7), 3) := by decide +kernel
theorem d_MO_model_117 : decode (kB k_MO_model) 117 = .ok (.iload 6, 2) := by decide +kernel
theorem d_MO_model_119 : decode (kB k_MO_model) 119 = .ok (.istore 5, 2) := by decide +kernel
theorem d_MO_model_121 : decode (kB k_MO_model) 121 = .ok (.iinc 6 1, 3) := by decide +kernel
theorem d_MO_model_124 : decode (kB k_MO_model) 124 = .ok (.goto (-55), 3) := by decide +kernel
theorem d_MO_model_127 : decode (kB k_MO_model) 127 = .ok (.iload 5, 2) := by decide +kernel
theorem d_MO_model_129 : decode (kB k_MO_model) 129 = .ok (.ifCond .lt (7), 3) := by decide +kernel
theorem d_MO_model_132 : decode (kB k_MO_model) 132 = .ok (.iconst 1, 1) := by decide +kernel
theorem d_MO_model_133 : decode (kB k_MO_model) 133 = .ok (.goto (4), 3) := by decide +kernel
theorem d_MO_model_136 : decode (kB k_MO_model) 136 = .ok (.iconst 0, 1) := by decide +kernel
theorem d_MO_model_137 : decode (kB k_MO_model) 137 = .ok (.istore 4, 2) := by decide +kernel
theorem d_MO_model_139 : decode (kB k_MO_model) 139 = .ok (.iload 4, 2) := by decide +kernel
theorem d_MO_model_141 : decode (kB k_MO_model) 141 = .ok (.ifCond .ne (6), 3) := by decide +kernel
theorem d_MO_model_144 : decode (kB k_MO_model) 144 = .ok (.goto (-91), 3) := by decide +kernel
theorem d_MO_model_147 : decode (kB k_MO_model) 147 = .ok (.iload_n 2, 1) := by decide +kernel
theorem d_MO_model_148 : decode (kB k_MO_model) 148 = .ok (.iconst 1, 1) := by decide +kernel
theorem d_MO_model_149 : decode (kB k_MO_model) 149 = .ok (.iload 5, 2) := by decide +kernel
theorem d_MO_model_151 : decode (kB k_MO_model) 151 = .ok (.ishl, 1) := by decide +kernel
theorem d_MO_model_152 : decode (kB k_MO_model) 152 = .ok (.ior, 1) := by decide +kernel
theorem d_MO_model_153 : decode (kB k_MO_model) 153 = .ok (.istore_n 2, 1) := by decide +kernel
theorem d_MO_model_154 : decode (kB k_MO_model) 154 = .ok (.aload_n 0, 1) := by decide +kernel
theorem d_MO_model_155 : decode (kB k_MO_model) 155 = .ok (.iconst 0, 1) := by decide +kernel
theorem d_MO_model_156 : decode (kB k_MO_model) 156 = .ok (.iload 5, 2) := by decide +kernel
theorem d_MO_model_158 : decode (kB k_MO_model) 158 = .ok (.aload_n 0, 1) := by decide +kernel
theorem d_MO_model_159 : decode (kB k_MO_model) 159 = .ok (.iload 5, 2) := by decide +kernel
theorem d_MO_model_161 : decode (kB k_MO_model) 161 = .ok (.invokevirtual 156, 3) := by decide +kernel
theorem d_MO_model_164 : decode (kB k_MO_model) 164 = .ok (.invokevirtual 92, 3) := by decide +kernel
theorem d_MO_model_167 : decode (kB k_MO_model) 167 = .ok (.iinc 3 1, 3) := by decide +kernel
theorem d_MO_model_170 : decode (kB k_MO_model) 170 = .ok (.goto (-117), 3) := by decide +kernel
theorem d_MO_model_173 : decode (kB k_MO_model) 173 = .ok (.aload_n 0, 1) := by decide +kernel
theorem d_MO_model_174 : decode (kB k_MO_model) 174 = .ok (.getfield 22, 3) := by decide +kernel
theorem d_MO_model_177 : decode (kB k_MO_model) 177 = .ok (.iconst 0, 1) := by decide +kernel
theorem d_MO_model_178 : decode (kB k_MO_model) 178 = .ok (.iload_n 3, 1) := by decide +kernel
theorem d_MO_model_179 : decode (kB k_MO_model) 179 = .ok (.iastore, 1) := by decide +kernel
theorem d_MO_model_180 : decode (kB k_MO_model) 180 = .ok (.iload_n 3, 1) := by decide +kernel
theorem d_MO_model_181 : decode (kB k_MO_model) 181 = .ok (.iconst 1, 1) := by decide +kernel
theorem d_MO_model_182 : decode (kB k_MO_model) 182 = .ok (.if_icmp .le (8), 3) := by decide +kernel
theorem d_MO_model_185 : decode (kB k_MO_model) 185 = .ok (.aload_n 0, 1) := by decide +kernel
theorem d_MO_model_186 : decode (kB k_MO_model) 186 = .ok (.getfield 68, 3) := by decide +kernel
theorem d_MO_model_189 : decode (kB k_MO_model) 189 = .ok (.ireturn, 1) := by decide +kernel
theorem d_MO_model_190 : decode (kB k_MO_model) 190 = .ok (.iload_n 3, 1) := by decide +kernel
theorem d_MO_model_191 : decode (kB k_MO_model) 191 = .ok (.iconst 1, 1) := by decide +kernel
theorem d_MO_model_192 : decode (kB k_MO_model) 192 = .ok (.if_icmp .ne (34), 3) := by decide +kernel
theorem d_MO_model_195 : decode (kB k_MO_model) 195 = .ok (.aload_n 0, 1) := by decide +kernel
theorem d_MO_model_196 : decode (kB k_MO_model) 196 = .ok (.getfield 19, 3) := by decide +kernel
theorem d_MO_model_199 : decode (kB k_MO_model) 199 = .ok (.iconst 0, 1) := by decide +kernel
theorem d_MO_model_200 : decode (kB k_MO_model) 200 = .ok (.iconst 0, 1) := by decide +kernel
theorem d_MO_model_201 : decode (kB k_MO_model) 201 = .ok (.iastore, 1) := by decide +kernel
theorem d_MO_model_202 : decode (kB k_MO_model) 202 = .ok (.aload_n 0, 1) := by decide +kernel
theorem d_MO_model_203 : decode (kB k_MO_model) 203 = .ok (.getfield 22, 3) := by decide +kernel
theorem d_MO_model_206 : decode (kB k_MO_model) 206 = .ok (.iconst 0, 1) := by decide +kernel
theorem d_MO_model_207 : decode (kB k_MO_model) 207 = .ok (.aload_n 0, 1) := by decide +kernel
theorem d_MO_model_208 : decode (kB k_MO_model) 208 = .ok (.getfield 22, 3) := by decide +kernel
theorem d_MO_model_211 : decode (kB k_MO_model) 211 = .ok (.iconst 1, 1) := by decide +kernel
theorem d_MO_model_212 : decode (kB k_MO_model) 212 = .ok (.iaload, 1) := by decide +kernel
theorem d_MO_model_213 : decode (kB k_MO_model) 213 = .ok (.iastore, 1) := by decide +kernel
theorem d_MO_model_214 : decode (kB k_MO_model) 214 = .ok (.aload_n 0, 1) := by decide +kernel
theorem d_MO_model_215 : decode (kB k_MO_model) 215 = .ok (.getfield 25, 3) := by decide +kernel
theorem d_MO_model_218 : decode (kB k_MO_model) 218 = .ok (.iconst 0, 1) := by decide +kernel
theorem d_MO_model_219 : decode (kB k_MO_model) 219 = .ok (.aload_n 0, 1) := by decide +kernel
theorem d_MO_model_220 : decode (kB k_MO_model) 220 = .ok (.getfield 25, 3) := by decide +kernel
theorem d_MO_model_223 : decode (kB k_MO_model) 223 = .ok (.iconst 1, 1) := by decide +kernel
theorem d_MO_model_224 : decode (kB k_MO_model) 224 = .ok (.daload, 1) := by decide +kernel
theorem d_MO_model_225 : decode (kB k_MO_model) 225 = .ok (.dastore, 1) := by decide +kernel
theorem d_MO_model_226 : decode (kB k_MO_model) 226 = .ok (.aload_n 0, 1) := by decide +kernel
theorem d_MO_model_227 : decode (kB k_MO_model) 227 = .ok (.iload_n 3, 1) := by decide +kernel
theorem d_MO_model_228 : decode (kB k_MO_model) 228 = .ok (.putfield 68, 3) := by decide +kernel
theorem d_MO_model_231 : decode (kB k_MO_model) 231 = .ok (.aload_n 0, 1) := by decide +kernel
theorem d_MO_model_232 : decode (kB k_MO_model) 232 = .ok (.getfield 68, 3) := by decide +kernel
theorem d_MO_model_235 : decode (kB k_MO_model) 235 = .ok (.ireturn, 1) := by decide +kernel
theorem d_MO_told_0 : decode (kB k_MO_told) 0 = .ok (.iload_n 1, 1) := by decide +kernel
theorem d_MO_told_1 : decode (kB k_MO_told) 1 = .ok (.iconst 0, 1) := by decide +kernel
theorem d_MO_told_2 : decode (kB k_MO_told) 2 = .ok (.aload_n 0, 1) := by decide +kernel
theorem d_MO_told_3 : decode (kB k_MO_told) 3 = .ok (.getfield 68, 3) := by decide +kernel
theorem d_MO_told_6 : decode (kB k_MO_told) 6 = .ok (.iconst 1, 1) := by decide +kernel
theorem d_MO_told_7 : decode (kB k_MO_told) 7 = .ok (.isub, 1) := by decide +kernel
theorem d_MO_told_8 : decode (kB k_MO_told) 8 = .ok (.invokestatic 54, 3) := by decide +kernel
theorem d_MO_told_11 : decode (kB k_MO_told) 11 = .ok (.ifCond .ne (10), 3) := by decide +kernel
theorem d_MO_told_14 : decode (kB k_MO_told) 14 = .ok (.aload_n 0, 1) := by decide +kernel
theorem d_MO_told_15 : decode (kB k_MO_told) 15 = .ok (.iconst 1, 1) := by decide +kernel
theorem d_MO_told_16 : decode (kB k_MO_told) 16 = .ok (.invokevirtual 58, 3) := by decide +kernel
theorem d_MO_told_19 : decode (kB k_MO_told) 19 = .ok (.i2d, 1) := by decide +kernel
theorem d_MO_told_20 : decode (kB k_MO_told) 20 = .ok (.dreturn, 1) := by decide +kernel
theorem d_MO_told_21 : decode (kB k_MO_told) 21 = .ok (.iload_n 2, 1) := by decide +kernel
theorem d_MO_told_22 : decode (kB k_MO_told) 22 = .ok (.iconst 0, 1) := by decide +kernel
theorem d_MO_told_23 : decode (kB k_MO_told) 23 = .ok (.iconst 2, 1) := by decide +kernel
theorem d_MO_told_24 : decode (kB k_MO_told) 24 = .ok (.invokestatic 54, 3) := by decide +kernel
theorem d_MO_told_27 : decode (kB k_MO_told) 27 = .ok (.ifCond .ne (10), 3) := by decide +kernel
theorem d_MO_told_30 : decode (kB k_MO_told) 30 = .ok (.aload_n 0, 1) := by decide +kernel
theorem d_MO_told_31 : decode (kB k_MO_told) 31 = .ok (.iconst 2, 1) := by decide +kernel
theorem d_MO_told_32 : decode (kB k_MO_told) 32 = .ok (.invokevirtual 58, 3) := by decide +kernel
theorem d_MO_told_35 : decode (kB k_MO_told) 35 = .ok (.i2d, 1) := by decide +kernel
theorem d_MO_told_36 : decode (kB k_MO_told) 36 = .ok (.dreturn, 1) := by decide +kernel
theorem d_MO_told_37 : decode (kB k_MO_told) 37 = .ok (.aload_n 0, 1) := by decide +kernel
theorem d_MO_told_38 : decode (kB k_MO_told) 38 = .ok (.iconst 0, 1) := by decide +kernel
theorem d_MO_told_39 : decode (kB k_MO_told) 39 = .ok (.putfield 50, 3) := by decide +kernel
theorem d_MO_told_42 : decode (kB k_MO_told) 42 = .ok (.iload_n 2, 1) := by decide +kernel
theorem d_MO_told_43 : decode (kB k_MO_told) 43 = .ok (.ifCond .ne (13), 3) := by decide +kernel
theorem d_MO_told_46 : decode (kB k_MO_told) 46 = .ok (.aload_n 0, 1) := by decide +kernel
theorem d_MO_told_47 : decode (kB k_MO_told) 47 = .ok (.getfield 19, 3) := by decide +kernel
theorem d_MO_told_50 : decode (kB k_MO_told) 50 = .ok (.iload_n 1, 1) := by decide +kernel
theorem d_MO_told_51 : decode (kB k_MO_told) 51 = .ok (.iaload, 1) := by decide +kernel
theorem d_MO_told_52 : decode (kB k_MO_told) 52 = .ok (.i2d, 1) := by decide +kernel
theorem d_MO_told_53 : decode (kB k_MO_told) 53 = .ok (.goto (24), 3) := by decide +kernel
theorem d_MO_told_56 : decode (kB k_MO_told) 56 = .ok (.iload_n 2, 1) := by decide +kernel
theorem d_MO_told_57 : decode (kB k_MO_told) 57 = .ok (.iconst 1, 1) := by decide +kernel
theorem d_MO_told_58 : decode (kB k_MO_told) 58 = .ok (.if_icmp .ne (13), 3) := by decide +kernel
theorem d_MO_told_61 : decode (kB k_MO_told) 61 = .ok (.aload_n 0, 1) := by decide +kernel
theorem d_MO_told_62 : decode (kB k_MO_told) 62 = .ok (.getfield 22, 3) := by decide +kernel
theorem d_MO_told_65 : decode (kB k_MO_told) 65 = .ok (.iload_n 1, 1) := by decide +kernel
theorem d_MO_told_66 : decode (kB k_MO_told) 66 = .ok (.iaload, 1) := by decide +kernel
theorem d_MO_told_67 : decode (kB k_MO_told) 67 = .ok (.i2d, 1) := by decide +kernel
theorem d_MO_told_68 : decode (kB k_MO_told) 68 = .ok (.goto (9), 3) := by decide +kernel
theorem d_MO_told_71 : decode (kB k_MO_told) 71 = .ok (.aload_n 0, 1) := by decide +kernel
theorem d_MO_told_72 : decode (kB k_MO_told) 72 = .ok (.getfield 25, 3) := by decide +kernel
theorem d_MO_told_75 : decode (kB k_MO_told) 75 = .ok (.iload_n 1, 1) := by decide +kernel
theorem d_MO_told_76 : decode (kB k_MO_told) 76 = .ok (.daload, 1) := by decide +kernel
theorem d_MO_told_77 : decode (kB k_MO_told) 77 = .ok (.dreturn, 1) := by decide +kernel
theorem d_MO_count_0 : decode (kB k_MO_count) 0 = .ok (.aload_n 0, 1) := by decide +kernel
theorem d_MO_count_1 : decode (kB k_MO_count) 1 = .ok (.iconst 0, 1) := by decide +kernel
theorem d_MO_count_2 : decode (kB k_MO_count) 2 = .ok (.putfield 50, 3) := by decide +kernel
theorem d_MO_count_5 : decode (kB k_MO_count) 5 = .ok (.iload_n 1, 1) := by decide +kernel
theorem d_MO_count_6 : decode (kB k_MO_count) 6 = .ok (.bipush 10, 2) := by decide +kernel
theorem d_MO_count_8 : decode (kB k_MO_count) 8 = .ok (.bipush 21, 2) := by decide +kernel
theorem d_MO_count_10 : decode (kB k_MO_count) 10 = .ok (.invokestatic 54, 3) := by decide +kernel
theorem d_MO_count_13 : decode (kB k_MO_count) 13 = .ok (.ifCond .eq (28), 3) := by decide +kernel
theorem d_MO_count_16 : decode (kB k_MO_count) 16 = .ok (.iload_n 1, 1) := by decide +kernel
theorem d_MO_count_17 : decode (kB k_MO_count) 17 = .ok (.bipush 10, 2) := by decide +kernel
theorem d_MO_count_19 : decode (kB k_MO_count) 19 = .ok (.isub, 1) := by decide +kernel
theorem d_MO_count_20 : decode (kB k_MO_count) 20 = .ok (.aload_n 0, 1) := by decide +kernel
theorem d_MO_count_21 : decode (kB k_MO_count) 21 = .ok (.getfield 62, 3) := by decide +kernel
theorem d_MO_count_24 : decode (kB k_MO_count) 24 = .ok (.if_icmp .ge (15), 3) := by decide +kernel
theorem d_MO_count_27 : decode (kB k_MO_count) 27 = .ok (.aload_n 0, 1) := by decide +kernel
theorem d_MO_count_28 : decode (kB k_MO_count) 28 = .ok (.getfield 13, 3) := by decide +kernel
theorem d_MO_count_31 : decode (kB k_MO_count) 31 = .ok (.iload_n 1, 1) := by decide +kernel
theorem d_MO_count_32 : decode (kB k_MO_count) 32 = .ok (.bipush 10, 2) := by decide +kernel
theorem d_MO_count_34 : decode (kB k_MO_count) 34 = .ok (.isub, 1) := by decide +kernel
theorem d_MO_count_35 : decode (kB k_MO_count) 35 = .ok (.iaload, 1) := by decide +kernel
theorem d_MO_count_36 : decode (kB k_MO_count) 36 = .ok (.goto (4), 3) := by decide +kernel
theorem d_MO_count_39 : decode (kB k_MO_count) 39 = .ok (.iconst 0, 1) := by decide +kernel
theorem d_MO_count_40 : decode (kB k_MO_count) 40 = .ok (.ireturn, 1) := by decide +kernel
theorem d_MO_count_41 : decode (kB k_MO_count) 41 = .ok (.iload_n 1, 1) := by decide +kernel
theorem d_MO_count_42 : decode (kB k_MO_count) 42 = .ok (.bipush 30, 2) := by decide +kernel
theorem d_MO_count_44 : decode (kB k_MO_count) 44 = .ok (.bipush 45, 2) := by decide +kernel
theorem d_MO_count_46 : decode (kB k_MO_count) 46 = .ok (.invokestatic 54, 3) := by decide +kernel
theorem d_MO_count_49 : decode (kB k_MO_count) 49 = .ok (.ifCond .eq (38), 3) := by decide +kernel
theorem d_MO_count_52 : decode (kB k_MO_count) 52 = .ok (.iconst 0, 1) := by decide +kernel
theorem d_MO_count_53 : decode (kB k_MO_count) 53 = .ok (.istore_n 2, 1) := by decide +kernel
theorem d_MO_count_54 : decode (kB k_MO_count) 54 = .ok (.iconst 0, 1) := by decide +kernel
theorem d_MO_count_55 : decode (kB k_MO_count) 55 = .ok (.istore_n 3, 1) := by decide +kernel
theorem d_MO_count_56 : decode (kB k_MO_count) 56 = .ok (.iload_n 3, 1) := by decide +kernel
theorem d_MO_count_57 : decode (kB k_MO_count) 57 = .ok (.aload_n 0, 1) := by decide +kernel
theorem d_MO_count_58 : decode (kB k_MO_count) 58 = .ok (.getfield 62, 3) := by decide +kernel
theorem d_MO_count_61 : decode (kB k_MO_count) 61 = .ok (.if_icmp .ge (24), 3) := by decide +kernel
theorem d_MO_count_64 : decode (kB k_MO_count) 64 = .ok (.iload_n 2, 1) := by decide +kernel
theorem d_MO_count_65 : decode (kB k_MO_count) 65 = .ok (.aload_n 0, 1) := by decide +kernel
theorem d_MO_count_66 : decode (kB k_MO_count) 66 = .ok (.iload_n 3, 1) := by decide +kernel
theorem d_MO_count_67 : decode (kB k_MO_count) 67 = .ok (.iload_n 1, 1) := by decide +kernel
theorem d_MO_count_68 : decode (kB k_MO_count) 68 = .ok (.bipush 30, 2) := by decide +kernel
theorem d_MO_count_70 : decode (kB k_MO_count) 70 = .ok (.isub, 1) := by decide +kernel
theorem d_MO_count_71 : decode (kB k_MO_count) 71 = .ok (.invokevirtual 96, 3) := by decide +kernel
theorem d_MO_count_74 : decode (kB k_MO_count) 74 = .ok (.invokestatic 113, 3) := by decide +kernel
theorem d_MO_count_77 : decode (kB k_MO_count) 77 = .ok (.iadd, 1) := by decide +kernel
theorem d_MO_count_78 : decode (kB k_MO_count) 78 = .ok (.istore_n 2, 1) := by decide +kernel
theorem d_MO_count_79 : decode (kB k_MO_count) 79 = .ok (.iinc 3 1, 3) := by decide +kernel
theorem d_MO_count_82 : decode (kB k_MO_count) 82 = .ok (.goto (-26), 3) := by decide +kernel
theorem d_MO_count_85 : decode (kB k_MO_count) 85 = .ok (.iload_n 2, 1) := by decide +kernel
theorem d_MO_count_86 : decode (kB k_MO_count) 86 = .ok (.ireturn, 1) := by decide +kernel
theorem d_MO_count_87 : decode (kB k_MO_count) 87 = .ok (.iload_n 1, 1) := by decide +kernel
theorem d_MO_count_88 : decode (kB k_MO_count) 88 = .ok (.tableswitch (61) (0) (4) #[36, 41, 46, 51, 56], 36) := by decide +kernel
theorem d_MO_count_124 : decode (kB k_MO_count) 124 = .ok (.aload_n 0, 1) := by decide +kernel
theorem d_MO_count_125 : decode (kB k_MO_count) 125 = .ok (.getfield 62, 3) := by decide +kernel
theorem d_MO_count_128 : decode (kB k_MO_count) 128 = .ok (.ireturn, 1) := by decide +kernel
theorem d_MO_count_129 : decode (kB k_MO_count) 129 = .ok (.aload_n 0, 1) := by decide +kernel
theorem d_MO_count_130 : decode (kB k_MO_count) 130 = .ok (.invokevirtual 118, 3) := by decide +kernel
theorem d_MO_count_133 : decode (kB k_MO_count) 133 = .ok (.ireturn, 1) := by decide +kernel
theorem d_MO_count_134 : decode (kB k_MO_count) 134 = .ok (.aload_n 0, 1) := by decide +kernel
theorem d_MO_count_135 : decode (kB k_MO_count) 135 = .ok (.getfield 68, 3) := by decide +kernel
theorem d_MO_count_138 : decode (kB k_MO_count) 138 = .ok (.ireturn, 1) := by decide +kernel
theorem d_MO_count_139 : decode (kB k_MO_count) 139 = .ok (.aload_n 0, 1) := by decide +kernel
theorem d_MO_count_140 : decode (kB k_MO_count) 140 = .ok (.getfield 146, 3) := by decide +kernel
theorem d_MO_count_143 : decode (kB k_MO_count) 143 = .ok (.ireturn, 1) := by decide +kernel
theorem d_MO_count_144 : decode (kB k_MO_count) 144 = .ok (.aload_n 0, 1) := by decide +kernel
theorem d_MO_count_145 : decode (kB k_MO_count) 145 = .ok (.getfield 149, 3) := by decide +kernel
theorem d_MO_count_148 : decode (kB k_MO_count) 148 = .ok (.ireturn, 1) := by decide +kernel
theorem d_MO_count_149 : decode (kB k_MO_count) 149 = .ok (.aload_n 0, 1) := by decide +kernel
theorem d_MO_count_150 : decode (kB k_MO_count) 150 = .ok (.iconst 1, 1) := by decide +kernel
theorem d_MO_count_151 : decode (kB k_MO_count) 151 = .ok (.invokevirtual 58, 3) := by decide +kernel
theorem d_MO_count_154 : decode (kB k_MO_count) 154 = .ok (.ireturn, 1) := by decide +kernel
theorem d_LA_document_0 : decode (kB k_LA_document) 0 = .ok (.aload_n 2, 1) := by decide +kernel
theorem d_LA_document_1 : decode (kB k_LA_document) 1 = .ok (.iconst 0, 1) := by decide +kernel
theorem d_LA_document_2 : decode (kB k_LA_document) 2 = .ok (.aload_n 0, 1) := by decide +kernel
theorem d_LA_document_3 : decode (kB k_LA_document) 3 = .ok (.iload_n 1, 1) := by decide +kernel
theorem d_LA_document_4 : decode (kB k_LA_document) 4 = .ok (.invokevirtual 7, 3) := by decide +kernel
theorem d_LA_document_7 : decode (kB k_LA_document) 7 = .ok (.i2l, 1) := by decide +kernel
theorem d_LA_document_8 : decode (kB k_LA_document) 8 = .ok (.lastore, 1) := by decide +kernel
theorem d_LA_document_9 : decode (kB k_LA_document) 9 = .ok (.goto (9), 3) := by decide +kernel
theorem d_LA_document_12 : decode (kB k_LA_document) 12 = .ok (.astore_n 3, 1) := by decide +kernel
theorem d_LA_document_13 : decode (kB k_LA_document) 13 = .ok (.iconst 1, 1) := by decide +kernel
theorem d_LA_document_14 : decode (kB k_LA_document) 14 = .ok (.ireturn, 1) := by decide +kernel
theorem d_LA_document_15 : decode (kB k_LA_document) 15 = .ok (.astore_n 3, 1) := by decide +kernel
theorem d_LA_document_16 : decode (kB k_LA_document) 16 = .ok (.iconst 2, 1) := by decide +kernel
theorem d_LA_document_17 : decode (kB k_LA_document) 17 = .ok (.ireturn, 1) := by decide +kernel
theorem d_LA_document_18 : decode (kB k_LA_document) 18 = .ok (.iconst 0, 1) := by decide +kernel
theorem d_LA_document_19 : decode (kB k_LA_document) 19 = .ok (.ireturn, 1) := by decide +kernel
theorem d_LA_word_0 : decode (kB k_LA_word) 0 = .ok (.aload_n 2, 1) := by decide +kernel
theorem d_LA_word_1 : decode (kB k_LA_word) 1 = .ok (.iconst 0, 1) := by decide +kernel
theorem d_LA_word_2 : decode (kB k_LA_word) 2 = .ok (.aload_n 0, 1) := by decide +kernel
theorem d_LA_word_3 : decode (kB k_LA_word) 3 = .ok (.iload_n 1, 1) := by decide +kernel
theorem d_LA_word_4 : decode (kB k_LA_word) 4 = .ok (.invokevirtual 17, 3) := by decide +kernel
theorem d_LA_word_7 : decode (kB k_LA_word) 7 = .ok (.i2l, 1) := by decide +kernel
theorem d_LA_word_8 : decode (kB k_LA_word) 8 = .ok (.lastore, 1) := by decide +kernel
theorem d_LA_word_9 : decode (kB k_LA_word) 9 = .ok (.goto (9), 3) := by decide +kernel
theorem d_LA_word_12 : decode (kB k_LA_word) 12 = .ok (.astore_n 3, 1) := by decide +kernel
theorem d_LA_word_13 : decode (kB k_LA_word) 13 = .ok (.iconst 1, 1) := by decide +kernel
theorem d_LA_word_14 : decode (kB k_LA_word) 14 = .ok (.ireturn, 1) := by decide +kernel
theorem d_LA_word_15 : decode (kB k_LA_word) 15 = .ok (.astore_n 3, 1) := by decide +kernel
theorem d_LA_word_16 : decode (kB k_LA_word) 16 = .ok (.iconst 2, 1) := by decide +kernel
theorem d_LA_word_17 : decode (kB k_LA_word) 17 = .ok (.ireturn, 1) := by decide +kernel
theorem d_LA_word_18 : decode (kB k_LA_word) 18 = .ok (.iconst 0, 1) := by decide +kernel
theorem d_LA_word_19 : decode (kB k_LA_word) 19 = .ok (.ireturn, 1) := by decide +kernel
theorem d_LA_smooth_0 : decode (kB k_LA_smooth) 0 = .ok (.aload 4, 2) := by decide +kernel
theorem d_LA_smooth_2 : decode (kB k_LA_smooth) 2 = .ok (.iconst 0, 1) := by decide +kernel
theorem d_LA_smooth_3 : decode (kB k_LA_smooth) 3 = .ok (.aload_n 0, 1) := by decide +kernel
theorem d_LA_smooth_4 : decode (kB k_LA_smooth) 4 = .ok (.iload_n 1, 1) := by decide +kernel
theorem d_LA_smooth_5 : decode (kB k_LA_smooth) 5 = .ok (.dload_n 2, 1) := by decide +kernel
theorem d_LA_smooth_6 : decode (kB k_LA_smooth) 6 = .ok (.invokevirtual 20, 3) := by decide +kernel
theorem d_LA_smooth_9 : decode (kB k_LA_smooth) 9 = .ok (.i2l, 1) := by decide +kernel
theorem d_LA_smooth_10 : decode (kB k_LA_smooth) 10 = .ok (.lastore, 1) := by decide +kernel
theorem d_LA_smooth_11 : decode (kB k_LA_smooth) 11 = .ok (.goto (7), 3) := by decide +kernel
theorem d_LA_smooth_14 : decode (kB k_LA_smooth) 14 = .ok (.astore 5, 2) := by decide +kernel
theorem d_LA_smooth_16 : decode (kB k_LA_smooth) 16 = .ok (.iconst 1, 1) := by decide +kernel
theorem d_LA_smooth_17 : decode (kB k_LA_smooth) 17 = .ok (.ireturn, 1) := by decide +kernel
theorem d_LA_smooth_18 : decode (kB k_LA_smooth) 18 = .ok (.iconst 0, 1) := by decide +kernel
theorem d_LA_smooth_19 : decode (kB k_LA_smooth) 19 = .ok (.ireturn, 1) := by decide +kernel
theorem d_LA_token_0 : decode (kB k_LA_token) 0 = .ok (.aload 5, 2) := by decide +kernel
theorem d_LA_token_2 : decode (kB k_LA_token) 2 = .ok (.iconst 0, 1) := by decide +kernel
theorem d_LA_token_3 : decode (kB k_LA_token) 3 = .ok (.aload_n 0, 1) := by decide +kernel
theorem d_LA_token_4 : decode (kB k_LA_token) 4 = .ok (.iload_n 1, 1) := by decide +kernel
theorem d_LA_token_5 : decode (kB k_LA_token) 5 = .ok (.iload_n 2, 1) := by decide +kernel
theorem d_LA_token_6 : decode (kB k_LA_token) 6 = .ok (.dload_n 3, 1) := by decide +kernel
theorem d_LA_token_7 : decode (kB k_LA_token) 7 = .ok (.invokevirtual 24, 3) := by decide +kernel
theorem d_LA_token_10 : decode (kB k_LA_token) 10 = .ok (.i2l, 1) := by decide +kernel
theorem d_LA_token_11 : decode (kB k_LA_token) 11 = .ok (.lastore, 1) := by decide +kernel
theorem d_LA_token_12 : decode (kB k_LA_token) 12 = .ok (.goto (15), 3) := by decide +kernel
theorem d_LA_token_15 : decode (kB k_LA_token) 15 = .ok (.astore 6, 2) := by decide +kernel
theorem d_LA_token_17 : decode (kB k_LA_token) 17 = .ok (.iconst 1, 1) := by decide +kernel
theorem d_LA_token_18 : decode (kB k_LA_token) 18 = .ok (.ireturn, 1) := by decide +kernel
theorem d_LA_token_19 : decode (kB k_LA_token) 19 = .ok (.astore 6, 2) := by decide +kernel
theorem d_LA_token_21 : decode (kB k_LA_token) 21 = .ok (.iconst 2, 1) := by decide +kernel
theorem d_LA_token_22 : decode (kB k_LA_token) 22 = .ok (.ireturn, 1) := by decide +kernel
theorem d_LA_token_23 : decode (kB k_LA_token) 23 = .ok (.astore 6, 2) := by decide +kernel
theorem d_LA_token_25 : decode (kB k_LA_token) 25 = .ok (.iconst 3, 1) := by decide +kernel
theorem d_LA_token_26 : decode (kB k_LA_token) 26 = .ok (.ireturn, 1) := by decide +kernel
theorem d_LA_token_27 : decode (kB k_LA_token) 27 = .ok (.iconst 0, 1) := by decide +kernel
theorem d_LA_token_28 : decode (kB k_LA_token) 28 = .ok (.ireturn, 1) := by decide +kernel
theorem d_LA_belief_0 : decode (kB k_LA_belief) 0 = .ok (.aload_n 2, 1) := by decide +kernel
theorem d_LA_belief_1 : decode (kB k_LA_belief) 1 = .ok (.iconst 0, 1) := by decide +kernel
theorem d_LA_belief_2 : decode (kB k_LA_belief) 2 = .ok (.aload_n 0, 1) := by decide +kernel
theorem d_LA_belief_3 : decode (kB k_LA_belief) 3 = .ok (.iload_n 1, 1) := by decide +kernel
theorem d_LA_belief_4 : decode (kB k_LA_belief) 4 = .ok (.invokevirtual 30, 3) := by decide +kernel
theorem d_LA_belief_7 : decode (kB k_LA_belief) 7 = .ok (.dastore, 1) := by decide +kernel
theorem d_LA_belief_8 : decode (kB k_LA_belief) 8 = .ok (.goto (12), 3) := by decide +kernel
theorem d_LA_belief_11 : decode (kB k_LA_belief) 11 = .ok (.astore_n 3, 1) := by decide +kernel
theorem d_LA_belief_12 : decode (kB k_LA_belief) 12 = .ok (.iconst 1, 1) := by decide +kernel
theorem d_LA_belief_13 : decode (kB k_LA_belief) 13 = .ok (.ireturn, 1) := by decide +kernel
theorem d_LA_belief_14 : decode (kB k_LA_belief) 14 = .ok (.astore_n 3, 1) := by decide +kernel
theorem d_LA_belief_15 : decode (kB k_LA_belief) 15 = .ok (.iconst 2, 1) := by decide +kernel
theorem d_LA_belief_16 : decode (kB k_LA_belief) 16 = .ok (.ireturn, 1) := by decide +kernel
theorem d_LA_belief_17 : decode (kB k_LA_belief) 17 = .ok (.astore_n 3, 1) := by decide +kernel
theorem d_LA_belief_18 : decode (kB k_LA_belief) 18 = .ok (.iconst 3, 1) := by decide +kernel
theorem d_LA_belief_19 : decode (kB k_LA_belief) 19 = .ok (.ireturn, 1) := by decide +kernel
theorem d_LA_belief_20 : decode (kB k_LA_belief) 20 = .ok (.iconst 0, 1) := by decide +kernel
theorem d_LA_belief_21 : decode (kB k_LA_belief) 21 = .ok (.ireturn, 1) := by decide +kernel
theorem d_LA_hits_0 : decode (kB k_LA_hits) 0 = .ok (.aload_n 3, 1) := by decide +kernel
theorem d_LA_hits_1 : decode (kB k_LA_hits) 1 = .ok (.iconst 0, 1) := by decide +kernel
theorem d_LA_hits_2 : decode (kB k_LA_hits) 2 = .ok (.aload_n 0, 1) := by decide +kernel
theorem d_LA_hits_3 : decode (kB k_LA_hits) 3 = .ok (.iload_n 1, 1) := by decide +kernel
theorem d_LA_hits_4 : decode (kB k_LA_hits) 4 = .ok (.iload_n 2, 1) := by decide +kernel
theorem d_LA_hits_5 : decode (kB k_LA_hits) 5 = .ok (.invokevirtual 38, 3) := by decide +kernel
theorem d_LA_hits_8 : decode (kB k_LA_hits) 8 = .ok (.i2l, 1) := by decide +kernel
theorem d_LA_hits_9 : decode (kB k_LA_hits) 9 = .ok (.lastore, 1) := by decide +kernel
theorem d_LA_hits_10 : decode (kB k_LA_hits) 10 = .ok (.goto (15), 3) := by decide +kernel
theorem d_LA_hits_13 : decode (kB k_LA_hits) 13 = .ok (.astore 4, 2) := by decide +kernel
theorem d_LA_hits_15 : decode (kB k_LA_hits) 15 = .ok (.iconst 1, 1) := by decide +kernel
theorem d_LA_hits_16 : decode (kB k_LA_hits) 16 = .ok (.ireturn, 1) := by decide +kernel
theorem d_LA_hits_17 : decode (kB k_LA_hits) 17 = .ok (.astore 4, 2) := by decide +kernel
theorem d_LA_hits_19 : decode (kB k_LA_hits) 19 = .ok (.iconst 2, 1) := by decide +kernel
theorem d_LA_hits_20 : decode (kB k_LA_hits) 20 = .ok (.ireturn, 1) := by decide +kernel
theorem d_LA_hits_21 : decode (kB k_LA_hits) 21 = .ok (.astore 4, 2) := by decide +kernel
theorem d_LA_hits_23 : decode (kB k_LA_hits) 23 = .ok (.iconst 3, 1) := by decide +kernel
theorem d_LA_hits_24 : decode (kB k_LA_hits) 24 = .ok (.ireturn, 1) := by decide +kernel
theorem d_LA_hits_25 : decode (kB k_LA_hits) 25 = .ok (.iconst 0, 1) := by decide +kernel
theorem d_LA_hits_26 : decode (kB k_LA_hits) 26 = .ok (.ireturn, 1) := by decide +kernel
theorem d_LA_search_0 : decode (kB k_LA_search) 0 = .ok (.aload_n 2, 1) := by decide +kernel
theorem d_LA_search_1 : decode (kB k_LA_search) 1 = .ok (.iconst 0, 1) := by decide +kernel
theorem d_LA_search_2 : decode (kB k_LA_search) 2 = .ok (.aload_n 0, 1) := by decide +kernel
theorem d_LA_search_3 : decode (kB k_LA_search) 3 = .ok (.iload_n 1, 1) := by decide +kernel
theorem d_LA_search_4 : decode (kB k_LA_search) 4 = .ok (.invokevirtual 42, 3) := by decide +kernel
theorem d_LA_search_7 : decode (kB k_LA_search) 7 = .ok (.i2l, 1) := by decide +kernel
theorem d_LA_search_8 : decode (kB k_LA_search) 8 = .ok (.lastore, 1) := by decide +kernel
theorem d_LA_search_9 : decode (kB k_LA_search) 9 = .ok (.goto (9), 3) := by decide +kernel
theorem d_LA_search_12 : decode (kB k_LA_search) 12 = .ok (.astore_n 3, 1) := by decide +kernel
theorem d_LA_search_13 : decode (kB k_LA_search) 13 = .ok (.iconst 1, 1) := by decide +kernel
theorem d_LA_search_14 : decode (kB k_LA_search) 14 = .ok (.ireturn, 1) := by decide +kernel
theorem d_LA_search_15 : decode (kB k_LA_search) 15 = .ok (.astore_n 3, 1) := by decide +kernel
theorem d_LA_search_16 : decode (kB k_LA_search) 16 = .ok (.iconst 2, 1) := by decide +kernel
theorem d_LA_search_17 : decode (kB k_LA_search) 17 = .ok (.ireturn, 1) := by decide +kernel
theorem d_LA_search_18 : decode (kB k_LA_search) 18 = .ok (.iconst 0, 1) := by decide +kernel
theorem d_LA_search_19 : decode (kB k_LA_search) 19 = .ok (.ireturn, 1) := by decide +kernel
theorem d_LA_found_0 : decode (kB k_LA_found) 0 = .ok (.aload_n 2, 1) := by decide +kernel
theorem d_LA_found_1 : decode (kB k_LA_found) 1 = .ok (.iconst 0, 1) := by decide +kernel
theorem d_LA_found_2 : decode (kB k_LA_found) 2 = .ok (.aload_n 0, 1) := by decide +kernel
theorem d_LA_found_3 : decode (kB k_LA_found) 3 = .ok (.iload_n 1, 1) := by decide +kernel
theorem d_LA_found_4 : decode (kB k_LA_found) 4 = .ok (.invokevirtual 45, 3) := by decide +kernel
theorem d_LA_found_7 : decode (kB k_LA_found) 7 = .ok (.i2l, 1) := by decide +kernel
theorem d_LA_found_8 : decode (kB k_LA_found) 8 = .ok (.lastore, 1) := by decide +kernel
theorem d_LA_found_9 : decode (kB k_LA_found) 9 = .ok (.goto (6), 3) := by decide +kernel
theorem d_LA_found_12 : decode (kB k_LA_found) 12 = .ok (.astore_n 3, 1) := by decide +kernel
theorem d_LA_found_13 : decode (kB k_LA_found) 13 = .ok (.iconst 1, 1) := by decide +kernel
theorem d_LA_found_14 : decode (kB k_LA_found) 14 = .ok (.ireturn, 1) := by decide +kernel
theorem d_LA_found_15 : decode (kB k_LA_found) 15 = .ok (.iconst 0, 1) := by decide +kernel
theorem d_LA_found_16 : decode (kB k_LA_found) 16 = .ok (.ireturn, 1) := by decide +kernel
theorem d_LA_score_0 : decode (kB k_LA_score) 0 = .ok (.aload_n 2, 1) := by decide +kernel
theorem d_LA_score_1 : decode (kB k_LA_score) 1 = .ok (.iconst 0, 1) := by decide +kernel
theorem d_LA_score_2 : decode (kB k_LA_score) 2 = .ok (.aload_n 0, 1) := by decide +kernel
theorem d_LA_score_3 : decode (kB k_LA_score) 3 = .ok (.iload_n 1, 1) := by decide +kernel
theorem d_LA_score_4 : decode (kB k_LA_score) 4 = .ok (.invokevirtual 48, 3) := by decide +kernel
theorem d_LA_score_7 : decode (kB k_LA_score) 7 = .ok (.dastore, 1) := by decide +kernel
theorem d_LA_score_8 : decode (kB k_LA_score) 8 = .ok (.goto (6), 3) := by decide +kernel
theorem d_LA_score_11 : decode (kB k_LA_score) 11 = .ok (.astore_n 3, 1) := by decide +kernel
theorem d_LA_score_12 : decode (kB k_LA_score) 12 = .ok (.iconst 1, 1) := by decide +kernel
theorem d_LA_score_13 : decode (kB k_LA_score) 13 = .ok (.ireturn, 1) := by decide +kernel
theorem d_LA_score_14 : decode (kB k_LA_score) 14 = .ok (.iconst 0, 1) := by decide +kernel
theorem d_LA_score_15 : decode (kB k_LA_score) 15 = .ok (.ireturn, 1) := by decide +kernel
theorem d_LA_model_0 : decode (kB k_LA_model) 0 = .ok (.aload_n 2, 1) := by decide +kernel
theorem d_LA_model_1 : decode (kB k_LA_model) 1 = .ok (.iconst 0, 1) := by decide +kernel
theorem d_LA_model_2 : decode (kB k_LA_model) 2 = .ok (.aload_n 0, 1) := by decide +kernel
theorem d_LA_model_3 : decode (kB k_LA_model) 3 = .ok (.iload_n 1, 1) := by decide +kernel
theorem d_LA_model_4 : decode (kB k_LA_model) 4 = .ok (.invokevirtual 51, 3) := by decide +kernel
theorem d_LA_model_7 : decode (kB k_LA_model) 7 = .ok (.i2l, 1) := by decide +kernel
theorem d_LA_model_8 : decode (kB k_LA_model) 8 = .ok (.lastore, 1) := by decide +kernel
theorem d_LA_model_9 : decode (kB k_LA_model) 9 = .ok (.goto (9), 3) := by decide +kernel
theorem d_LA_model_12 : decode (kB k_LA_model) 12 = .ok (.astore_n 3, 1) := by decide +kernel
theorem d_LA_model_13 : decode (kB k_LA_model) 13 = .ok (.iconst 1, 1) := by decide +kernel
theorem d_LA_model_14 : decode (kB k_LA_model) 14 = .ok (.ireturn, 1) := by decide +kernel
theorem d_LA_model_15 : decode (kB k_LA_model) 15 = .ok (.astore_n 3, 1) := by decide +kernel
theorem d_LA_model_16 : decode (kB k_LA_model) 16 = .ok (.iconst 2, 1) := by decide +kernel
theorem d_LA_model_17 : decode (kB k_LA_model) 17 = .ok (.ireturn, 1) := by decide +kernel
theorem d_LA_model_18 : decode (kB k_LA_model) 18 = .ok (.iconst 0, 1) := by decide +kernel
theorem d_LA_model_19 : decode (kB k_LA_model) 19 = .ok (.ireturn, 1) := by decide +kernel
theorem d_LA_told_0 : decode (kB k_LA_told) 0 = .ok (.aload_n 3, 1) := by decide +kernel
theorem d_LA_told_1 : decode (kB k_LA_told) 1 = .ok (.iconst 0, 1) := by decide +kernel
theorem d_LA_told_2 : decode (kB k_LA_told) 2 = .ok (.aload_n 0, 1) := by decide +kernel
theorem d_LA_told_3 : decode (kB k_LA_told) 3 = .ok (.iload_n 1, 1) := by decide +kernel
theorem d_LA_told_4 : decode (kB k_LA_told) 4 = .ok (.iload_n 2, 1) := by decide +kernel
theorem d_LA_told_5 : decode (kB k_LA_told) 5 = .ok (.invokevirtual 54, 3) := by decide +kernel
theorem d_LA_told_8 : decode (kB k_LA_told) 8 = .ok (.dastore, 1) := by decide +kernel
theorem d_LA_told_9 : decode (kB k_LA_told) 9 = .ok (.goto (11), 3) := by decide +kernel
theorem d_LA_told_12 : decode (kB k_LA_told) 12 = .ok (.astore 4, 2) := by decide +kernel
theorem d_LA_told_14 : decode (kB k_LA_told) 14 = .ok (.iconst 1, 1) := by decide +kernel
theorem d_LA_told_15 : decode (kB k_LA_told) 15 = .ok (.ireturn, 1) := by decide +kernel
theorem d_LA_told_16 : decode (kB k_LA_told) 16 = .ok (.astore 4, 2) := by decide +kernel
theorem d_LA_told_18 : decode (kB k_LA_told) 18 = .ok (.iconst 2, 1) := by decide +kernel
theorem d_LA_told_19 : decode (kB k_LA_told) 19 = .ok (.ireturn, 1) := by decide +kernel
theorem d_LA_told_20 : decode (kB k_LA_told) 20 = .ok (.iconst 0, 1) := by decide +kernel
theorem d_LA_told_21 : decode (kB k_LA_told) 21 = .ok (.ireturn, 1) := by decide +kernel
theorem d_LA_count_0 : decode (kB k_LA_count) 0 = .ok (.aload_n 2, 1) := by decide +kernel
theorem d_LA_count_1 : decode (kB k_LA_count) 1 = .ok (.iconst 0, 1) := by decide +kernel
theorem d_LA_count_2 : decode (kB k_LA_count) 2 = .ok (.aload_n 0, 1) := by decide +kernel
theorem d_LA_count_3 : decode (kB k_LA_count) 3 = .ok (.iload_n 1, 1) := by decide +kernel
theorem d_LA_count_4 : decode (kB k_LA_count) 4 = .ok (.invokevirtual 58, 3) := by decide +kernel
theorem d_LA_count_7 : decode (kB k_LA_count) 7 = .ok (.i2l, 1) := by decide +kernel
theorem d_LA_count_8 : decode (kB k_LA_count) 8 = .ok (.lastore, 1) := by decide +kernel
theorem d_LA_count_9 : decode (kB k_LA_count) 9 = .ok (.goto (6), 3) := by decide +kernel
theorem d_LA_count_12 : decode (kB k_LA_count) 12 = .ok (.astore_n 3, 1) := by decide +kernel
theorem d_LA_count_13 : decode (kB k_LA_count) 13 = .ok (.iconst 1, 1) := by decide +kernel
theorem d_LA_count_14 : decode (kB k_LA_count) 14 = .ok (.ireturn, 1) := by decide +kernel
theorem d_LA_count_15 : decode (kB k_LA_count) 15 = .ok (.iconst 0, 1) := by decide +kernel
theorem d_LA_count_16 : decode (kB k_LA_count) 16 = .ok (.ireturn, 1) := by decide +kernel
theorem d_LA_law_0 : decode (kB k_LA_law) 0 = .ok (.new 8, 3) := by decide +kernel
theorem d_LA_law_3 : decode (kB k_LA_law) 3 = .ok (.dup, 1) := by decide +kernel
theorem d_LA_law_4 : decode (kB k_LA_law) 4 = .ok (.invokespecial 61, 3) := by decide +kernel
theorem d_LA_law_7 : decode (kB k_LA_law) 7 = .ok (.astore_n 1, 1) := by decide +kernel
theorem d_LA_law_8 : decode (kB k_LA_law) 8 = .ok (.new 62, 3) := by decide +kernel
theorem d_LA_law_11 : decode (kB k_LA_law) 11 = .ok (.dup, 1) := by decide +kernel
theorem d_LA_law_12 : decode (kB k_LA_law) 12 = .ok (.invokespecial 64, 3) := by decide +kernel
theorem d_LA_law_15 : decode (kB k_LA_law) 15 = .ok (.astore_n 2, 1) := by decide +kernel
theorem d_LA_law_16 : decode (kB k_LA_law) 16 = .ok (.iconst 1, 1) := by decide +kernel
theorem d_LA_law_17 : decode (kB k_LA_law) 17 = .ok (.newarray .long, 2) := by decide +kernel
theorem d_LA_law_19 : decode (kB k_LA_law) 19 = .ok (.astore_n 3, 1) := by decide +kernel
theorem d_LA_law_20 : decode (kB k_LA_law) 20 = .ok (.iconst 1, 1) := by decide +kernel
theorem d_LA_law_21 : decode (kB k_LA_law) 21 = .ok (.newarray .double, 2) := by decide +kernel
theorem d_LA_law_23 : decode (kB k_LA_law) 23 = .ok (.astore 4, 2) := by decide +kernel
theorem d_LA_law_25 : decode (kB k_LA_law) 25 = .ok (.iconst 0, 1) := by decide +kernel
theorem d_LA_law_26 : decode (kB k_LA_law) 26 = .ok (.istore 5, 2) := by decide +kernel
theorem d_LA_law_28 : decode (kB k_LA_law) 28 = .ok (.iload 5, 2) := by decide +kernel
theorem d_LA_law_30 : decode (kB k_LA_law) 30 = .ok (.aload_n 0, 1) := by decide +kernel
theorem d_LA_law_31 : decode (kB k_LA_law) 31 = .ok (.arraylength, 1) := by decide +kernel
theorem d_LA_law_32 : decode (kB k_LA_law) 32 = .ok (.iconst 4, 1) := by decide +kernel
theorem d_LA_law_33 : decode (kB k_LA_law) 33 = .ok (.isub, 1) := by decide +kernel
theorem d_LA_law_34 : decode (kB k_LA_law) 34 = .ok (.if_icmp .gt (929), 3) := by decide +kernel
theorem d_LA_law_37 : decode (kB k_LA_law) 37 = .ok (.aload_n 0, 1) := by decide +kernel
theorem d_LA_law_38 : decode (kB k_LA_law) 38 = .ok (.iload 5, 2) := by decide +kernel
theorem d_LA_law_40 : decode (kB k_LA_law) 40 = .ok (.iaload, 1) := by decide +kernel
theorem d_LA_law_41 : decode (kB k_LA_law) 41 = .ok (.bipush 15, 2) := by decide +kernel
theorem d_LA_law_43 : decode (kB k_LA_law) 43 = .ok (.iand, 1) := by decide +kernel
theorem d_LA_law_44 : decode (kB k_LA_law) 44 = .ok (.tableswitch (913) (0) (13) #[72, 128, 184, 262, 352, 365, 378, 455, 523, 579, 635, 712, 768, 857], 72) := by decide +kernel
theorem d_LA_law_116 : decode (kB k_LA_law) 116 = .ok (.aload_n 1, 1) := by decide +kernel
theorem d_LA_law_117 : decode (kB k_LA_law) 117 = .ok (.aload_n 0, 1) := by decide +kernel
theorem d_LA_law_118 : decode (kB k_LA_law) 118 = .ok (.iload 5, 2) := by decide +kernel
theorem d_LA_law_120 : decode (kB k_LA_law) 120 = .ok (.iconst 1, 1) := by decide +kernel
theorem d_LA_law_121 : decode (kB k_LA_law) 121 = .ok (.iadd, 1) := by decide +kernel
theorem d_LA_law_122 : decode (kB k_LA_law) 122 = .ok (.iaload, 1) := by decide +kernel
theorem d_LA_law_123 : decode (kB k_LA_law) 123 = .ok (.aload_n 3, 1) := by decide +kernel
theorem d_LA_law_124 : decode (kB k_LA_law) 124 = .ok (.invokestatic 65, 3) := by decide +kernel
theorem d_LA_law_127 : decode (kB k_LA_law) 127 = .ok (.istore 6, 2) := by decide +kernel
theorem d_LA_law_129 : decode (kB k_LA_law) 129 = .ok (.aload_n 2, 1) := by decide +kernel
theorem d_LA_law_130 : decode (kB k_LA_law) 130 = .ok (.aload_n 0, 1) := by decide +kernel
theorem d_LA_law_131 : decode (kB k_LA_law) 131 = .ok (.iload 5, 2) := by decide +kernel
theorem d_LA_law_133 : decode (kB k_LA_law) 133 = .ok (.iconst 1, 1) := by decide +kernel
theorem d_LA_law_134 : decode (kB k_LA_law) 134 = .ok (.iadd, 1) := by decide +kernel
theorem d_LA_law_135 : decode (kB k_LA_law) 135 = .ok (.iaload, 1) := by decide +kernel
theorem d_LA_law_136 : decode (kB k_LA_law) 136 = .ok (.invokevirtual 70, 3) := by decide +kernel
theorem d_LA_law_139 : decode (kB k_LA_law) 139 = .ok (.istore 7, 2) := by decide +kernel
theorem d_LA_law_141 : decode (kB k_LA_law) 141 = .ok (.aload_n 2, 1) := by decide +kernel
theorem d_LA_law_142 : decode (kB k_LA_law) 142 = .ok (.invokevirtual 71, 3) := by decide +kernel
theorem d_LA_law_145 : decode (kB k_LA_law) 145 = .ok (.iload 6, 2) := by decide +kernel
theorem d_LA_law_147 : decode (kB k_LA_law) 147 = .ok (.if_icmp .eq (5), 3) := by decide +kernel
theorem d_LA_law_150 : decode (kB k_LA_law) 150 = .ok (.iconst 0, 1) := by decide +kernel
theorem d_LA_law_151 : decode (kB k_LA_law) 151 = .ok (.ireturn, 1) := by decide +kernel
theorem d_LA_law_152 : decode (kB k_LA_law) 152 = .ok (.iload 6, 2) := by decide +kernel
theorem d_LA_law_154 : decode (kB k_LA_law) 154 = .ok (.ifCond .ne (15), 3) := by decide +kernel
theorem d_LA_law_157 : decode (kB k_LA_law) 157 = .ok (.aload_n 3, 1) := by decide +kernel
theorem d_LA_law_158 : decode (kB k_LA_law) 158 = .ok (.iconst 0, 1) := by decide +kernel
theorem d_LA_law_159 : decode (kB k_LA_law) 159 = .ok (.laload, 1) := by decide +kernel
theorem d_LA_law_160 : decode (kB k_LA_law) 160 = .ok (.iload 7, 2) := by decide +kernel
theorem d_LA_law_162 : decode (kB k_LA_law) 162 = .ok (.i2l, 1) := by decide +kernel
theorem d_LA_law_163 : decode (kB k_LA_law) 163 = .ok (.lcmp, 1) := by decide +kernel
theorem d_LA_law_164 : decode (kB k_LA_law) 164 = .ok (.ifCond .eq (5), 3) := by decide +kernel
theorem d_LA_law_167 : decode (kB k_LA_law) 167 = .ok (.iconst 0, 1) := by decide +kernel
theorem d_LA_law_168 : decode (kB k_LA_law) 168 = .ok (.ireturn, 1) := by decide +kernel
theorem d_LA_law_169 : decode (kB k_LA_law) 169 = .ok (.goto (788), 3) := by decide +kernel
theorem d_LA_law_172 : decode (kB k_LA_law) 172 = .ok (.aload_n 1, 1) := by decide +kernel
theorem d_LA_law_173 : decode (kB k_LA_law) 173 = .ok (.aload_n 0, 1) := by decide +kernel
theorem d_LA_law_174 : decode (kB k_LA_law) 174 = .ok (.iload 5, 2) := by decide +kernel
theorem d_LA_law_176 : decode (kB k_LA_law) 176 = .ok (.iconst 1, 1) := by decide +kernel
theorem d_LA_law_177 : decode (kB k_LA_law) 177 = .ok (.iadd, 1) := by decide +kernel
theorem d_LA_law_178 : decode (kB k_LA_law) 178 = .ok (.iaload, 1) := by decide +kernel
theorem d_LA_law_179 : decode (kB k_LA_law) 179 = .ok (.aload_n 3, 1) := by decide +kernel
theorem d_LA_law_180 : decode (kB k_LA_law) 180 = .ok (.invokestatic 75, 3) := by decide +kernel
theorem d_LA_law_183 : decode (kB k_LA_law) 183 = .ok (.istore 6, 2) := by decide +kernel
theorem d_LA_law_185 : decode (kB k_LA_law) 185 = .ok (.aload_n 2, 1) := by decide +kernel
theorem d_LA_law_186 : decode (kB k_LA_law) 186 = .ok (.aload_n 0, 1) := by decide +kernel
theorem d_LA_law_187 : decode (kB k_LA_law) 187 = .ok (.iload 5, 2) := by decide +kernel
theorem d_LA_law_189 : decode (kB k_LA_law) 189 = .ok (.iconst 1, 1) := by decide +kernel
theorem d_LA_law_190 : decode (kB k_LA_law) 190 = .ok (.iadd, 1) := by decide +kernel
theorem d_LA_law_191 : decode (kB k_LA_law) 191 = .ok (.iaload, 1) := by decide +kernel
theorem d_LA_law_192 : decode (kB k_LA_law) 192 = .ok (.invokevirtual 77, 3) := by decide +kernel
theorem d_LA_law_195 : decode (kB k_LA_law) 195 = .ok (.istore 7, 2) := by decide +kernel
theorem d_LA_law_197 : decode (kB k_LA_law) 197 = .ok (.aload_n 2, 1) := by decide +kernel
theorem d_LA_law_198 : decode (kB k_LA_law) 198 = .ok (.invokevirtual 71, 3) := by decide +kernel
theorem d_LA_law_201 : decode (kB k_LA_law) 201 = .ok (.iload 6, 2) := by decide +kernel
theorem d_LA_law_203 : decode (kB k_LA_law) 203 = .ok (.if_icmp .eq (5), 3) := by decide +kernel
theorem d_LA_law_206 : decode (kB k_LA_law) 206 = .ok (.iconst 0, 1) := by decide +kernel
theorem d_LA_law_207 : decode (kB k_LA_law) 207 = .ok (.ireturn, 1) := by decide +kernel
theorem d_LA_law_208 : decode (kB k_LA_law) 208 = .ok (.iload 6, 2) := by decide +kernel
theorem d_LA_law_210 : decode (kB k_LA_law) 210 = .ok (.ifCond .ne (15), 3) := by decide +kernel
theorem d_LA_law_213 : decode (kB k_LA_law) 213 = .ok (.aload_n 3, 1) := by decide +kernel
theorem d_LA_law_214 : decode (kB k_LA_law) 214 = .ok (.iconst 0, 1) := by decide +kernel
theorem d_LA_law_215 : decode (kB k_LA_law) 215 = .ok (.laload, 1) := by decide +kernel
theorem d_LA_law_216 : decode (kB k_LA_law) 216 = .ok (.iload 7, 2) := by decide +kernel
theorem d_LA_law_218 : decode (kB k_LA_law) 218 = .ok (.i2l, 1) := by decide +kernel
theorem d_LA_law_219 : decode (kB k_LA_law) 219 = .ok (.lcmp, 1) := by decide +kernel
theorem d_LA_law_220 : decode (kB k_LA_law) 220 = .ok (.ifCond .eq (5), 3) := by decide +kernel
theorem d_LA_law_223 : decode (kB k_LA_law) 223 = .ok (.iconst 0, 1) := by decide +kernel
theorem d_LA_law_224 : decode (kB k_LA_law) 224 = .ok (.ireturn, 1) := by decide +kernel
theorem d_LA_law_225 : decode (kB k_LA_law) 225 = .ok (.goto (732), 3) := by decide +kernel
theorem d_LA_law_228 : decode (kB k_LA_law) 228 = .ok (.aload_n 1, 1) := by decide +kernel
theorem d_LA_law_229 : decode (kB k_LA_law) 229 = .ok (.aload_n 0, 1) := by decide +kernel
theorem d_LA_law_230 : decode (kB k_LA_law) 230 = .ok (.iload 5, 2) := by decide +kernel
theorem d_LA_law_232 : decode (kB k_LA_law) 232 = .ok (.iconst 1, 1) := by decide +kernel
theorem d_LA_law_233 : decode (kB k_LA_law) 233 = .ok (.iadd, 1) := by decide +kernel
theorem d_LA_law_234 : decode (kB k_LA_law) 234 = .ok (.iaload, 1) := by decide +kernel
theorem d_LA_law_235 : decode (kB k_LA_law) 235 = .ok (.aload_n 0, 1) := by decide +kernel
theorem d_LA_law_236 : decode (kB k_LA_law) 236 = .ok (.iload 5, 2) := by decide +kernel
theorem d_LA_law_238 : decode (kB k_LA_law) 238 = .ok (.iconst 2, 1) := by decide +kernel
theorem d_LA_law_239 : decode (kB k_LA_law) 239 = .ok (.iadd, 1) := by decide +kernel
theorem d_LA_law_240 : decode (kB k_LA_law) 240 = .ok (.iaload, 1) := by decide +kernel
theorem d_LA_law_241 : decode (kB k_LA_law) 241 = .ok (.i2d, 1) := by decide +kernel
theorem d_LA_law_242 : decode (kB k_LA_law) 242 = .ok (.ldc2_w 78, 3) := by decide +kernel
theorem d_LA_law_245 : decode (kB k_LA_law) 245 = .ok (.dmul, 1) := by decide +kernel
theorem d_LA_law_246 : decode (kB k_LA_law) 246 = .ok (.aload_n 3, 1) := by decide +kernel
theorem d_LA_law_247 : decode (kB k_LA_law) 247 = .ok (.invokestatic 80, 3) := by decide +kernel
theorem d_LA_law_250 : decode (kB k_LA_law) 250 = .ok (.istore 6, 2) := by decide +kernel
theorem d_LA_law_252 : decode (kB k_LA_law) 252 = .ok (.aload_n 2, 1) := by decide +kernel
theorem d_LA_law_253 : decode (kB k_LA_law) 253 = .ok (.aload_n 0, 1) := by decide +kernel
theorem d_LA_law_254 : decode (kB k_LA_law) 254 = .ok (.iload 5, 2) := by decide +kernel
theorem d_LA_law_256 : decode (kB k_LA_law) 256 = .ok (.iconst 1, 1) := by decide +kernel
theorem d_LA_law_257 : decode (kB k_LA_law) 257 = .ok (.iadd, 1) := by decide +kernel
theorem d_LA_law_258 : decode (kB k_LA_law) 258 = .ok (.iaload, 1) := by decide +kernel
theorem d_LA_law_259 : decode (kB k_LA_law) 259 = .ok (.aload_n 0, 1) := by decide +kernel
theorem d_LA_law_260 : decode (kB k_LA_law) 260 = .ok (.iload 5, 2) := by decide +kernel
theorem d_LA_law_262 : decode (kB k_LA_law) 262 = .ok (.iconst 2, 1) := by decide +kernel
theorem d_LA_law_263 : decode (kB k_LA_law) 263 = .ok (.iadd, 1) := by decide +kernel
theorem d_LA_law_264 : decode (kB k_LA_law) 264 = .ok (.iaload, 1) := by decide +kernel
theorem d_LA_law_265 : decode (kB k_LA_law) 265 = .ok (.i2d, 1) := by decide +kernel
theorem d_LA_law_266 : decode (kB k_LA_law) 266 = .ok (.ldc2_w 78, 3) := by decide +kernel
theorem d_LA_law_269 : decode (kB k_LA_law) 269 = .ok (.dmul, 1) := by decide +kernel
theorem d_LA_law_270 : decode (kB k_LA_law) 270 = .ok (.invokevirtual 83, 3) := by decide +kernel
theorem d_LA_law_273 : decode (kB k_LA_law) 273 = .ok (.istore 7, 2) := by decide +kernel
theorem d_LA_law_275 : decode (kB k_LA_law) 275 = .ok (.aload_n 2, 1) := by decide +kernel
theorem d_LA_law_276 : decode (kB k_LA_law) 276 = .ok (.invokevirtual 71, 3) := by decide +kernel
theorem d_LA_law_279 : decode (kB k_LA_law) 279 = .ok (.iload 6, 2) := by decide +kernel
theorem d_LA_law_281 : decode (kB k_LA_law) 281 = .ok (.if_icmp .eq (5), 3) := by decide +kernel
theorem d_LA_law_284 : decode (kB k_LA_law) 284 = .ok (.iconst 0, 1) := by decide +kernel
theorem d_LA_law_285 : decode (kB k_LA_law) 285 = .ok (.ireturn, 1) := by decide +kernel
theorem d_LA_law_286 : decode (kB k_LA_law) 286 = .ok (.iload 6, 2) := by decide +kernel
theorem d_LA_law_288 : decode (kB k_LA_law) 288 = .ok (.ifCond .ne (15), 3) := by decide +kernel
theorem d_LA_law_291 : decode (kB k_LA_law) 291 = .ok (.aload_n 3, 1) := by decide +kernel
theorem d_LA_law_292 : decode (kB k_LA_law) 292 = .ok (.iconst 0, 1) := by decide +kernel
theorem d_LA_law_293 : decode (kB k_LA_law) 293 = .ok (.laload, 1) := by decide +kernel
theorem d_LA_law_294 : decode (kB k_LA_law) 294 = .ok (.iload 7, 2) := by decide +kernel
theorem d_LA_law_296 : decode (kB k_LA_law) 296 = .ok (.i2l, 1) := by decide +kernel
theorem d_LA_law_297 : decode (kB k_LA_law) 297 = .ok (.lcmp, 1) := by decide +kernel
theorem d_LA_law_298 : decode (kB k_LA_law) 298 = .ok (.ifCond .eq (5), 3) := by decide +kernel
theorem d_LA_law_301 : decode (kB k_LA_law) 301 = .ok (.iconst 0, 1) := by decide +kernel
theorem d_LA_law_302 : decode (kB k_LA_law) 302 = .ok (.ireturn, 1) := by decide +kernel
theorem d_LA_law_303 : decode (kB k_LA_law) 303 = .ok (.goto (654), 3) := by decide +kernel
theorem d_LA_law_306 : decode (kB k_LA_law) 306 = .ok (.aload_n 1, 1) := by decide +kernel
theorem d_LA_law_307 : decode (kB k_LA_law) 307 = .ok (.aload_n 0, 1) := by decide +kernel
theorem d_LA_law_308 : decode (kB k_LA_law) 308 = .ok (.iload 5, 2) := by decide +kernel
theorem d_LA_law_310 : decode (kB k_LA_law) 310 = .ok (.iconst 1, 1) := by decide +kernel
theorem d_LA_law_311 : decode (kB k_LA_law) 311 = .ok (.iadd, 1) := by decide +kernel
theorem d_LA_law_312 : decode (kB k_LA_law) 312 = .ok (.iaload, 1) := by decide +kernel
theorem d_LA_law_313 : decode (kB k_LA_law) 313 = .ok (.aload_n 0, 1) := by decide +kernel
theorem d_LA_law_314 : decode (kB k_LA_law) 314 = .ok (.iload 5, 2) := by decide +kernel
theorem d_LA_law_316 : decode (kB k_LA_law) 316 = .ok (.iconst 2, 1) := by decide +kernel
theorem d_LA_law_317 : decode (kB k_LA_law) 317 = .ok (.iadd, 1) := by decide +kernel
theorem d_LA_law_318 : decode (kB k_LA_law) 318 = .ok (.iaload, 1) := by decide +kernel
theorem d_LA_law_319 : decode (kB k_LA_law) 319 = .ok (.aload_n 0, 1) := by decide +kernel
theorem d_LA_law_320 : decode (kB k_LA_law) 320 = .ok (.iload 5, 2) := by decide +kernel
theorem d_LA_law_322 : decode (kB k_LA_law) 322 = .ok (.iconst 3, 1) := by decide +kernel
theorem d_LA_law_323 : decode (kB k_LA_law) 323 = .ok (.iadd, 1) := by decide +kernel
theorem d_LA_law_324 : decode (kB k_LA_law) 324 = .ok (.iaload, 1) := by decide +kernel
theorem d_LA_law_325 : decode (kB k_LA_law) 325 = .ok (.i2d, 1) := by decide +kernel
theorem d_LA_law_326 : decode (kB k_LA_law) 326 = .ok (.ldc2_w 78, 3) := by decide +kernel
theorem d_LA_law_329 : decode (kB k_LA_law) 329 = .ok (.dmul, 1) := by decide +kernel
theorem d_LA_law_330 : decode (kB k_LA_law) 330 = .ok (.aload_n 3, 1) := by decide +kernel
theorem d_LA_law_331 : decode (kB k_LA_law) 331 = .ok (.invokestatic 84, 3) := by decide +kernel
theorem d_LA_law_334 : decode (kB k_LA_law) 334 = .ok (.istore 6, 2) := by decide +kernel
theorem d_LA_law_336 : decode (kB k_LA_law) 336 = .ok (.aload_n 2, 1) := by decide +kernel
theorem d_LA_law_337 : decode (kB k_LA_law) 337 = .ok (.aload_n 0, 1) := by decide +kernel
theorem d_LA_law_338 : decode (kB k_LA_law) 338 = .ok (.iload 5, 2) := by decide +kernel
theorem d_LA_law_340 : decode (kB k_LA_law) 340 = .ok (.iconst 1, 1) := by decide +kernel
theorem d_LA_law_341 : decode (kB k_LA_law) 341 = .ok (.iadd, 1) := by decide +kernel
theorem d_LA_law_342 : decode (kB k_LA_law) 342 = .ok (.iaload, 1) := by decide +kernel
theorem d_LA_law_343 : decode (kB k_LA_law) 343 = .ok (.aload_n 0, 1) := by decide +kernel
theorem d_LA_law_344 : decode (kB k_LA_law) 344 = .ok (.iload 5, 2) := by decide +kernel
theorem d_LA_law_346 : decode (kB k_LA_law) 346 = .ok (.iconst 2, 1) := by decide +kernel
theorem d_LA_law_347 : decode (kB k_LA_law) 347 = .ok (.iadd, 1) := by decide +kernel
theorem d_LA_law_348 : decode (kB k_LA_law) 348 = .ok (.iaload, 1) := by decide +kernel
theorem d_LA_law_349 : decode (kB k_LA_law) 349 = .ok (.aload_n 0, 1) := by decide +kernel
theorem d_LA_law_350 : decode (kB k_LA_law) 350 = .ok (.iload 5, 2) := by decide +kernel
theorem d_LA_law_352 : decode (kB k_LA_law) 352 = .ok (.iconst 3, 1) := by decide +kernel
theorem d_LA_law_353 : decode (kB k_LA_law) 353 = .ok (.iadd, 1) := by decide +kernel
theorem d_LA_law_354 : decode (kB k_LA_law) 354 = .ok (.iaload, 1) := by decide +kernel
theorem d_LA_law_355 : decode (kB k_LA_law) 355 = .ok (.i2d, 1) := by decide +kernel
theorem d_LA_law_356 : decode (kB k_LA_law) 356 = .ok (.ldc2_w 78, 3) := by decide +kernel
theorem d_LA_law_359 : decode (kB k_LA_law) 359 = .ok (.dmul, 1) := by decide +kernel
theorem d_LA_law_360 : decode (kB k_LA_law) 360 = .ok (.invokevirtual 87, 3) := by decide +kernel
theorem d_LA_law_363 : decode (kB k_LA_law) 363 = .ok (.istore 7, 2) := by decide +kernel
theorem d_LA_law_365 : decode (kB k_LA_law) 365 = .ok (.aload_n 2, 1) := by decide +kernel
theorem d_LA_law_366 : decode (kB k_LA_law) 366 = .ok (.invokevirtual 71, 3) := by decide +kernel
theorem d_LA_law_369 : decode (kB k_LA_law) 369 = .ok (.iload 6, 2) := by decide +kernel
theorem d_LA_law_371 : decode (kB k_LA_law) 371 = .ok (.if_icmp .eq (5), 3) := by decide +kernel
theorem d_LA_law_374 : decode (kB k_LA_law) 374 = .ok (.iconst 0, 1) := by decide +kernel
theorem d_LA_law_375 : decode (kB k_LA_law) 375 = .ok (.ireturn, 1) := by decide +kernel
theorem d_LA_law_376 : decode (kB k_LA_law) 376 = .ok (.iload 6, 2) := by decide +kernel
theorem d_LA_law_378 : decode (kB k_LA_law) 378 = .ok (.ifCond .ne (15), 3) := by decide +kernel
theorem d_LA_law_381 : decode (kB k_LA_law) 381 = .ok (.aload_n 3, 1) := by decide +kernel
theorem d_LA_law_382 : decode (kB k_LA_law) 382 = .ok (.iconst 0, 1) := by decide +kernel
theorem d_LA_law_383 : decode (kB k_LA_law) 383 = .ok (.laload, 1) := by decide +kernel
theorem d_LA_law_384 : decode (kB k_LA_law) 384 = .ok (.iload 7, 2) := by decide +kernel
theorem d_LA_law_386 : decode (kB k_LA_law) 386 = .ok (.i2l, 1) := by decide +kernel
theorem d_LA_law_387 : decode (kB k_LA_law) 387 = .ok (.lcmp, 1) := by decide +kernel
theorem d_LA_law_388 : decode (kB k_LA_law) 388 = .ok (.ifCond .eq (5), 3) := by decide +kernel
theorem d_LA_law_391 : decode (kB k_LA_law) 391 = .ok (.iconst 0, 1) := by decide +kernel
theorem d_LA_law_392 : decode (kB k_LA_law) 392 = .ok (.ireturn, 1) := by decide +kernel
theorem d_LA_law_393 : decode (kB k_LA_law) 393 = .ok (.goto (564), 3) := by decide +kernel
theorem d_LA_law_396 : decode (kB k_LA_law) 396 = .ok (.aload_n 1, 1) := by decide +kernel
theorem d_LA_law_397 : decode (kB k_LA_law) 397 = .ok (.invokevirtual 88, 3) := by decide +kernel
theorem d_LA_law_400 : decode (kB k_LA_law) 400 = .ok (.aload_n 2, 1) := by decide +kernel
theorem d_LA_law_401 : decode (kB k_LA_law) 401 = .ok (.invokevirtual 91, 3) := by decide +kernel
theorem d_LA_law_404 : decode (kB k_LA_law) 404 = .ok (.if_icmp .eq (553), 3) := by decide +kernel
theorem d_LA_law_407 : decode (kB k_LA_law) 407 = .ok (.iconst 0, 1) := by decide +kernel
theorem d_LA_law_408 : decode (kB k_LA_law) 408 = .ok (.ireturn, 1) := by decide +kernel
theorem d_LA_law_409 : decode (kB k_LA_law) 409 = .ok (.aload_n 1, 1) := by decide +kernel
theorem d_LA_law_410 : decode (kB k_LA_law) 410 = .ok (.invokevirtual 92, 3) := by decide +kernel
theorem d_LA_law_413 : decode (kB k_LA_law) 413 = .ok (.aload_n 2, 1) := by decide +kernel
theorem d_LA_law_414 : decode (kB k_LA_law) 414 = .ok (.invokevirtual 95, 3) := by decide +kernel
theorem d_LA_law_417 : decode (kB k_LA_law) 417 = .ok (.if_icmp .eq (540), 3) := by decide +kernel
theorem d_LA_law_420 : decode (kB k_LA_law) 420 = .ok (.iconst 0, 1) := by decide +kernel
theorem d_LA_law_421 : decode (kB k_LA_law) 421 = .ok (.ireturn, 1) := by decide +kernel
theorem d_LA_law_422 : decode (kB k_LA_law) 422 = .ok (.aload_n 1, 1) := by decide +kernel
theorem d_LA_law_423 : decode (kB k_LA_law) 423 = .ok (.aload_n 0, 1) := by decide +kernel
theorem d_LA_law_424 : decode (kB k_LA_law) 424 = .ok (.iload 5, 2) := by decide +kernel
theorem d_LA_law_426 : decode (kB k_LA_law) 426 = .ok (.iconst 1, 1) := by decide +kernel
theorem d_LA_law_427 : decode (kB k_LA_law) 427 = .ok (.iadd, 1) := by decide +kernel
theorem d_LA_law_428 : decode (kB k_LA_law) 428 = .ok (.iaload, 1) := by decide +kernel
theorem d_LA_law_429 : decode (kB k_LA_law) 429 = .ok (.aload 4, 2) := by decide +kernel
theorem d_LA_law_431 : decode (kB k_LA_law) 431 = .ok (.invokestatic 96, 3) := by decide +kernel
theorem d_LA_law_434 : decode (kB k_LA_law) 434 = .ok (.istore 6, 2) := by decide +kernel
theorem d_LA_law_436 : decode (kB k_LA_law) 436 = .ok (.aload_n 2, 1) := by decide +kernel
theorem d_LA_law_437 : decode (kB k_LA_law) 437 = .ok (.aload_n 0, 1) := by decide +kernel
theorem d_LA_law_438 : decode (kB k_LA_law) 438 = .ok (.iload 5, 2) := by decide +kernel
theorem d_LA_law_440 : decode (kB k_LA_law) 440 = .ok (.iconst 1, 1) := by decide +kernel
theorem d_LA_law_441 : decode (kB k_LA_law) 441 = .ok (.iadd, 1) := by decide +kernel
theorem d_LA_law_442 : decode (kB k_LA_law) 442 = .ok (.iaload, 1) := by decide +kernel
theorem d_LA_law_443 : decode (kB k_LA_law) 443 = .ok (.invokevirtual 99, 3) := by decide +kernel
theorem d_LA_law_446 : decode (kB k_LA_law) 446 = .ok (.dstore 7, 2) := by decide +kernel
theorem d_LA_law_448 : decode (kB k_LA_law) 448 = .ok (.aload_n 2, 1) := by decide +kernel
theorem d_LA_law_449 : decode (kB k_LA_law) 449 = .ok (.invokevirtual 71, 3) := by decide +kernel
theorem d_LA_law_452 : decode (kB k_LA_law) 452 = .ok (.iload 6, 2) := by decide +kernel
theorem d_LA_law_454 : decode (kB k_LA_law) 454 = .ok (.if_icmp .eq (5), 3) := by decide +kernel
theorem d_LA_law_457 : decode (kB k_LA_law) 457 = .ok (.iconst 0, 1) := by decide +kernel
theorem d_LA_law_458 : decode (kB k_LA_law) 458 = .ok (.ireturn, 1) := by decide +kernel
theorem d_LA_law_459 : decode (kB k_LA_law) 459 = .ok (.iload 6, 2) := by decide +kernel
theorem d_LA_law_461 : decode (kB k_LA_law) 461 = .ok (.ifCond .ne (35), 3) := by decide +kernel
theorem d_LA_law_464 : decode (kB k_LA_law) 464 = .ok (.aload 4, 2) := by decide +kernel
theorem d_LA_law_466 : decode (kB k_LA_law) 466 = .ok (.iconst 0, 1) := by decide +kernel
theorem d_LA_law_467 : decode (kB k_LA_law) 467 = .ok (.daload, 1) := by decide +kernel
theorem d_LA_law_468 : decode (kB k_LA_law) 468 = .ok (.dload 7, 2) := by decide +kernel
theorem d_LA_law_470 : decode (kB k_LA_law) 470 = .ok (.dcmp .l, 1) := by decide +kernel
theorem d_LA_law_471 : decode (kB k_LA_law) 471 = .ok (.ifCond .eq (25), 3) := by decide +kernel
theorem d_LA_law_474 : decode (kB k_LA_law) 474 = .ok (.aload 4, 2) := by decide +kernel
theorem d_LA_law_476 : decode (kB k_LA_law) 476 = .ok (.iconst 0, 1) := by decide +kernel
theorem d_LA_law_477 : decode (kB k_LA_law) 477 = .ok (.daload, 1) := by decide +kernel
theorem d_LA_law_478 : decode (kB k_LA_law) 478 = .ok (.aload 4, 2) := by decide +kernel
theorem d_LA_law_480 : decode (kB k_LA_law) 480 = .ok (.iconst 0, 1) := by decide +kernel
theorem d_LA_law_481 : decode (kB k_LA_law) 481 = .ok (.daload, 1) := by decide +kernel
theorem d_LA_law_482 : decode (kB k_LA_law) 482 = .ok (.dcmp .l, 1) := by decide +kernel
theorem d_LA_law_483 : decode (kB k_LA_law) 483 = .ok (.ifCond .eq (11), 3) := by decide +kernel
theorem d_LA_law_486 : decode (kB k_LA_law) 486 = .ok (.dload 7, 2) := by decide +kernel
theorem d_LA_law_488 : decode (kB k_LA_law) 488 = .ok (.dload 7, 2) := by decide +kernel
theorem d_LA_law_490 : decode (kB k_LA_law) 490 = .ok (.dcmp .l, 1) := by decide +kernel
theorem d_LA_law_491 : decode (kB k_LA_law) 491 = .ok (.ifCond .ne (5), 3) := by decide +kernel
theorem d_LA_law_494 : decode (kB k_LA_law) 494 = .ok (.iconst 0, 1) := by decide +kernel
theorem d_LA_law_495 : decode (kB k_LA_law) 495 = .ok (.ireturn, 1) := by decide +kernel
theorem d_LA_law_496 : decode (kB k_LA_law) 496 = .ok (.goto (461), 3) := by decide +kernel
theorem d_LA_law_499 : decode (kB k_LA_law) 499 = .ok (.aload_n 1, 1) := by decide +kernel
theorem d_LA_law_500 : decode (kB k_LA_law) 500 = .ok (.aload_n 0, 1) := by decide +kernel
theorem d_LA_law_501 : decode (kB k_LA_law) 501 = .ok (.iload 5, 2) := by decide +kernel
theorem d_LA_law_503 : decode (kB k_LA_law) 503 = .ok (.iconst 1, 1) := by decide +kernel
theorem d_LA_law_504 : decode (kB k_LA_law) 504 = .ok (.iadd, 1) := by decide +kernel
theorem d_LA_law_505 : decode (kB k_LA_law) 505 = .ok (.iaload, 1) := by decide +kernel
theorem d_LA_law_506 : decode (kB k_LA_law) 506 = .ok (.aload_n 0, 1) := by decide +kernel
theorem d_LA_law_507 : decode (kB k_LA_law) 507 = .ok (.iload 5, 2) := by decide +kernel
theorem d_LA_law_509 : decode (kB k_LA_law) 509 = .ok (.iconst 2, 1) := by decide +kernel
theorem d_LA_law_510 : decode (kB k_LA_law) 510 = .ok (.iadd, 1) := by decide +kernel
theorem d_LA_law_511 : decode (kB k_LA_law) 511 = .ok (.iaload, 1) := by decide +kernel
theorem d_LA_law_512 : decode (kB k_LA_law) 512 = .ok (.aload_n 3, 1) := by decide +kernel
theorem d_LA_law_513 : decode (kB k_LA_law) 513 = .ok (.invokestatic 100, 3) := by decide +kernel
theorem d_LA_law_516 : decode (kB k_LA_law) 516 = .ok (.istore 6, 2) := by decide +kernel
theorem d_LA_law_518 : decode (kB k_LA_law) 518 = .ok (.aload_n 2, 1) := by decide +kernel
theorem d_LA_law_519 : decode (kB k_LA_law) 519 = .ok (.aload_n 0, 1) := by decide +kernel
theorem d_LA_law_520 : decode (kB k_LA_law) 520 = .ok (.iload 5, 2) := by decide +kernel
theorem d_LA_law_522 : decode (kB k_LA_law) 522 = .ok (.iconst 1, 1) := by decide +kernel
theorem d_LA_law_523 : decode (kB k_LA_law) 523 = .ok (.iadd, 1) := by decide +kernel
theorem d_LA_law_524 : decode (kB k_LA_law) 524 = .ok (.iaload, 1) := by decide +kernel
theorem d_LA_law_525 : decode (kB k_LA_law) 525 = .ok (.aload_n 0, 1) := by decide +kernel
theorem d_LA_law_526 : decode (kB k_LA_law) 526 = .ok (.iload 5, 2) := by decide +kernel
theorem d_LA_law_528 : decode (kB k_LA_law) 528 = .ok (.iconst 2, 1) := by decide +kernel
theorem d_LA_law_529 : decode (kB k_LA_law) 529 = .ok (.iadd, 1) := by decide +kernel
theorem d_LA_law_530 : decode (kB k_LA_law) 530 = .ok (.iaload, 1) := by decide +kernel
theorem d_LA_law_531 : decode (kB k_LA_law) 531 = .ok (.invokevirtual 103, 3) := by decide +kernel
theorem d_LA_law_534 : decode (kB k_LA_law) 534 = .ok (.istore 7, 2) := by decide +kernel
theorem d_LA_law_536 : decode (kB k_LA_law) 536 = .ok (.aload_n 2, 1) := by decide +kernel
theorem d_LA_law_537 : decode (kB k_LA_law) 537 = .ok (.invokevirtual 71, 3) := by decide +kernel
theorem d_LA_law_540 : decode (kB k_LA_law) 540 = .ok (.iload 6, 2) := by decide +kernel
theorem d_LA_law_542 : decode (kB k_LA_law) 542 = .ok (.if_icmp .eq (5), 3) := by decide +kernel
theorem d_LA_law_545 : decode (kB k_LA_law) 545 = .ok (.iconst 0, 1) := by decide +kernel
theorem d_LA_law_546 : decode (kB k_LA_law) 546 = .ok (.ireturn, 1) := by decide +kernel
theorem d_LA_law_547 : decode (kB k_LA_law) 547 = .ok (.iload 6, 2) := by decide +kernel
theorem d_LA_law_549 : decode (kB k_LA_law) 549 = .ok (.ifCond .ne (15), 3) := by decide +kernel
theorem d_LA_law_552 : decode (kB k_LA_law) 552 = .ok (.aload_n 3, 1) := by decide +kernel
theorem d_LA_law_553 : decode (kB k_LA_law) 553 = .ok (.iconst 0, 1) := by decide +kernel
theorem d_LA_law_554 : decode (kB k_LA_law) 554 = .ok (.laload, 1) := by decide +kernel
theorem d_LA_law_555 : decode (kB k_LA_law) 555 = .ok (.iload 7, 2) := by decide +kernel
theorem d_LA_law_557 : decode (kB k_LA_law) 557 = .ok (.i2l, 1) := by decide +kernel
theorem d_LA_law_558 : decode (kB k_LA_law) 558 = .ok (.lcmp, 1) := by decide +kernel
theorem d_LA_law_559 : decode (kB k_LA_law) 559 = .ok (.ifCond .eq (5), 3) := by decide +kernel
theorem d_LA_law_562 : decode (kB k_LA_law) 562 = .ok (.iconst 0, 1) := by decide +kernel
theorem d_LA_law_563 : decode (kB k_LA_law) 563 = .ok (.ireturn, 1) := by decide +kernel
theorem d_LA_law_564 : decode (kB k_LA_law) 564 = .ok (.goto (393), 3) := by decide +kernel
theorem d_LA_law_567 : decode (kB k_LA_law) 567 = .ok (.aload_n 1, 1) := by decide +kernel
theorem d_LA_law_568 : decode (kB k_LA_law) 568 = .ok (.aload_n 0, 1) := by decide +kernel
theorem d_LA_law_569 : decode (kB k_LA_law) 569 = .ok (.iload 5, 2) := by decide +kernel
theorem d_LA_law_571 : decode (kB k_LA_law) 571 = .ok (.iconst 1, 1) := by decide +kernel
theorem d_LA_law_572 : decode (kB k_LA_law) 572 = .ok (.iadd, 1) := by decide +kernel
theorem d_LA_law_573 : decode (kB k_LA_law) 573 = .ok (.iaload, 1) := by decide +kernel
theorem d_LA_law_574 : decode (kB k_LA_law) 574 = .ok (.aload_n 3, 1) := by decide +kernel
theorem d_LA_law_575 : decode (kB k_LA_law) 575 = .ok (.invokestatic 104, 3) := by decide +kernel
theorem d_LA_law_578 : decode (kB k_LA_law) 578 = .ok (.istore 6, 2) := by decide +kernel
theorem d_LA_law_580 : decode (kB k_LA_law) 580 = .ok (.aload_n 2, 1) := by decide +kernel
theorem d_LA_law_581 : decode (kB k_LA_law) 581 = .ok (.aload_n 0, 1) := by decide +kernel
theorem d_LA_law_582 : decode (kB k_LA_law) 582 = .ok (.iload 5, 2) := by decide +kernel
theorem d_LA_law_584 : decode (kB k_LA_law) 584 = .ok (.iconst 1, 1) := by decide +kernel
theorem d_LA_law_585 : decode (kB k_LA_law) 585 = .ok (.iadd, 1) := by decide +kernel
theorem d_LA_law_586 : decode (kB k_LA_law) 586 = .ok (.iaload, 1) := by decide +kernel
theorem d_LA_law_587 : decode (kB k_LA_law) 587 = .ok (.invokevirtual 106, 3) := by decide +kernel
theorem d_LA_law_590 : decode (kB k_LA_law) 590 = .ok (.istore 7, 2) := by decide +kernel
theorem d_LA_law_592 : decode (kB k_LA_law) 592 = .ok (.aload_n 2, 1) := by decide +kernel
theorem d_LA_law_593 : decode (kB k_LA_law) 593 = .ok (.invokevirtual 71, 3) := by decide +kernel
theorem d_LA_law_596 : decode (kB k_LA_law) 596 = .ok (.iload 6, 2) := by decide +kernel
theorem d_LA_law_598 : decode (kB k_LA_law) 598 = .ok (.if_icmp .eq (5), 3) := by decide +kernel
theorem d_LA_law_601 : decode (kB k_LA_law) 601 = .ok (.iconst 0, 1) := by decide +kernel
theorem d_LA_law_602 : decode (kB k_LA_law) 602 = .ok (.ireturn, 1) := by decide +kernel
theorem d_LA_law_603 : decode (kB k_LA_law) 603 = .ok (.iload 6, 2) := by decide +kernel
theorem d_LA_law_605 : decode (kB k_LA_law) 605 = .ok (.ifCond .ne (15), 3) := by decide +kernel
theorem d_LA_law_608 : decode (kB k_LA_law) 608 = .ok (.aload_n 3, 1) := by decide +kernel
theorem d_LA_law_609 : decode (kB k_LA_law) 609 = .ok (.iconst 0, 1) := by decide +kernel
theorem d_LA_law_610 : decode (kB k_LA_law) 610 = .ok (.laload, 1) := by decide +kernel
theorem d_LA_law_611 : decode (kB k_LA_law) 611 = .ok (.iload 7, 2) := by decide +kernel
theorem d_LA_law_613 : decode (kB k_LA_law) 613 = .ok (.i2l, 1) := by decide +kernel
theorem d_LA_law_614 : decode (kB k_LA_law) 614 = .ok (.lcmp, 1) := by decide +kernel
theorem d_LA_law_615 : decode (kB k_LA_law) 615 = .ok (.ifCond .eq (5), 3) := by decide +kernel
theorem d_LA_law_618 : decode (kB k_LA_law) 618 = .ok (.iconst 0, 1) := by decide +kernel
theorem d_LA_law_619 : decode (kB k_LA_law) 619 = .ok (.ireturn, 1) := by decide +kernel
theorem d_LA_law_620 : decode (kB k_LA_law) 620 = .ok (.goto (337), 3) := by decide +kernel
theorem d_LA_law_623 : decode (kB k_LA_law) 623 = .ok (.aload_n 1, 1) := by decide +kernel
theorem d_LA_law_624 : decode (kB k_LA_law) 624 = .ok (.aload_n 0, 1) := by decide +kernel
theorem d_LA_law_625 : decode (kB k_LA_law) 625 = .ok (.iload 5, 2) := by decide +kernel
theorem d_LA_law_627 : decode (kB k_LA_law) 627 = .ok (.iconst 1, 1) := by decide +kernel
theorem d_LA_law_628 : decode (kB k_LA_law) 628 = .ok (.iadd, 1) := by decide +kernel
theorem d_LA_law_629 : decode (kB k_LA_law) 629 = .ok (.iaload, 1) := by decide +kernel
theorem d_LA_law_630 : decode (kB k_LA_law) 630 = .ok (.aload_n 3, 1) := by decide +kernel
theorem d_LA_law_631 : decode (kB k_LA_law) 631 = .ok (.invokestatic 107, 3) := by decide +kernel
theorem d_LA_law_634 : decode (kB k_LA_law) 634 = .ok (.istore 6, 2) := by decide +kernel
theorem d_LA_law_636 : decode (kB k_LA_law) 636 = .ok (.aload_n 2, 1) := by decide +kernel
theorem d_LA_law_637 : decode (kB k_LA_law) 637 = .ok (.aload_n 0, 1) := by decide +kernel
theorem d_LA_law_638 : decode (kB k_LA_law) 638 = .ok (.iload 5, 2) := by decide +kernel
theorem d_LA_law_640 : decode (kB k_LA_law) 640 = .ok (.iconst 1, 1) := by decide +kernel
theorem d_LA_law_641 : decode (kB k_LA_law) 641 = .ok (.iadd, 1) := by decide +kernel
theorem d_LA_law_642 : decode (kB k_LA_law) 642 = .ok (.iaload, 1) := by decide +kernel
theorem d_LA_law_643 : decode (kB k_LA_law) 643 = .ok (.invokevirtual 109, 3) := by decide +kernel
theorem d_LA_law_646 : decode (kB k_LA_law) 646 = .ok (.istore 7, 2) := by decide +kernel
theorem d_LA_law_648 : decode (kB k_LA_law) 648 = .ok (.aload_n 2, 1) := by decide +kernel
theorem d_LA_law_649 : decode (kB k_LA_law) 649 = .ok (.invokevirtual 71, 3) := by decide +kernel
theorem d_LA_law_652 : decode (kB k_LA_law) 652 = .ok (.iload 6, 2) := by decide +kernel
theorem d_LA_law_654 : decode (kB k_LA_law) 654 = .ok (.if_icmp .eq (5), 3) := by decide +kernel
theorem d_LA_law_657 : decode (kB k_LA_law) 657 = .ok (.iconst 0, 1) := by decide +kernel
theorem d_LA_law_658 : decode (kB k_LA_law) 658 = .ok (.ireturn, 1) := by decide +kernel
theorem d_LA_law_659 : decode (kB k_LA_law) 659 = .ok (.iload 6, 2) := by decide +kernel
theorem d_LA_law_661 : decode (kB k_LA_law) 661 = .ok (.ifCond .ne (15), 3) := by decide +kernel
theorem d_LA_law_664 : decode (kB k_LA_law) 664 = .ok (.aload_n 3, 1) := by decide +kernel
theorem d_LA_law_665 : decode (kB k_LA_law) 665 = .ok (.iconst 0, 1) := by decide +kernel
theorem d_LA_law_666 : decode (kB k_LA_law) 666 = .ok (.laload, 1) := by decide +kernel
theorem d_LA_law_667 : decode (kB k_LA_law) 667 = .ok (.iload 7, 2) := by decide +kernel
theorem d_LA_law_669 : decode (kB k_LA_law) 669 = .ok (.i2l, 1) := by decide +kernel
theorem d_LA_law_670 : decode (kB k_LA_law) 670 = .ok (.lcmp, 1) := by decide +kernel
theorem d_LA_law_671 : decode (kB k_LA_law) 671 = .ok (.ifCond .eq (5), 3) := by decide +kernel
theorem d_LA_law_674 : decode (kB k_LA_law) 674 = .ok (.iconst 0, 1) := by decide +kernel
theorem d_LA_law_675 : decode (kB k_LA_law) 675 = .ok (.ireturn, 1) := by decide +kernel
theorem d_LA_law_676 : decode (kB k_LA_law) 676 = .ok (.goto (281), 3) := by decide +kernel
theorem d_LA_law_679 : decode (kB k_LA_law) 679 = .ok (.aload_n 1, 1) := by decide +kernel
theorem d_LA_law_680 : decode (kB k_LA_law) 680 = .ok (.aload_n 0, 1) := by decide +kernel
theorem d_LA_law_681 : decode (kB k_LA_law) 681 = .ok (.iload 5, 2) := by decide +kernel
theorem d_LA_law_683 : decode (kB k_LA_law) 683 = .ok (.iconst 1, 1) := by decide +kernel
theorem d_LA_law_684 : decode (kB k_LA_law) 684 = .ok (.iadd, 1) := by decide +kernel
theorem d_LA_law_685 : decode (kB k_LA_law) 685 = .ok (.iaload, 1) := by decide +kernel
theorem d_LA_law_686 : decode (kB k_LA_law) 686 = .ok (.aload 4, 2) := by decide +kernel
theorem d_LA_law_688 : decode (kB k_LA_law) 688 = .ok (.invokestatic 110, 3) := by decide +kernel
theorem d_LA_law_691 : decode (kB k_LA_law) 691 = .ok (.istore 6, 2) := by decide +kernel
theorem d_LA_law_693 : decode (kB k_LA_law) 693 = .ok (.aload_n 2, 1) := by decide +kernel
theorem d_LA_law_694 : decode (kB k_LA_law) 694 = .ok (.aload_n 0, 1) := by decide +kernel
theorem d_LA_law_695 : decode (kB k_LA_law) 695 = .ok (.iload 5, 2) := by decide +kernel
theorem d_LA_law_697 : decode (kB k_LA_law) 697 = .ok (.iconst 1, 1) := by decide +kernel
theorem d_LA_law_698 : decode (kB k_LA_law) 698 = .ok (.iadd, 1) := by decide +kernel
theorem d_LA_law_699 : decode (kB k_LA_law) 699 = .ok (.iaload, 1) := by decide +kernel
theorem d_LA_law_700 : decode (kB k_LA_law) 700 = .ok (.invokevirtual 112, 3) := by decide +kernel
theorem d_LA_law_703 : decode (kB k_LA_law) 703 = .ok (.dstore 7, 2) := by decide +kernel
theorem d_LA_law_705 : decode (kB k_LA_law) 705 = .ok (.aload_n 2, 1) := by decide +kernel
theorem d_LA_law_706 : decode (kB k_LA_law) 706 = .ok (.invokevirtual 71, 3) := by decide +kernel
theorem d_LA_law_709 : decode (kB k_LA_law) 709 = .ok (.iload 6, 2) := by decide +kernel
theorem d_LA_law_711 : decode (kB k_LA_law) 711 = .ok (.if_icmp .eq (5), 3) := by decide +kernel
theorem d_LA_law_714 : decode (kB k_LA_law) 714 = .ok (.iconst 0, 1) := by decide +kernel
theorem d_LA_law_715 : decode (kB k_LA_law) 715 = .ok (.ireturn, 1) := by decide +kernel
theorem d_LA_law_716 : decode (kB k_LA_law) 716 = .ok (.iload 6, 2) := by decide +kernel
theorem d_LA_law_718 : decode (kB k_LA_law) 718 = .ok (.ifCond .ne (35), 3) := by decide +kernel
theorem d_LA_law_721 : decode (kB k_LA_law) 721 = .ok (.aload 4, 2) := by decide +kernel
theorem d_LA_law_723 : decode (kB k_LA_law) 723 = .ok (.iconst 0, 1) := by decide +kernel
theorem d_LA_law_724 : decode (kB k_LA_law) 724 = .ok (.daload, 1) := by decide +kernel
theorem d_LA_law_725 : decode (kB k_LA_law) 725 = .ok (.dload 7, 2) := by decide +kernel
theorem d_LA_law_727 : decode (kB k_LA_law) 727 = .ok (.dcmp .l, 1) := by decide +kernel
theorem d_LA_law_728 : decode (kB k_LA_law) 728 = .ok (.ifCond .eq (25), 3) := by decide +kernel
theorem d_LA_law_731 : decode (kB k_LA_law) 731 = .ok (.aload 4, 2) := by decide +kernel
theorem d_LA_law_733 : decode (kB k_LA_law) 733 = .ok (.iconst 0, 1) := by decide +kernel
theorem d_LA_law_734 : decode (kB k_LA_law) 734 = .ok (.daload, 1) := by decide +kernel
theorem d_LA_law_735 : decode (kB k_LA_law) 735 = .ok (.aload 4, 2) := by decide +kernel
theorem d_LA_law_737 : decode (kB k_LA_law) 737 = .ok (.iconst 0, 1) := by decide +kernel
theorem d_LA_law_738 : decode (kB k_LA_law) 738 = .ok (.daload, 1) := by decide +kernel
theorem d_LA_law_739 : decode (kB k_LA_law) 739 = .ok (.dcmp .l, 1) := by decide +kernel
theorem d_LA_law_740 : decode (kB k_LA_law) 740 = .ok (.ifCond .eq (11), 3) := by decide +kernel
theorem d_LA_law_743 : decode (kB k_LA_law) 743 = .ok (.dload 7, 2) := by decide +kernel
theorem d_LA_law_745 : decode (kB k_LA_law) 745 = .ok (.dload 7, 2) := by decide +kernel
theorem d_LA_law_747 : decode (kB k_LA_law) 747 = .ok (.dcmp .l, 1) := by decide +kernel
theorem d_LA_law_748 : decode (kB k_LA_law) 748 = .ok (.ifCond .ne (5), 3) := by decide +kernel
theorem d_LA_law_751 : decode (kB k_LA_law) 751 = .ok (.iconst 0, 1) := by decide +kernel
theorem d_LA_law_752 : decode (kB k_LA_law) 752 = .ok (.ireturn, 1) := by decide +kernel
theorem d_LA_law_753 : decode (kB k_LA_law) 753 = .ok (.goto (204), 3) := by decide +kernel
theorem d_LA_law_756 : decode (kB k_LA_law) 756 = .ok (.aload_n 1, 1) := by decide +kernel
theorem d_LA_law_757 : decode (kB k_LA_law) 757 = .ok (.aload_n 0, 1) := by decide +kernel
theorem d_LA_law_758 : decode (kB k_LA_law) 758 = .ok (.iload 5, 2) := by decide +kernel
theorem d_LA_law_760 : decode (kB k_LA_law) 760 = .ok (.iconst 1, 1) := by decide +kernel
theorem d_LA_law_761 : decode (kB k_LA_law) 761 = .ok (.iadd, 1) := by decide +kernel
theorem d_LA_law_762 : decode (kB k_LA_law) 762 = .ok (.iaload, 1) := by decide +kernel
theorem d_LA_law_763 : decode (kB k_LA_law) 763 = .ok (.aload_n 3, 1) := by decide +kernel
theorem d_LA_law_764 : decode (kB k_LA_law) 764 = .ok (.invokestatic 113, 3) := by decide +kernel
theorem d_LA_law_767 : decode (kB k_LA_law) 767 = .ok (.istore 6, 2) := by decide +kernel
theorem d_LA_law_769 : decode (kB k_LA_law) 769 = .ok (.aload_n 2, 1) := by decide +kernel
theorem d_LA_law_770 : decode (kB k_LA_law) 770 = .ok (.aload_n 0, 1) := by decide +kernel
theorem d_LA_law_771 : decode (kB k_LA_law) 771 = .ok (.iload 5, 2) := by decide +kernel
theorem d_LA_law_773 : decode (kB k_LA_law) 773 = .ok (.iconst 1, 1) := by decide +kernel
theorem d_LA_law_774 : decode (kB k_LA_law) 774 = .ok (.iadd, 1) := by decide +kernel
theorem d_LA_law_775 : decode (kB k_LA_law) 775 = .ok (.iaload, 1) := by decide +kernel
theorem d_LA_law_776 : decode (kB k_LA_law) 776 = .ok (.invokevirtual 115, 3) := by decide +kernel
theorem d_LA_law_779 : decode (kB k_LA_law) 779 = .ok (.istore 7, 2) := by decide +kernel
theorem d_LA_law_781 : decode (kB k_LA_law) 781 = .ok (.aload_n 2, 1) := by decide +kernel
theorem d_LA_law_782 : decode (kB k_LA_law) 782 = .ok (.invokevirtual 71, 3) := by decide +kernel
theorem d_LA_law_785 : decode (kB k_LA_law) 785 = .ok (.iload 6, 2) := by decide +kernel
theorem d_LA_law_787 : decode (kB k_LA_law) 787 = .ok (.if_icmp .eq (5), 3) := by decide +kernel
theorem d_LA_law_790 : decode (kB k_LA_law) 790 = .ok (.iconst 0, 1) := by decide +kernel
theorem d_LA_law_791 : decode (kB k_LA_law) 791 = .ok (.ireturn, 1) := by decide +kernel
theorem d_LA_law_792 : decode (kB k_LA_law) 792 = .ok (.iload 6, 2) := by decide +kernel
theorem d_LA_law_794 : decode (kB k_LA_law) 794 = .ok (.ifCond .ne (15), 3) := by decide +kernel
theorem d_LA_law_797 : decode (kB k_LA_law) 797 = .ok (.aload_n 3, 1) := by decide +kernel
theorem d_LA_law_798 : decode (kB k_LA_law) 798 = .ok (.iconst 0, 1) := by decide +kernel
theorem d_LA_law_799 : decode (kB k_LA_law) 799 = .ok (.laload, 1) := by decide +kernel
theorem d_LA_law_800 : decode (kB k_LA_law) 800 = .ok (.iload 7, 2) := by decide +kernel
theorem d_LA_law_802 : decode (kB k_LA_law) 802 = .ok (.i2l, 1) := by decide +kernel
theorem d_LA_law_803 : decode (kB k_LA_law) 803 = .ok (.lcmp, 1) := by decide +kernel
theorem d_LA_law_804 : decode (kB k_LA_law) 804 = .ok (.ifCond .eq (5), 3) := by decide +kernel
theorem d_LA_law_807 : decode (kB k_LA_law) 807 = .ok (.iconst 0, 1) := by decide +kernel
theorem d_LA_law_808 : decode (kB k_LA_law) 808 = .ok (.ireturn, 1) := by decide +kernel
theorem d_LA_law_809 : decode (kB k_LA_law) 809 = .ok (.goto (148), 3) := by decide +kernel
theorem d_LA_law_812 : decode (kB k_LA_law) 812 = .ok (.aload_n 1, 1) := by decide +kernel
theorem d_LA_law_813 : decode (kB k_LA_law) 813 = .ok (.aload_n 0, 1) := by decide +kernel
theorem d_LA_law_814 : decode (kB k_LA_law) 814 = .ok (.iload 5, 2) := by decide +kernel
theorem d_LA_law_816 : decode (kB k_LA_law) 816 = .ok (.iconst 1, 1) := by decide +kernel
theorem d_LA_law_817 : decode (kB k_LA_law) 817 = .ok (.iadd, 1) := by decide +kernel
theorem d_LA_law_818 : decode (kB k_LA_law) 818 = .ok (.iaload, 1) := by decide +kernel
theorem d_LA_law_819 : decode (kB k_LA_law) 819 = .ok (.aload_n 0, 1) := by decide +kernel
theorem d_LA_law_820 : decode (kB k_LA_law) 820 = .ok (.iload 5, 2) := by decide +kernel
theorem d_LA_law_822 : decode (kB k_LA_law) 822 = .ok (.iconst 2, 1) := by decide +kernel
theorem d_LA_law_823 : decode (kB k_LA_law) 823 = .ok (.iadd, 1) := by decide +kernel
theorem d_LA_law_824 : decode (kB k_LA_law) 824 = .ok (.iaload, 1) := by decide +kernel
theorem d_LA_law_825 : decode (kB k_LA_law) 825 = .ok (.aload 4, 2) := by decide +kernel
theorem d_LA_law_827 : decode (kB k_LA_law) 827 = .ok (.invokestatic 116, 3) := by decide +kernel
theorem d_LA_law_830 : decode (kB k_LA_law) 830 = .ok (.istore 6, 2) := by decide +kernel
theorem d_LA_law_832 : decode (kB k_LA_law) 832 = .ok (.aload_n 2, 1) := by decide +kernel
theorem d_LA_law_833 : decode (kB k_LA_law) 833 = .ok (.aload_n 0, 1) := by decide +kernel
theorem d_LA_law_834 : decode (kB k_LA_law) 834 = .ok (.iload 5, 2) := by decide +kernel
theorem d_LA_law_836 : decode (kB k_LA_law) 836 = .ok (.iconst 1, 1) := by decide +kernel
theorem d_LA_law_837 : decode (kB k_LA_law) 837 = .ok (.iadd, 1) := by decide +kernel
theorem d_LA_law_838 : decode (kB k_LA_law) 838 = .ok (.iaload, 1) := by decide +kernel
theorem d_LA_law_839 : decode (kB k_LA_law) 839 = .ok (.aload_n 0, 1) := by decide +kernel
theorem d_LA_law_840 : decode (kB k_LA_law) 840 = .ok (.iload 5, 2) := by decide +kernel
theorem d_LA_law_842 : decode (kB k_LA_law) 842 = .ok (.iconst 2, 1) := by decide +kernel
theorem d_LA_law_843 : decode (kB k_LA_law) 843 = .ok (.iadd, 1) := by decide +kernel
theorem d_LA_law_844 : decode (kB k_LA_law) 844 = .ok (.iaload, 1) := by decide +kernel
theorem d_LA_law_845 : decode (kB k_LA_law) 845 = .ok (.invokevirtual 119, 3) := by decide +kernel
theorem d_LA_law_848 : decode (kB k_LA_law) 848 = .ok (.dstore 7, 2) := by decide +kernel
theorem d_LA_law_850 : decode (kB k_LA_law) 850 = .ok (.aload_n 2, 1) := by decide +kernel
theorem d_LA_law_851 : decode (kB k_LA_law) 851 = .ok (.invokevirtual 71, 3) := by decide +kernel
theorem d_LA_law_854 : decode (kB k_LA_law) 854 = .ok (.iload 6, 2) := by decide +kernel
theorem d_LA_law_856 : decode (kB k_LA_law) 856 = .ok (.if_icmp .eq (5), 3) := by decide +kernel
theorem d_LA_law_859 : decode (kB k_LA_law) 859 = .ok (.iconst 0, 1) := by decide +kernel
theorem d_LA_law_860 : decode (kB k_LA_law) 860 = .ok (.ireturn, 1) := by decide +kernel
theorem d_LA_law_861 : decode (kB k_LA_law) 861 = .ok (.iload 6, 2) := by decide +kernel
theorem d_LA_law_863 : decode (kB k_LA_law) 863 = .ok (.ifCond .ne (35), 3) := by decide +kernel
theorem d_LA_law_866 : decode (kB k_LA_law) 866 = .ok (.aload 4, 2) := by decide +kernel
theorem d_LA_law_868 : decode (kB k_LA_law) 868 = .ok (.iconst 0, 1) := by decide +kernel
theorem d_LA_law_869 : decode (kB k_LA_law) 869 = .ok (.daload, 1) := by decide +kernel
theorem d_LA_law_870 : decode (kB k_LA_law) 870 = .ok (.dload 7, 2) := by decide +kernel
theorem d_LA_law_872 : decode (kB k_LA_law) 872 = .ok (.dcmp .l, 1) := by decide +kernel
theorem d_LA_law_873 : decode (kB k_LA_law) 873 = .ok (.ifCond .eq (25), 3) := by decide +kernel
theorem d_LA_law_876 : decode (kB k_LA_law) 876 = .ok (.aload 4, 2) := by decide +kernel
theorem d_LA_law_878 : decode (kB k_LA_law) 878 = .ok (.iconst 0, 1) := by decide +kernel
theorem d_LA_law_879 : decode (kB k_LA_law) 879 = .ok (.daload, 1) := by decide +kernel
theorem d_LA_law_880 : decode (kB k_LA_law) 880 = .ok (.aload 4, 2) := by decide +kernel
theorem d_LA_law_882 : decode (kB k_LA_law) 882 = .ok (.iconst 0, 1) := by decide +kernel
theorem d_LA_law_883 : decode (kB k_LA_law) 883 = .ok (.daload, 1) := by decide +kernel
theorem d_LA_law_884 : decode (kB k_LA_law) 884 = .ok (.dcmp .l, 1) := by decide +kernel
theorem d_LA_law_885 : decode (kB k_LA_law) 885 = .ok (.ifCond .eq (11), 3) := by decide +kernel
theorem d_LA_law_888 : decode (kB k_LA_law) 888 = .ok (.dload 7, 2) := by decide +kernel
theorem d_LA_law_890 : decode (kB k_LA_law) 890 = .ok (.dload 7, 2) := by decide +kernel
theorem d_LA_law_892 : decode (kB k_LA_law) 892 = .ok (.dcmp .l, 1) := by decide +kernel
theorem d_LA_law_893 : decode (kB k_LA_law) 893 = .ok (.ifCond .ne (5), 3) := by decide +kernel
theorem d_LA_law_896 : decode (kB k_LA_law) 896 = .ok (.iconst 0, 1) := by decide +kernel
theorem d_LA_law_897 : decode (kB k_LA_law) 897 = .ok (.ireturn, 1) := by decide +kernel
theorem d_LA_law_898 : decode (kB k_LA_law) 898 = .ok (.goto (59), 3) := by decide +kernel
theorem d_LA_law_901 : decode (kB k_LA_law) 901 = .ok (.aload_n 1, 1) := by decide +kernel
theorem d_LA_law_902 : decode (kB k_LA_law) 902 = .ok (.aload_n 0, 1) := by decide +kernel
theorem d_LA_law_903 : decode (kB k_LA_law) 903 = .ok (.iload 5, 2) := by decide +kernel
theorem d_LA_law_905 : decode (kB k_LA_law) 905 = .ok (.iconst 1, 1) := by decide +kernel
theorem d_LA_law_906 : decode (kB k_LA_law) 906 = .ok (.iadd, 1) := by decide +kernel
theorem d_LA_law_907 : decode (kB k_LA_law) 907 = .ok (.iaload, 1) := by decide +kernel
theorem d_LA_law_908 : decode (kB k_LA_law) 908 = .ok (.aload_n 3, 1) := by decide +kernel
theorem d_LA_law_909 : decode (kB k_LA_law) 909 = .ok (.invokestatic 120, 3) := by decide +kernel
theorem d_LA_law_912 : decode (kB k_LA_law) 912 = .ok (.istore 6, 2) := by decide +kernel
theorem d_LA_law_914 : decode (kB k_LA_law) 914 = .ok (.aload_n 2, 1) := by decide +kernel
theorem d_LA_law_915 : decode (kB k_LA_law) 915 = .ok (.aload_n 0, 1) := by decide +kernel
theorem d_LA_law_916 : decode (kB k_LA_law) 916 = .ok (.iload 5, 2) := by decide +kernel
theorem d_LA_law_918 : decode (kB k_LA_law) 918 = .ok (.iconst 1, 1) := by decide +kernel
theorem d_LA_law_919 : decode (kB k_LA_law) 919 = .ok (.iadd, 1) := by decide +kernel
theorem d_LA_law_920 : decode (kB k_LA_law) 920 = .ok (.iaload, 1) := by decide +kernel
theorem d_LA_law_921 : decode (kB k_LA_law) 921 = .ok (.invokevirtual 122, 3) := by decide +kernel
theorem d_LA_law_924 : decode (kB k_LA_law) 924 = .ok (.istore 7, 2) := by decide +kernel
theorem d_LA_law_926 : decode (kB k_LA_law) 926 = .ok (.aload_n 2, 1) := by decide +kernel
theorem d_LA_law_927 : decode (kB k_LA_law) 927 = .ok (.invokevirtual 71, 3) := by decide +kernel
theorem d_LA_law_930 : decode (kB k_LA_law) 930 = .ok (.iload 6, 2) := by decide +kernel
theorem d_LA_law_932 : decode (kB k_LA_law) 932 = .ok (.if_icmp .eq (5), 3) := by decide +kernel
theorem d_LA_law_935 : decode (kB k_LA_law) 935 = .ok (.iconst 0, 1) := by decide +kernel
theorem d_LA_law_936 : decode (kB k_LA_law) 936 = .ok (.ireturn, 1) := by decide +kernel
theorem d_LA_law_937 : decode (kB k_LA_law) 937 = .ok (.iload 6, 2) := by decide +kernel
theorem d_LA_law_939 : decode (kB k_LA_law) 939 = .ok (.ifCond .ne (15), 3) := by decide +kernel
theorem d_LA_law_942 : decode (kB k_LA_law) 942 = .ok (.aload_n 3, 1) := by decide +kernel
theorem d_LA_law_943 : decode (kB k_LA_law) 943 = .ok (.iconst 0, 1) := by decide +kernel
theorem d_LA_law_944 : decode (kB k_LA_law) 944 = .ok (.laload, 1) := by decide +kernel
theorem d_LA_law_945 : decode (kB k_LA_law) 945 = .ok (.iload 7, 2) := by decide +kernel
theorem d_LA_law_947 : decode (kB k_LA_law) 947 = .ok (.i2l, 1) := by decide +kernel
theorem d_LA_law_948 : decode (kB k_LA_law) 948 = .ok (.lcmp, 1) := by decide +kernel
theorem d_LA_law_949 : decode (kB k_LA_law) 949 = .ok (.ifCond .eq (5), 3) := by decide +kernel
theorem d_LA_law_952 : decode (kB k_LA_law) 952 = .ok (.iconst 0, 1) := by decide +kernel
theorem d_LA_law_953 : decode (kB k_LA_law) 953 = .ok (.ireturn, 1) := by decide +kernel
theorem d_LA_law_954 : decode (kB k_LA_law) 954 = .ok (.goto (3), 3) := by decide +kernel
theorem d_LA_law_957 : decode (kB k_LA_law) 957 = .ok (.iinc 5 4, 3) := by decide +kernel
theorem d_LA_law_960 : decode (kB k_LA_law) 960 = .ok (.goto (-932), 3) := by decide +kernel
theorem d_LA_law_963 : decode (kB k_LA_law) 963 = .ok (.iconst 1, 1) := by decide +kernel
theorem d_LA_law_964 : decode (kB k_LA_law) 964 = .ok (.ireturn, 1) := by decide +kernel
