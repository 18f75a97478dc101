/-! what the bytes say (written by gen/names.py) -/
theorem d_MO_plain_0 : decode (kB k_MO_plain) 0 = .ok (.iconst 0, 1) := by decide +kernel
theorem d_MO_plain_1 : decode (kB k_MO_plain) 1 = .ok (.istore_n 3, 1) := by decide +kernel
theorem d_MO_plain_2 : decode (kB k_MO_plain) 2 = .ok (.aload_n 0, 1) := by decide +kernel
theorem d_MO_plain_3 : decode (kB k_MO_plain) 3 = .ok (.iload_n 1, 1) := by decide +kernel
theorem d_MO_plain_4 : decode (kB k_MO_plain) 4 = .ok (.iload_n 2, 1) := by decide +kernel
theorem d_MO_plain_5 : decode (kB k_MO_plain) 5 = .ok (.invokevirtual 110, 3) := by decide +kernel
theorem d_MO_plain_8 : decode (kB k_MO_plain) 8 = .ok (.invokestatic 113, 3) := by decide +kernel
theorem d_MO_plain_11 : decode (kB k_MO_plain) 11 = .ok (.istore 4, 2) := by decide +kernel
theorem d_MO_plain_13 : decode (kB k_MO_plain) 13 = .ok (.iconst 0, 1) := by decide +kernel
theorem d_MO_plain_14 : decode (kB k_MO_plain) 14 = .ok (.istore 5, 2) := by decide +kernel
theorem d_MO_plain_16 : decode (kB k_MO_plain) 16 = .ok (.iload 5, 2) := by decide +kernel
theorem d_MO_plain_18 : decode (kB k_MO_plain) 18 = .ok (.aload_n 0, 1) := by decide +kernel
theorem d_MO_plain_19 : decode (kB k_MO_plain) 19 = .ok (.getfield 62, 3) := by decide +kernel
theorem d_MO_plain_22 : decode (kB k_MO_plain) 22 = .ok (.if_icmp .ge (22), 3) := by decide +kernel
theorem d_MO_plain_25 : decode (kB k_MO_plain) 25 = .ok (.iload_n 3, 1) := by decide +kernel
theorem d_MO_plain_26 : decode (kB k_MO_plain) 26 = .ok (.aload_n 0, 1) := by decide +kernel
theorem d_MO_plain_27 : decode (kB k_MO_plain) 27 = .ok (.iload_n 1, 1) := by decide +kernel
theorem d_MO_plain_28 : decode (kB k_MO_plain) 28 = .ok (.iload 5, 2) := by decide +kernel
theorem d_MO_plain_30 : decode (kB k_MO_plain) 30 = .ok (.invokevirtual 110, 3) := by decide +kernel
theorem d_MO_plain_33 : decode (kB k_MO_plain) 33 = .ok (.invokestatic 113, 3) := by decide +kernel
theorem d_MO_plain_36 : decode (kB k_MO_plain) 36 = .ok (.iadd, 1) := by decide +kernel
theorem d_MO_plain_37 : decode (kB k_MO_plain) 37 = .ok (.istore_n 3, 1) := by decide +kernel
theorem d_MO_plain_38 : decode (kB k_MO_plain) 38 = .ok (.iinc 5 1, 3) := by decide +kernel
theorem d_MO_plain_41 : decode (kB k_MO_plain) 41 = .ok (.goto (-25), 3) := by decide +kernel
theorem d_MO_plain_44 : decode (kB k_MO_plain) 44 = .ok (.iload_n 3, 1) := by decide +kernel
theorem d_MO_plain_45 : decode (kB k_MO_plain) 45 = .ok (.ifCond .ne (9), 3) := by decide +kernel
theorem d_MO_plain_48 : decode (kB k_MO_plain) 48 = .ok (.ldc2_w 116, 3) := by decide +kernel
theorem d_MO_plain_51 : decode (kB k_MO_plain) 51 = .ok (.goto (5), 3) := by decide +kernel
theorem d_MO_plain_54 : decode (kB k_MO_plain) 54 = .ok (.iload_n 3, 1) := by decide +kernel
theorem d_MO_plain_55 : decode (kB k_MO_plain) 55 = .ok (.i2d, 1) := by decide +kernel
theorem d_MO_plain_56 : decode (kB k_MO_plain) 56 = .ok (.dstore 5, 2) := by decide +kernel
theorem d_MO_plain_58 : decode (kB k_MO_plain) 58 = .ok (.aload_n 0, 1) := by decide +kernel
theorem d_MO_plain_59 : decode (kB k_MO_plain) 59 = .ok (.getfield 31, 3) := by decide +kernel
theorem d_MO_plain_62 : decode (kB k_MO_plain) 62 = .ok (.dload 5, 2) := by decide +kernel
theorem d_MO_plain_64 : decode (kB k_MO_plain) 64 = .ok (.aload_n 0, 1) := by decide +kernel
theorem d_MO_plain_65 : decode (kB k_MO_plain) 65 = .ok (.invokevirtual 118, 3) := by decide +kernel
theorem d_MO_plain_68 : decode (kB k_MO_plain) 68 = .ok (.i2d, 1) := by decide +kernel
theorem d_MO_plain_69 : decode (kB k_MO_plain) 69 = .ok (.ddiv, 1) := by decide +kernel
theorem d_MO_plain_70 : decode (kB k_MO_plain) 70 = .ok (.dmul, 1) := by decide +kernel
theorem d_MO_plain_71 : decode (kB k_MO_plain) 71 = .ok (.dstore 7, 2) := by decide +kernel
theorem d_MO_plain_73 : decode (kB k_MO_plain) 73 = .ok (.aload_n 0, 1) := by decide +kernel
theorem d_MO_plain_74 : decode (kB k_MO_plain) 74 = .ok (.getfield 65, 3) := by decide +kernel
theorem d_MO_plain_77 : decode (kB k_MO_plain) 77 = .ok (.ifCond .ne (25), 3) := by decide +kernel
theorem d_MO_plain_80 : decode (kB k_MO_plain) 80 = .ok (.iload 4, 2) := by decide +kernel
theorem d_MO_plain_82 : decode (kB k_MO_plain) 82 = .ok (.i2d, 1) := by decide +kernel
theorem d_MO_plain_83 : decode (kB k_MO_plain) 83 = .ok (.dload 7, 2) := by decide +kernel
theorem d_MO_plain_85 : decode (kB k_MO_plain) 85 = .ok (.dadd, 1) := by decide +kernel
theorem d_MO_plain_86 : decode (kB k_MO_plain) 86 = .ok (.aload_n 0, 1) := by decide +kernel
theorem d_MO_plain_87 : decode (kB k_MO_plain) 87 = .ok (.getfield 13, 3) := by decide +kernel
theorem d_MO_plain_90 : decode (kB k_MO_plain) 90 = .ok (.iload_n 2, 1) := by decide +kernel
theorem d_MO_plain_91 : decode (kB k_MO_plain) 91 = .ok (.iaload, 1) := by decide +kernel
theorem d_MO_plain_92 : decode (kB k_MO_plain) 92 = .ok (.i2d, 1) := by decide +kernel
theorem d_MO_plain_93 : decode (kB k_MO_plain) 93 = .ok (.aload_n 0, 1) := by decide +kernel
theorem d_MO_plain_94 : decode (kB k_MO_plain) 94 = .ok (.getfield 31, 3) := by decide +kernel
theorem d_MO_plain_97 : decode (kB k_MO_plain) 97 = .ok (.dadd, 1) := by decide +kernel
theorem d_MO_plain_98 : decode (kB k_MO_plain) 98 = .ok (.ddiv, 1) := by decide +kernel
theorem d_MO_plain_99 : decode (kB k_MO_plain) 99 = .ok (.goto (24), 3) := by decide +kernel
theorem d_MO_plain_102 : decode (kB k_MO_plain) 102 = .ok (.dconst 1, 1) := by decide +kernel
theorem d_MO_plain_103 : decode (kB k_MO_plain) 103 = .ok (.aload_n 0, 1) := by decide +kernel
theorem d_MO_plain_104 : decode (kB k_MO_plain) 104 = .ok (.getfield 31, 3) := by decide +kernel
theorem d_MO_plain_107 : decode (kB k_MO_plain) 107 = .ok (.dsub, 1) := by decide +kernel
theorem d_MO_plain_108 : decode (kB k_MO_plain) 108 = .ok (.iload 4, 2) := by decide +kernel
theorem d_MO_plain_110 : decode (kB k_MO_plain) 110 = .ok (.i2d, 1) := by decide +kernel
theorem d_MO_plain_111 : decode (kB k_MO_plain) 111 = .ok (.aload_n 0, 1) := by decide +kernel
theorem d_MO_plain_112 : decode (kB k_MO_plain) 112 = .ok (.getfield 13, 3) := by decide +kernel
theorem d_MO_plain_115 : decode (kB k_MO_plain) 115 = .ok (.iload_n 2, 1) := by decide +kernel
theorem d_MO_plain_116 : decode (kB k_MO_plain) 116 = .ok (.iaload, 1) := by decide +kernel
theorem d_MO_plain_117 : decode (kB k_MO_plain) 117 = .ok (.i2d, 1) := by decide +kernel
theorem d_MO_plain_118 : decode (kB k_MO_plain) 118 = .ok (.ddiv, 1) := by decide +kernel
theorem d_MO_plain_119 : decode (kB k_MO_plain) 119 = .ok (.dmul, 1) := by decide +kernel
theorem d_MO_plain_120 : decode (kB k_MO_plain) 120 = .ok (.dload 7, 2) := by decide +kernel
theorem d_MO_plain_122 : decode (kB k_MO_plain) 122 = .ok (.dadd, 1) := by decide +kernel
theorem d_MO_plain_123 : decode (kB k_MO_plain) 123 = .ok (.dreturn, 1) := by decide +kernel
theorem d_MO_joined_0 : decode (kB k_MO_joined) 0 = .ok (.aload_n 0, 1) := by decide +kernel
theorem d_MO_joined_1 : decode (kB k_MO_joined) 1 = .ok (.getfield 19, 3) := by decide +kernel
theorem d_MO_joined_4 : decode (kB k_MO_joined) 4 = .ok (.iload_n 1, 1) := by decide +kernel
theorem d_MO_joined_5 : decode (kB k_MO_joined) 5 = .ok (.iaload, 1) := by decide +kernel
theorem d_MO_joined_6 : decode (kB k_MO_joined) 6 = .ok (.istore_n 3, 1) := by decide +kernel
theorem d_MO_joined_7 : decode (kB k_MO_joined) 7 = .ok (.dconst 0, 1) := by decide +kernel
theorem d_MO_joined_8 : decode (kB k_MO_joined) 8 = .ok (.dstore 4, 2) := by decide +kernel
theorem d_MO_joined_10 : decode (kB k_MO_joined) 10 = .ok (.dconst 0, 1) := by decide +kernel
theorem d_MO_joined_11 : decode (kB k_MO_joined) 11 = .ok (.dstore 6, 2) := by decide +kernel
theorem d_MO_joined_13 : decode (kB k_MO_joined) 13 = .ok (.dconst 1, 1) := by decide +kernel
theorem d_MO_joined_14 : decode (kB k_MO_joined) 14 = .ok (.dstore 8, 2) := by decide +kernel
theorem d_MO_joined_16 : decode (kB k_MO_joined) 16 = .ok (.aload_n 0, 1) := by decide +kernel
theorem d_MO_joined_17 : decode (kB k_MO_joined) 17 = .ok (.getfield 35, 3) := by decide +kernel
theorem d_MO_joined_20 : decode (kB k_MO_joined) 20 = .ok (.aload_n 0, 1) := by decide +kernel
theorem d_MO_joined_21 : decode (kB k_MO_joined) 21 = .ok (.getfield 121, 3) := by decide +kernel
theorem d_MO_joined_24 : decode (kB k_MO_joined) 24 = .ok (.iconst 1, 1) := by decide +kernel
theorem d_MO_joined_25 : decode (kB k_MO_joined) 25 = .ok (.isub, 1) := by decide +kernel
theorem d_MO_joined_26 : decode (kB k_MO_joined) 26 = .ok (.daload, 1) := by decide +kernel
theorem d_MO_joined_27 : decode (kB k_MO_joined) 27 = .ok (.dstore 10, 2) := by decide +kernel
theorem d_MO_joined_29 : decode (kB k_MO_joined) 29 = .ok (.iconst 1, 1) := by decide +kernel
theorem d_MO_joined_30 : decode (kB k_MO_joined) 30 = .ok (.istore 12, 2) := by decide +kernel
theorem d_MO_joined_32 : decode (kB k_MO_joined) 32 = .ok (.iload 12, 2) := by decide +kernel
theorem d_MO_joined_34 : decode (kB k_MO_joined) 34 = .ok (.iload_n 2, 1) := by decide +kernel
theorem d_MO_joined_35 : decode (kB k_MO_joined) 35 = .ok (.if_icmp .gt (100), 3) := by decide +kernel
theorem d_MO_joined_38 : decode (kB k_MO_joined) 38 = .ok (.aload_n 0, 1) := by decide +kernel
theorem d_MO_joined_39 : decode (kB k_MO_joined) 39 = .ok (.getfield 35, 3) := by decide +kernel
theorem d_MO_joined_42 : decode (kB k_MO_joined) 42 = .ok (.aload_n 0, 1) := by decide +kernel
theorem d_MO_joined_43 : decode (kB k_MO_joined) 43 = .ok (.getfield 121, 3) := by decide +kernel
theorem d_MO_joined_46 : decode (kB k_MO_joined) 46 = .ok (.iload 12, 2) := by decide +kernel
theorem d_MO_joined_48 : decode (kB k_MO_joined) 48 = .ok (.isub, 1) := by decide +kernel
theorem d_MO_joined_49 : decode (kB k_MO_joined) 49 = .ok (.daload, 1) := by decide +kernel
theorem d_MO_joined_50 : decode (kB k_MO_joined) 50 = .ok (.dstore 13, 2) := by decide +kernel
theorem d_MO_joined_52 : decode (kB k_MO_joined) 52 = .ok (.aload_n 0, 1) := by decide +kernel
theorem d_MO_joined_53 : decode (kB k_MO_joined) 53 = .ok (.getfield 38, 3) := by decide +kernel
theorem d_MO_joined_56 : decode (kB k_MO_joined) 56 = .ok (.aload_n 0, 1) := by decide +kernel
theorem d_MO_joined_57 : decode (kB k_MO_joined) 57 = .ok (.getfield 121, 3) := by decide +kernel
theorem d_MO_joined_60 : decode (kB k_MO_joined) 60 = .ok (.iload 12, 2) := by decide +kernel
theorem d_MO_joined_62 : decode (kB k_MO_joined) 62 = .ok (.isub, 1) := by decide +kernel
theorem d_MO_joined_63 : decode (kB k_MO_joined) 63 = .ok (.daload, 1) := by decide +kernel
theorem d_MO_joined_64 : decode (kB k_MO_joined) 64 = .ok (.dstore 15, 2) := by decide +kernel
theorem d_MO_joined_66 : decode (kB k_MO_joined) 66 = .ok (.dload 8, 2) := by decide +kernel
theorem d_MO_joined_68 : decode (kB k_MO_joined) 68 = .ok (.iload_n 3, 1) := by decide +kernel
theorem d_MO_joined_69 : decode (kB k_MO_joined) 69 = .ok (.bipush 6, 2) := by decide +kernel
theorem d_MO_joined_71 : decode (kB k_MO_joined) 71 = .ok (.if_icmp .ne (10), 3) := by decide +kernel
theorem d_MO_joined_74 : decode (kB k_MO_joined) 74 = .ok (.dconst 1, 1) := by decide +kernel
theorem d_MO_joined_75 : decode (kB k_MO_joined) 75 = .ok (.dload 13, 2) := by decide +kernel
theorem d_MO_joined_77 : decode (kB k_MO_joined) 77 = .ok (.dsub, 1) := by decide +kernel
theorem d_MO_joined_78 : decode (kB k_MO_joined) 78 = .ok (.goto (5), 3) := by decide +kernel
theorem d_MO_joined_81 : decode (kB k_MO_joined) 81 = .ok (.dload 13, 2) := by decide +kernel
theorem d_MO_joined_83 : decode (kB k_MO_joined) 83 = .ok (.dmul, 1) := by decide +kernel
theorem d_MO_joined_84 : decode (kB k_MO_joined) 84 = .ok (.dstore 8, 2) := by decide +kernel
theorem d_MO_joined_86 : decode (kB k_MO_joined) 86 = .ok (.dload 4, 2) := by decide +kernel
theorem d_MO_joined_88 : decode (kB k_MO_joined) 88 = .ok (.dload 15, 2) := by decide +kernel
theorem d_MO_joined_90 : decode (kB k_MO_joined) 90 = .ok (.iload_n 3, 1) := by decide +kernel
theorem d_MO_joined_91 : decode (kB k_MO_joined) 91 = .ok (.bipush 8, 2) := by decide +kernel
theorem d_MO_joined_93 : decode (kB k_MO_joined) 93 = .ok (.if_icmp .ne (11), 3) := by decide +kernel
theorem d_MO_joined_96 : decode (kB k_MO_joined) 96 = .ok (.dload 13, 2) := by decide +kernel
theorem d_MO_joined_98 : decode (kB k_MO_joined) 98 = .ok (.invokestatic 124, 3) := by decide +kernel
theorem d_MO_joined_101 : decode (kB k_MO_joined) 101 = .ok (.goto (5), 3) := by decide +kernel
theorem d_MO_joined_104 : decode (kB k_MO_joined) 104 = .ok (.dload 13, 2) := by decide +kernel
theorem d_MO_joined_106 : decode (kB k_MO_joined) 106 = .ok (.dmul, 1) := by decide +kernel
theorem d_MO_joined_107 : decode (kB k_MO_joined) 107 = .ok (.dadd, 1) := by decide +kernel
theorem d_MO_joined_108 : decode (kB k_MO_joined) 108 = .ok (.dstore 4, 2) := by decide +kernel
theorem d_MO_joined_110 : decode (kB k_MO_joined) 110 = .ok (.dload 6, 2) := by decide +kernel
theorem d_MO_joined_112 : decode (kB k_MO_joined) 112 = .ok (.dload 15, 2) := by decide +kernel
theorem d_MO_joined_114 : decode (kB k_MO_joined) 114 = .ok (.dadd, 1) := by decide +kernel
theorem d_MO_joined_115 : decode (kB k_MO_joined) 115 = .ok (.dstore 6, 2) := by decide +kernel
theorem d_MO_joined_117 : decode (kB k_MO_joined) 117 = .ok (.dload 13, 2) := by decide +kernel
theorem d_MO_joined_119 : decode (kB k_MO_joined) 119 = .ok (.dload 10, 2) := by decide +kernel
theorem d_MO_joined_121 : decode (kB k_MO_joined) 121 = .ok (.dcmp .l, 1) := by decide +kernel
theorem d_MO_joined_122 : decode (kB k_MO_joined) 122 = .ok (.ifCond .le (7), 3) := by decide +kernel
theorem d_MO_joined_125 : decode (kB k_MO_joined) 125 = .ok (.dload 13, 2) := by decide +kernel
theorem d_MO_joined_127 : decode (kB k_MO_joined) 127 = .ok (.dstore 10, 2) := by decide +kernel
theorem d_MO_joined_129 : decode (kB k_MO_joined) 129 = .ok (.iinc 12 1, 3) := by decide +kernel
theorem d_MO_joined_132 : decode (kB k_MO_joined) 132 = .ok (.goto (-100), 3) := by decide +kernel
theorem d_MO_joined_135 : decode (kB k_MO_joined) 135 = .ok (.iload_n 3, 1) := by decide +kernel
theorem d_MO_joined_136 : decode (kB k_MO_joined) 136 = .ok (.tableswitch (80) (5) (10) #[40, 43, 48, 51, 60, 66], 40) := by decide +kernel
theorem d_MO_joined_176 : decode (kB k_MO_joined) 176 = .ok (.dload 8, 2) := by decide +kernel
theorem d_MO_joined_178 : decode (kB k_MO_joined) 178 = .ok (.dreturn, 1) := by decide +kernel
theorem d_MO_joined_179 : decode (kB k_MO_joined) 179 = .ok (.dconst 1, 1) := by decide +kernel
theorem d_MO_joined_180 : decode (kB k_MO_joined) 180 = .ok (.dload 8, 2) := by decide +kernel
theorem d_MO_joined_182 : decode (kB k_MO_joined) 182 = .ok (.dsub, 1) := by decide +kernel
theorem d_MO_joined_183 : decode (kB k_MO_joined) 183 = .ok (.dreturn, 1) := by decide +kernel
theorem d_MO_joined_184 : decode (kB k_MO_joined) 184 = .ok (.dload 10, 2) := by decide +kernel
theorem d_MO_joined_186 : decode (kB k_MO_joined) 186 = .ok (.dreturn, 1) := by decide +kernel
theorem d_MO_joined_187 : decode (kB k_MO_joined) 187 = .ok (.dload 4, 2) := by decide +kernel
theorem d_MO_joined_189 : decode (kB k_MO_joined) 189 = .ok (.dload 6, 2) := by decide +kernel
theorem d_MO_joined_191 : decode (kB k_MO_joined) 191 = .ok (.ddiv, 1) := by decide +kernel
theorem d_MO_joined_192 : decode (kB k_MO_joined) 192 = .ok (.invokestatic 128, 3) := by decide +kernel
theorem d_MO_joined_195 : decode (kB k_MO_joined) 195 = .ok (.dreturn, 1) := by decide +kernel
theorem d_MO_joined_196 : decode (kB k_MO_joined) 196 = .ok (.dload 4, 2) := by decide +kernel
theorem d_MO_joined_198 : decode (kB k_MO_joined) 198 = .ok (.dload 6, 2) := by decide +kernel
theorem d_MO_joined_200 : decode (kB k_MO_joined) 200 = .ok (.ddiv, 1) := by decide +kernel
theorem d_MO_joined_201 : decode (kB k_MO_joined) 201 = .ok (.dreturn, 1) := by decide +kernel
theorem d_MO_joined_202 : decode (kB k_MO_joined) 202 = .ok (.dconst 1, 1) := by decide +kernel
theorem d_MO_joined_203 : decode (kB k_MO_joined) 203 = .ok (.aload_n 0, 1) := by decide +kernel
theorem d_MO_joined_204 : decode (kB k_MO_joined) 204 = .ok (.getfield 35, 3) := by decide +kernel
theorem d_MO_joined_207 : decode (kB k_MO_joined) 207 = .ok (.aload_n 0, 1) := by decide +kernel
theorem d_MO_joined_208 : decode (kB k_MO_joined) 208 = .ok (.getfield 121, 3) := by decide +kernel
theorem d_MO_joined_211 : decode (kB k_MO_joined) 211 = .ok (.iconst 1, 1) := by decide +kernel
theorem d_MO_joined_212 : decode (kB k_MO_joined) 212 = .ok (.isub, 1) := by decide +kernel
theorem d_MO_joined_213 : decode (kB k_MO_joined) 213 = .ok (.daload, 1) := by decide +kernel
theorem d_MO_joined_214 : decode (kB k_MO_joined) 214 = .ok (.dsub, 1) := by decide +kernel
theorem d_MO_joined_215 : decode (kB k_MO_joined) 215 = .ok (.dreturn, 1) := by decide +kernel
theorem d_MO_joined_216 : decode (kB k_MO_joined) 216 = .ok (.aload_n 0, 1) := by decide +kernel
theorem d_MO_joined_217 : decode (kB k_MO_joined) 217 = .ok (.getfield 35, 3) := by decide +kernel
theorem d_MO_joined_220 : decode (kB k_MO_joined) 220 = .ok (.aload_n 0, 1) := by decide +kernel
theorem d_MO_joined_221 : decode (kB k_MO_joined) 221 = .ok (.getfield 121, 3) := by decide +kernel
theorem d_MO_joined_224 : decode (kB k_MO_joined) 224 = .ok (.iconst 2, 1) := by decide +kernel
theorem d_MO_joined_225 : decode (kB k_MO_joined) 225 = .ok (.isub, 1) := by decide +kernel
theorem d_MO_joined_226 : decode (kB k_MO_joined) 226 = .ok (.daload, 1) := by decide +kernel
theorem d_MO_joined_227 : decode (kB k_MO_joined) 227 = .ok (.dreturn, 1) := by decide +kernel
theorem d_MO_believed_0 : decode (kB k_MO_believed) 0 = .ok (.aload_n 0, 1) := by decide +kernel
theorem d_MO_believed_1 : decode (kB k_MO_believed) 1 = .ok (.iconst 0, 1) := by decide +kernel
theorem d_MO_believed_2 : decode (kB k_MO_believed) 2 = .ok (.putfield 121, 3) := by decide +kernel
theorem d_MO_believed_5 : decode (kB k_MO_believed) 5 = .ok (.aload_n 0, 1) := by decide +kernel
theorem d_MO_believed_6 : decode (kB k_MO_believed) 6 = .ok (.iconst 0, 1) := by decide +kernel
theorem d_MO_believed_7 : decode (kB k_MO_believed) 7 = .ok (.putfield 131, 3) := by decide +kernel
theorem d_MO_believed_10 : decode (kB k_MO_believed) 10 = .ok (.aload_n 0, 1) := by decide +kernel
theorem d_MO_believed_11 : decode (kB k_MO_believed) 11 = .ok (.getfield 68, 3) := by decide +kernel
theorem d_MO_believed_14 : decode (kB k_MO_believed) 14 = .ok (.iconst 1, 1) := by decide +kernel
theorem d_MO_believed_15 : decode (kB k_MO_believed) 15 = .ok (.isub, 1) := by decide +kernel
theorem d_MO_believed_16 : decode (kB k_MO_believed) 16 = .ok (.istore_n 2, 1) := by decide +kernel
theorem d_MO_believed_17 : decode (kB k_MO_believed) 17 = .ok (.iload_n 2, 1) := by decide +kernel
theorem d_MO_believed_18 : decode (kB k_MO_believed) 18 = .ok (.ifCond .lt (191), 3) := by decide +kernel
theorem d_MO_believed_21 : decode (kB k_MO_believed) 21 = .ok (.aload_n 0, 1) := by decide +kernel
theorem d_MO_believed_22 : decode (kB k_MO_believed) 22 = .ok (.iload_n 2, 1) := by decide +kernel
theorem d_MO_believed_23 : decode (kB k_MO_believed) 23 = .ok (.invokevirtual 71, 3) := by decide +kernel
theorem d_MO_believed_26 : decode (kB k_MO_believed) 26 = .ok (.istore_n 3, 1) := by decide +kernel
theorem d_MO_believed_27 : decode (kB k_MO_believed) 27 = .ok (.aload_n 0, 1) := by decide +kernel
theorem d_MO_believed_28 : decode (kB k_MO_believed) 28 = .ok (.getfield 19, 3) := by decide +kernel
theorem d_MO_believed_31 : decode (kB k_MO_believed) 31 = .ok (.iload_n 2, 1) := by decide +kernel
theorem d_MO_believed_32 : decode (kB k_MO_believed) 32 = .ok (.iaload, 1) := by decide +kernel
theorem d_MO_believed_33 : decode (kB k_MO_believed) 33 = .ok (.istore 4, 2) := by decide +kernel
theorem d_MO_believed_35 : decode (kB k_MO_believed) 35 = .ok (.iload_n 3, 1) := by decide +kernel
theorem d_MO_believed_36 : decode (kB k_MO_believed) 36 = .ok (.ifCond .le (17), 3) := by decide +kernel
theorem d_MO_believed_39 : decode (kB k_MO_believed) 39 = .ok (.aload_n 0, 1) := by decide +kernel
theorem d_MO_believed_40 : decode (kB k_MO_believed) 40 = .ok (.getfield 41, 3) := by decide +kernel
theorem d_MO_believed_43 : decode (kB k_MO_believed) 43 = .ok (.aload_n 0, 1) := by decide +kernel
theorem d_MO_believed_44 : decode (kB k_MO_believed) 44 = .ok (.getfield 121, 3) := by decide +kernel
theorem d_MO_believed_47 : decode (kB k_MO_believed) 47 = .ok (.iconst 1, 1) := by decide +kernel
theorem d_MO_believed_48 : decode (kB k_MO_believed) 48 = .ok (.isub, 1) := by decide +kernel
theorem d_MO_believed_49 : decode (kB k_MO_believed) 49 = .ok (.iaload, 1) := by decide +kernel
theorem d_MO_believed_50 : decode (kB k_MO_believed) 50 = .ok (.goto (4), 3) := by decide +kernel
theorem d_MO_believed_53 : decode (kB k_MO_believed) 53 = .ok (.iconst 0, 1) := by decide +kernel
theorem d_MO_believed_54 : decode (kB k_MO_believed) 54 = .ok (.istore 5, 2) := by decide +kernel
theorem d_MO_believed_56 : decode (kB k_MO_believed) 56 = .ok (.iload 4, 2) := by decide +kernel
theorem d_MO_believed_58 : decode (kB k_MO_believed) 58 = .ok (.bipush 11, 2) := by decide +kernel
theorem d_MO_believed_60 : decode (kB k_MO_believed) 60 = .ok (.if_icmp .ne (64), 3) := by decide +kernel
theorem d_MO_believed_63 : decode (kB k_MO_believed) 63 = .ok (.aload_n 0, 1) := by decide +kernel
theorem d_MO_believed_64 : decode (kB k_MO_believed) 64 = .ok (.dup, 1) := by decide +kernel
theorem d_MO_believed_65 : decode (kB k_MO_believed) 65 = .ok (.getfield 131, 3) := by decide +kernel
theorem d_MO_believed_68 : decode (kB k_MO_believed) 68 = .ok (.aload_n 0, 1) := by decide +kernel
theorem d_MO_believed_69 : decode (kB k_MO_believed) 69 = .ok (.getfield 19, 3) := by decide +kernel
theorem d_MO_believed_72 : decode (kB k_MO_believed) 72 = .ok (.iload 5, 2) := by decide +kernel
theorem d_MO_believed_74 : decode (kB k_MO_believed) 74 = .ok (.iaload, 1) := by decide +kernel
theorem d_MO_believed_75 : decode (kB k_MO_believed) 75 = .ok (.iconst 4, 1) := by decide +kernel
theorem d_MO_believed_76 : decode (kB k_MO_believed) 76 = .ok (.if_icmp .gt (21), 3) := by decide +kernel
theorem d_MO_believed_79 : decode (kB k_MO_believed) 79 = .ok (.aload_n 0, 1) := by decide +kernel
theorem d_MO_believed_80 : decode (kB k_MO_believed) 80 = .ok (.iload 5, 2) := by decide +kernel
theorem d_MO_believed_82 : decode (kB k_MO_believed) 82 = .ok (.iload_n 1, 1) := by decide +kernel
theorem d_MO_believed_83 : decode (kB k_MO_believed) 83 = .ok (.invokevirtual 110, 3) := by decide +kernel
theorem d_MO_believed_86 : decode (kB k_MO_believed) 86 = .ok (.ifCond .ne (7), 3) := by decide +kernel
theorem d_MO_believed_89 : decode (kB k_MO_believed) 89 = .ok (.iconst 1, 1) := by decide +kernel
theorem d_MO_believed_90 : decode (kB k_MO_believed) 90 = .ok (.goto (30), 3) := by decide +kernel
theorem d_MO_believed_93 : decode (kB k_MO_believed) 93 = .ok (.iconst 0, 1) := by decide +kernel
theorem d_MO_believed_94 : decode (kB k_MO_believed) 94 = .ok (.goto (26), 3) := by decide +kernel
theorem d_MO_believed_97 : decode (kB k_MO_believed) 97 = .ok (.aload_n 0, 1) := by decide +kernel
theorem d_MO_believed_98 : decode (kB k_MO_believed) 98 = .ok (.getfield 35, 3) := by decide +kernel
theorem d_MO_believed_101 : decode (kB k_MO_believed) 101 = .ok (.aload_n 0, 1) := by decide +kernel
theorem d_MO_believed_102 : decode (kB k_MO_believed) 102 = .ok (.getfield 121, 3) := by decide +kernel
theorem d_MO_believed_105 : decode (kB k_MO_believed) 105 = .ok (.iconst 1, 1) := by decide +kernel
theorem d_MO_believed_106 : decode (kB k_MO_believed) 106 = .ok (.isub, 1) := by decide +kernel
theorem d_MO_believed_107 : decode (kB k_MO_believed) 107 = .ok (.daload, 1) := by decide +kernel
theorem d_MO_believed_108 : decode (kB k_MO_believed) 108 = .ok (.ldc2_w 116, 3) := by decide +kernel
theorem d_MO_believed_111 : decode (kB k_MO_believed) 111 = .ok (.dcmp .l, 1) := by decide +kernel
theorem d_MO_believed_112 : decode (kB k_MO_believed) 112 = .ok (.ifCond .gt (7), 3) := by decide +kernel
theorem d_MO_believed_115 : decode (kB k_MO_believed) 115 = .ok (.iconst 1, 1) := by decide +kernel
theorem d_MO_believed_116 : decode (kB k_MO_believed) 116 = .ok (.goto (4), 3) := by decide +kernel
theorem d_MO_believed_119 : decode (kB k_MO_believed) 119 = .ok (.iconst 0, 1) := by decide +kernel
theorem d_MO_believed_120 : decode (kB k_MO_believed) 120 = .ok (.ior, 1) := by decide +kernel
theorem d_MO_believed_121 : decode (kB k_MO_believed) 121 = .ok (.putfield 131, 3) := by decide +kernel
theorem d_MO_believed_124 : decode (kB k_MO_believed) 124 = .ok (.iload 4, 2) := by decide +kernel
theorem d_MO_believed_126 : decode (kB k_MO_believed) 126 = .ok (.iconst 4, 1) := by decide +kernel
theorem d_MO_believed_127 : decode (kB k_MO_believed) 127 = .ok (.if_icmp .gt (12), 3) := by decide +kernel
theorem d_MO_believed_130 : decode (kB k_MO_believed) 130 = .ok (.aload_n 0, 1) := by decide +kernel
theorem d_MO_believed_131 : decode (kB k_MO_believed) 131 = .ok (.iload_n 2, 1) := by decide +kernel
theorem d_MO_believed_132 : decode (kB k_MO_believed) 132 = .ok (.iload_n 1, 1) := by decide +kernel
theorem d_MO_believed_133 : decode (kB k_MO_believed) 133 = .ok (.invokevirtual 135, 3) := by decide +kernel
theorem d_MO_believed_136 : decode (kB k_MO_believed) 136 = .ok (.goto (9), 3) := by decide +kernel
theorem d_MO_believed_139 : decode (kB k_MO_believed) 139 = .ok (.aload_n 0, 1) := by decide +kernel
theorem d_MO_believed_140 : decode (kB k_MO_believed) 140 = .ok (.iload_n 2, 1) := by decide +kernel
theorem d_MO_believed_141 : decode (kB k_MO_believed) 141 = .ok (.iload_n 3, 1) := by decide +kernel
theorem d_MO_believed_142 : decode (kB k_MO_believed) 142 = .ok (.invokevirtual 139, 3) := by decide +kernel
theorem d_MO_believed_145 : decode (kB k_MO_believed) 145 = .ok (.dstore 6, 2) := by decide +kernel
theorem d_MO_believed_147 : decode (kB k_MO_believed) 147 = .ok (.aload_n 0, 1) := by decide +kernel
theorem d_MO_believed_148 : decode (kB k_MO_believed) 148 = .ok (.dup, 1) := by decide +kernel
theorem d_MO_believed_149 : decode (kB k_MO_believed) 149 = .ok (.getfield 121, 3) := by decide +kernel
theorem d_MO_believed_152 : decode (kB k_MO_believed) 152 = .ok (.iload_n 3, 1) := by decide +kernel
theorem d_MO_believed_153 : decode (kB k_MO_believed) 153 = .ok (.isub, 1) := by decide +kernel
theorem d_MO_believed_154 : decode (kB k_MO_believed) 154 = .ok (.putfield 121, 3) := by decide +kernel
theorem d_MO_believed_157 : decode (kB k_MO_believed) 157 = .ok (.aload_n 0, 1) := by decide +kernel
theorem d_MO_believed_158 : decode (kB k_MO_believed) 158 = .ok (.getfield 35, 3) := by decide +kernel
theorem d_MO_believed_161 : decode (kB k_MO_believed) 161 = .ok (.aload_n 0, 1) := by decide +kernel
theorem d_MO_believed_162 : decode (kB k_MO_believed) 162 = .ok (.getfield 121, 3) := by decide +kernel
theorem d_MO_believed_165 : decode (kB k_MO_believed) 165 = .ok (.dload 6, 2) := by decide +kernel
theorem d_MO_believed_167 : decode (kB k_MO_believed) 167 = .ok (.dastore, 1) := by decide +kernel
theorem d_MO_believed_168 : decode (kB k_MO_believed) 168 = .ok (.aload_n 0, 1) := by decide +kernel
theorem d_MO_believed_169 : decode (kB k_MO_believed) 169 = .ok (.getfield 38, 3) := by decide +kernel
theorem d_MO_believed_172 : decode (kB k_MO_believed) 172 = .ok (.aload_n 0, 1) := by decide +kernel
theorem d_MO_believed_173 : decode (kB k_MO_believed) 173 = .ok (.getfield 121, 3) := by decide +kernel
theorem d_MO_believed_176 : decode (kB k_MO_believed) 176 = .ok (.aload_n 0, 1) := by decide +kernel
theorem d_MO_believed_177 : decode (kB k_MO_believed) 177 = .ok (.getfield 25, 3) := by decide +kernel
theorem d_MO_believed_180 : decode (kB k_MO_believed) 180 = .ok (.iload_n 2, 1) := by decide +kernel
theorem d_MO_believed_181 : decode (kB k_MO_believed) 181 = .ok (.daload, 1) := by decide +kernel
theorem d_MO_believed_182 : decode (kB k_MO_believed) 182 = .ok (.dastore, 1) := by decide +kernel
theorem d_MO_believed_183 : decode (kB k_MO_believed) 183 = .ok (.aload_n 0, 1) := by decide +kernel
theorem d_MO_believed_184 : decode (kB k_MO_believed) 184 = .ok (.getfield 41, 3) := by decide +kernel
theorem d_MO_believed_187 : decode (kB k_MO_believed) 187 = .ok (.aload_n 0, 1) := by decide +kernel
theorem d_MO_believed_188 : decode (kB k_MO_believed) 188 = .ok (.getfield 121, 3) := by decide +kernel
theorem d_MO_believed_191 : decode (kB k_MO_believed) 191 = .ok (.iload_n 2, 1) := by decide +kernel
theorem d_MO_believed_192 : decode (kB k_MO_believed) 192 = .ok (.iastore, 1) := by decide +kernel
theorem d_MO_believed_193 : decode (kB k_MO_believed) 193 = .ok (.aload_n 0, 1) := by decide +kernel
theorem d_MO_believed_194 : decode (kB k_MO_believed) 194 = .ok (.dup, 1) := by decide +kernel
theorem d_MO_believed_195 : decode (kB k_MO_believed) 195 = .ok (.getfield 121, 3) := by decide +kernel
theorem d_MO_believed_198 : decode (kB k_MO_believed) 198 = .ok (.iconst 1, 1) := by decide +kernel
theorem d_MO_believed_199 : decode (kB k_MO_believed) 199 = .ok (.iadd, 1) := by decide +kernel
theorem d_MO_believed_200 : decode (kB k_MO_believed) 200 = .ok (.putfield 121, 3) := by decide +kernel
theorem d_MO_believed_203 : decode (kB k_MO_believed) 203 = .ok (.iinc 2 (-1), 3) := by decide +kernel
theorem d_MO_believed_206 : decode (kB k_MO_believed) 206 = .ok (.goto (-189), 3) := by decide +kernel
theorem d_MO_believed_209 : decode (kB k_MO_believed) 209 = .ok (.aload_n 0, 1) := by decide +kernel
theorem d_MO_believed_210 : decode (kB k_MO_believed) 210 = .ok (.getfield 35, 3) := by decide +kernel
theorem d_MO_believed_213 : decode (kB k_MO_believed) 213 = .ok (.iconst 0, 1) := by decide +kernel
theorem d_MO_believed_214 : decode (kB k_MO_believed) 214 = .ok (.daload, 1) := by decide +kernel
theorem d_MO_believed_215 : decode (kB k_MO_believed) 215 = .ok (.dreturn, 1) := by decide +kernel
theorem d_MO_belief_0 : decode (kB k_MO_belief) 0 = .ok (.aload_n 0, 1) := by decide +kernel
theorem d_MO_belief_1 : decode (kB k_MO_belief) 1 = .ok (.iload_n 1, 1) := by decide +kernel
theorem d_MO_belief_2 : decode (kB k_MO_belief) 2 = .ok (.iconst 0, 1) := by decide +kernel
theorem d_MO_belief_3 : decode (kB k_MO_belief) 3 = .ok (.aload_n 0, 1) := by decide +kernel
theorem d_MO_belief_4 : decode (kB k_MO_belief) 4 = .ok (.getfield 62, 3) := by decide +kernel
theorem d_MO_belief_7 : decode (kB k_MO_belief) 7 = .ok (.iconst 1, 1) := by decide +kernel
theorem d_MO_belief_8 : decode (kB k_MO_belief) 8 = .ok (.isub, 1) := by decide +kernel
theorem d_MO_belief_9 : decode (kB k_MO_belief) 9 = .ok (.invokestatic 54, 3) := by decide +kernel
theorem d_MO_belief_12 : decode (kB k_MO_belief) 12 = .ok (.ifCond .eq (12), 3) := by decide +kernel
theorem d_MO_belief_15 : decode (kB k_MO_belief) 15 = .ok (.aload_n 0, 1) := by decide +kernel
theorem d_MO_belief_16 : decode (kB k_MO_belief) 16 = .ok (.getfield 13, 3) := by decide +kernel
theorem d_MO_belief_19 : decode (kB k_MO_belief) 19 = .ok (.iload_n 1, 1) := by decide +kernel
theorem d_MO_belief_20 : decode (kB k_MO_belief) 20 = .ok (.iaload, 1) := by decide +kernel
theorem d_MO_belief_21 : decode (kB k_MO_belief) 21 = .ok (.ifCond .ne (7), 3) := by decide +kernel
theorem d_MO_belief_24 : decode (kB k_MO_belief) 24 = .ok (.iconst 1, 1) := by decide +kernel
theorem d_MO_belief_25 : decode (kB k_MO_belief) 25 = .ok (.goto (15), 3) := by decide +kernel
theorem d_MO_belief_28 : decode (kB k_MO_belief) 28 = .ok (.aload_n 0, 1) := by decide +kernel
theorem d_MO_belief_29 : decode (kB k_MO_belief) 29 = .ok (.invokevirtual 84, 3) := by decide +kernel
theorem d_MO_belief_32 : decode (kB k_MO_belief) 32 = .ok (.ifCond .le (7), 3) := by decide +kernel
theorem d_MO_belief_35 : decode (kB k_MO_belief) 35 = .ok (.iconst 2, 1) := by decide +kernel
theorem d_MO_belief_36 : decode (kB k_MO_belief) 36 = .ok (.goto (4), 3) := by decide +kernel
theorem d_MO_belief_39 : decode (kB k_MO_belief) 39 = .ok (.iconst 0, 1) := by decide +kernel
theorem d_MO_belief_40 : decode (kB k_MO_belief) 40 = .ok (.putfield 50, 3) := by decide +kernel
theorem d_MO_belief_43 : decode (kB k_MO_belief) 43 = .ok (.aload_n 0, 1) := by decide +kernel
theorem d_MO_belief_44 : decode (kB k_MO_belief) 44 = .ok (.getfield 50, 3) := by decide +kernel
theorem d_MO_belief_47 : decode (kB k_MO_belief) 47 = .ok (.ifCond .le (5), 3) := by decide +kernel
theorem d_MO_belief_50 : decode (kB k_MO_belief) 50 = .ok (.dconst 0, 1) := by decide +kernel
theorem d_MO_belief_51 : decode (kB k_MO_belief) 51 = .ok (.dreturn, 1) := by decide +kernel
theorem d_MO_belief_52 : decode (kB k_MO_belief) 52 = .ok (.aload_n 0, 1) := by decide +kernel
theorem d_MO_belief_53 : decode (kB k_MO_belief) 53 = .ok (.iload_n 1, 1) := by decide +kernel
theorem d_MO_belief_54 : decode (kB k_MO_belief) 54 = .ok (.invokevirtual 142, 3) := by decide +kernel
theorem d_MO_belief_57 : decode (kB k_MO_belief) 57 = .ok (.dstore_n 2, 1) := by decide +kernel
theorem d_MO_belief_58 : decode (kB k_MO_belief) 58 = .ok (.aload_n 0, 1) := by decide +kernel
theorem d_MO_belief_59 : decode (kB k_MO_belief) 59 = .ok (.getfield 131, 3) := by decide +kernel
theorem d_MO_belief_62 : decode (kB k_MO_belief) 62 = .ok (.ifCond .eq (8), 3) := by decide +kernel
theorem d_MO_belief_65 : decode (kB k_MO_belief) 65 = .ok (.aload_n 0, 1) := by decide +kernel
theorem d_MO_belief_66 : decode (kB k_MO_belief) 66 = .ok (.iconst 3, 1) := by decide +kernel
theorem d_MO_belief_67 : decode (kB k_MO_belief) 67 = .ok (.putfield 50, 3) := by decide +kernel
theorem d_MO_belief_70 : decode (kB k_MO_belief) 70 = .ok (.aload_n 0, 1) := by decide +kernel
theorem d_MO_belief_71 : decode (kB k_MO_belief) 71 = .ok (.getfield 131, 3) := by decide +kernel
theorem d_MO_belief_74 : decode (kB k_MO_belief) 74 = .ok (.ifCond .eq (7), 3) := by decide +kernel
theorem d_MO_belief_77 : decode (kB k_MO_belief) 77 = .ok (.dconst 0, 1) := by decide +kernel
theorem d_MO_belief_78 : decode (kB k_MO_belief) 78 = .ok (.goto (4), 3) := by decide +kernel
theorem d_MO_belief_81 : decode (kB k_MO_belief) 81 = .ok (.dload_n 2, 1) := by decide +kernel
theorem d_MO_belief_82 : decode (kB k_MO_belief) 82 = .ok (.dreturn, 1) := by decide +kernel
theorem d_MO_hits_0 : decode (kB k_MO_hits) 0 = .ok (.iload_n 1, 1) := by decide +kernel
theorem d_MO_hits_1 : decode (kB k_MO_hits) 1 = .ok (.iconst 0, 1) := by decide +kernel
theorem d_MO_hits_2 : decode (kB k_MO_hits) 2 = .ok (.aload_n 0, 1) := by decide +kernel
theorem d_MO_hits_3 : decode (kB k_MO_hits) 3 = .ok (.getfield 68, 3) := by decide +kernel
theorem d_MO_hits_6 : decode (kB k_MO_hits) 6 = .ok (.iconst 1, 1) := by decide +kernel
theorem d_MO_hits_7 : decode (kB k_MO_hits) 7 = .ok (.isub, 1) := by decide +kernel
theorem d_MO_hits_8 : decode (kB k_MO_hits) 8 = .ok (.invokestatic 54, 3) := by decide +kernel
theorem d_MO_hits_11 : decode (kB k_MO_hits) 11 = .ok (.ifCond .eq (17), 3) := by decide +kernel
theorem d_MO_hits_14 : decode (kB k_MO_hits) 14 = .ok (.iload_n 2, 1) := by decide +kernel
theorem d_MO_hits_15 : decode (kB k_MO_hits) 15 = .ok (.iconst 0, 1) := by decide +kernel
theorem d_MO_hits_16 : decode (kB k_MO_hits) 16 = .ok (.aload_n 0, 1) := by decide +kernel
theorem d_MO_hits_17 : decode (kB k_MO_hits) 17 = .ok (.getfield 62, 3) := by decide +kernel
theorem d_MO_hits_20 : decode (kB k_MO_hits) 20 = .ok (.iconst 1, 1) := by decide +kernel
theorem d_MO_hits_21 : decode (kB k_MO_hits) 21 = .ok (.isub, 1) := by decide +kernel
theorem d_MO_hits_22 : decode (kB k_MO_hits) 22 = .ok (.invokestatic 54, 3) := by decide +kernel
theorem d_MO_hits_25 : decode (kB k_MO_hits) 25 = .ok (.ifCond .ne (9), 3) := by decide +kernel
theorem d_MO_hits_28 : decode (kB k_MO_hits) 28 = .ok (.aload_n 0, 1) := by decide +kernel
theorem d_MO_hits_29 : decode (kB k_MO_hits) 29 = .ok (.iconst 1, 1) := by decide +kernel
theorem d_MO_hits_30 : decode (kB k_MO_hits) 30 = .ok (.invokevirtual 58, 3) := by decide +kernel
theorem d_MO_hits_33 : decode (kB k_MO_hits) 33 = .ok (.ireturn, 1) := by decide +kernel
theorem d_MO_hits_34 : decode (kB k_MO_hits) 34 = .ok (.aload_n 0, 1) := by decide +kernel
theorem d_MO_hits_35 : decode (kB k_MO_hits) 35 = .ok (.invokevirtual 84, 3) := by decide +kernel
theorem d_MO_hits_38 : decode (kB k_MO_hits) 38 = .ok (.ifCond .le (9), 3) := by decide +kernel
theorem d_MO_hits_41 : decode (kB k_MO_hits) 41 = .ok (.aload_n 0, 1) := by decide +kernel
theorem d_MO_hits_42 : decode (kB k_MO_hits) 42 = .ok (.iconst 2, 1) := by decide +kernel
theorem d_MO_hits_43 : decode (kB k_MO_hits) 43 = .ok (.invokevirtual 58, 3) := by decide +kernel
theorem d_MO_hits_46 : decode (kB k_MO_hits) 46 = .ok (.ireturn, 1) := by decide +kernel
theorem d_MO_hits_47 : decode (kB k_MO_hits) 47 = .ok (.aload_n 0, 1) := by decide +kernel
theorem d_MO_hits_48 : decode (kB k_MO_hits) 48 = .ok (.getfield 19, 3) := by decide +kernel
theorem d_MO_hits_51 : decode (kB k_MO_hits) 51 = .ok (.iload_n 1, 1) := by decide +kernel
theorem d_MO_hits_52 : decode (kB k_MO_hits) 52 = .ok (.iaload, 1) := by decide +kernel
theorem d_MO_hits_53 : decode (kB k_MO_hits) 53 = .ok (.iconst 4, 1) := by decide +kernel
theorem d_MO_hits_54 : decode (kB k_MO_hits) 54 = .ok (.if_icmp .le (9), 3) := by decide +kernel
theorem d_MO_hits_57 : decode (kB k_MO_hits) 57 = .ok (.aload_n 0, 1) := by decide +kernel
theorem d_MO_hits_58 : decode (kB k_MO_hits) 58 = .ok (.iconst 3, 1) := by decide +kernel
theorem d_MO_hits_59 : decode (kB k_MO_hits) 59 = .ok (.invokevirtual 58, 3) := by decide +kernel
theorem d_MO_hits_62 : decode (kB k_MO_hits) 62 = .ok (.ireturn, 1) := by decide +kernel
theorem d_MO_hits_63 : decode (kB k_MO_hits) 63 = .ok (.aload_n 0, 1) := by decide +kernel
theorem d_MO_hits_64 : decode (kB k_MO_hits) 64 = .ok (.iconst 0, 1) := by decide +kernel
theorem d_MO_hits_65 : decode (kB k_MO_hits) 65 = .ok (.putfield 50, 3) := by decide +kernel
theorem d_MO_hits_68 : decode (kB k_MO_hits) 68 = .ok (.aload_n 0, 1) := by decide +kernel
theorem d_MO_hits_69 : decode (kB k_MO_hits) 69 = .ok (.iload_n 1, 1) := by decide +kernel
theorem d_MO_hits_70 : decode (kB k_MO_hits) 70 = .ok (.iload_n 2, 1) := by decide +kernel
theorem d_MO_hits_71 : decode (kB k_MO_hits) 71 = .ok (.invokevirtual 110, 3) := by decide +kernel
theorem d_MO_hits_74 : decode (kB k_MO_hits) 74 = .ok (.invokestatic 113, 3) := by decide +kernel
theorem d_MO_hits_77 : decode (kB k_MO_hits) 77 = .ok (.ireturn, 1) := by decide +kernel
theorem d_MO_search_0 : decode (kB k_MO_search) 0 = .ok (.iload_n 1, 1) := by decide +kernel
theorem d_MO_search_1 : decode (kB k_MO_search) 1 = .ok (.iconst 1, 1) := by decide +kernel
theorem d_MO_search_2 : decode (kB k_MO_search) 2 = .ok (.bipush 10, 2) := by decide +kernel
theorem d_MO_search_4 : decode (kB k_MO_search) 4 = .ok (.invokestatic 54, 3) := by decide +kernel
theorem d_MO_search_7 : decode (kB k_MO_search) 7 = .ok (.ifCond .ne (9), 3) := by decide +kernel
theorem d_MO_search_10 : decode (kB k_MO_search) 10 = .ok (.aload_n 0, 1) := by decide +kernel
theorem d_MO_search_11 : decode (kB k_MO_search) 11 = .ok (.iconst 1, 1) := by decide +kernel
theorem d_MO_search_12 : decode (kB k_MO_search) 12 = .ok (.invokevirtual 58, 3) := by decide +kernel
theorem d_MO_search_15 : decode (kB k_MO_search) 15 = .ok (.ireturn, 1) := by decide +kernel
theorem d_MO_search_16 : decode (kB k_MO_search) 16 = .ok (.aload_n 0, 1) := by decide +kernel
theorem d_MO_search_17 : decode (kB k_MO_search) 17 = .ok (.invokevirtual 84, 3) := by decide +kernel
theorem d_MO_search_20 : decode (kB k_MO_search) 20 = .ok (.ifCond .le (9), 3) := by decide +kernel
theorem d_MO_search_23 : decode (kB k_MO_search) 23 = .ok (.aload_n 0, 1) := by decide +kernel
theorem d_MO_search_24 : decode (kB k_MO_search) 24 = .ok (.iconst 2, 1) := by decide +kernel
theorem d_MO_search_25 : decode (kB k_MO_search) 25 = .ok (.invokevirtual 58, 3) := by decide +kernel
theorem d_MO_search_28 : decode (kB k_MO_search) 28 = .ok (.ireturn, 1) := by decide +kernel
theorem d_MO_search_29 : decode (kB k_MO_search) 29 = .ok (.aload_n 0, 1) := by decide +kernel
theorem d_MO_search_30 : decode (kB k_MO_search) 30 = .ok (.iconst 0, 1) := by decide +kernel
theorem d_MO_search_31 : decode (kB k_MO_search) 31 = .ok (.putfield 50, 3) := by decide +kernel
theorem d_MO_search_34 : decode (kB k_MO_search) 34 = .ok (.aload_n 0, 1) := by decide +kernel
theorem d_MO_search_35 : decode (kB k_MO_search) 35 = .ok (.iconst 0, 1) := by decide +kernel
theorem d_MO_search_36 : decode (kB k_MO_search) 36 = .ok (.putfield 146, 3) := by decide +kernel
theorem d_MO_search_39 : decode (kB k_MO_search) 39 = .ok (.aload_n 0, 1) := by decide +kernel
theorem d_MO_search_40 : decode (kB k_MO_search) 40 = .ok (.iconst 0, 1) := by decide +kernel
theorem d_MO_search_41 : decode (kB k_MO_search) 41 = .ok (.putfield 149, 3) := by decide +kernel
theorem d_MO_search_44 : decode (kB k_MO_search) 44 = .ok (.iconst 0, 1) := by decide +kernel
theorem d_MO_search_45 : decode (kB k_MO_search) 45 = .ok (.istore_n 2, 1) := by decide +kernel
theorem d_MO_search_46 : decode (kB k_MO_search) 46 = .ok (.iload_n 2, 1) := by decide +kernel
theorem d_MO_search_47 : decode (kB k_MO_search) 47 = .ok (.aload_n 0, 1) := by decide +kernel
theorem d_MO_search_48 : decode (kB k_MO_search) 48 = .ok (.getfield 62, 3) := by decide +kernel
theorem d_MO_search_51 : decode (kB k_MO_search) 51 = .ok (.if_icmp .ge (53), 3) := by decide +kernel
theorem d_MO_search_54 : decode (kB k_MO_search) 54 = .ok (.aload_n 0, 1) := by decide +kernel
theorem d_MO_search_55 : decode (kB k_MO_search) 55 = .ok (.getfield 13, 3) := by decide +kernel
theorem d_MO_search_58 : decode (kB k_MO_search) 58 = .ok (.iload_n 2, 1) := by decide +kernel
theorem d_MO_search_59 : decode (kB k_MO_search) 59 = .ok (.iaload, 1) := by decide +kernel
theorem d_MO_search_60 : decode (kB k_MO_search) 60 = .ok (.ifCond .ne (6), 3) := by decide +kernel
theorem d_MO_search_63 : decode (kB k_MO_search) 63 = .ok (.goto (35), 3) := by decide +kernel
theorem d_MO_search_66 : decode (kB k_MO_search) 66 = .ok (.aload_n 0, 1) := by decide +kernel
theorem d_MO_search_67 : decode (kB k_MO_search) 67 = .ok (.iload_n 2, 1) := by decide +kernel
theorem d_MO_search_68 : decode (kB k_MO_search) 68 = .ok (.invokevirtual 142, 3) := by decide +kernel
theorem d_MO_search_71 : decode (kB k_MO_search) 71 = .ok (.dstore_n 3, 1) := by decide +kernel
theorem d_MO_search_72 : decode (kB k_MO_search) 72 = .ok (.aload_n 0, 1) := by decide +kernel
theorem d_MO_search_73 : decode (kB k_MO_search) 73 = .ok (.getfield 131, 3) := by decide +kernel
theorem d_MO_search_76 : decode (kB k_MO_search) 76 = .ok (.ifCond .eq (16), 3) := by decide +kernel
theorem d_MO_search_79 : decode (kB k_MO_search) 79 = .ok (.aload_n 0, 1) := by decide +kernel
theorem d_MO_search_80 : decode (kB k_MO_search) 80 = .ok (.dup, 1) := by decide +kernel
theorem d_MO_search_81 : decode (kB k_MO_search) 81 = .ok (.getfield 149, 3) := by decide +kernel
theorem d_MO_search_84 : decode (kB k_MO_search) 84 = .ok (.iconst 1, 1) := by decide +kernel
theorem d_MO_search_85 : decode (kB k_MO_search) 85 = .ok (.iadd, 1) := by decide +kernel
theorem d_MO_search_86 : decode (kB k_MO_search) 86 = .ok (.putfield 149, 3) := by decide +kernel
theorem d_MO_search_89 : decode (kB k_MO_search) 89 = .ok (.goto (9), 3) := by decide +kernel
theorem d_MO_search_92 : decode (kB k_MO_search) 92 = .ok (.aload_n 0, 1) := by decide +kernel
theorem d_MO_search_93 : decode (kB k_MO_search) 93 = .ok (.iload_n 2, 1) := by decide +kernel
theorem d_MO_search_94 : decode (kB k_MO_search) 94 = .ok (.dload_n 3, 1) := by decide +kernel
theorem d_MO_search_95 : decode (kB k_MO_search) 95 = .ok (.invokevirtual 152, 3) := by decide +kernel
theorem d_MO_search_98 : decode (kB k_MO_search) 98 = .ok (.iinc 2 1, 3) := by decide +kernel
theorem d_MO_search_101 : decode (kB k_MO_search) 101 = .ok (.goto (-55), 3) := by decide +kernel
theorem d_MO_search_104 : decode (kB k_MO_search) 104 = .ok (.aload_n 0, 1) := by decide +kernel
theorem d_MO_search_105 : decode (kB k_MO_search) 105 = .ok (.getfield 146, 3) := by decide +kernel
theorem d_MO_search_108 : decode (kB k_MO_search) 108 = .ok (.iload_n 1, 1) := by decide +kernel
theorem d_MO_search_109 : decode (kB k_MO_search) 109 = .ok (.if_icmp .le (8), 3) := by decide +kernel
theorem d_MO_search_112 : decode (kB k_MO_search) 112 = .ok (.aload_n 0, 1) := by decide +kernel
theorem d_MO_search_113 : decode (kB k_MO_search) 113 = .ok (.iload_n 1, 1) := by decide +kernel
theorem d_MO_search_114 : decode (kB k_MO_search) 114 = .ok (.putfield 146, 3) := by decide +kernel
theorem d_MO_search_117 : decode (kB k_MO_search) 117 = .ok (.aload_n 0, 1) := by decide +kernel
theorem d_MO_search_118 : decode (kB k_MO_search) 118 = .ok (.getfield 146, 3) := by decide +kernel
theorem d_MO_search_121 : decode (kB k_MO_search) 121 = .ok (.ireturn, 1) := by decide +kernel
theorem d_MO_come_0 : decode (kB k_MO_come) 0 = .ok (.aload_n 0, 1) := by decide +kernel
theorem d_MO_come_1 : decode (kB k_MO_come) 1 = .ok (.getfield 146, 3) := by decide +kernel
theorem d_MO_come_4 : decode (kB k_MO_come) 4 = .ok (.istore 4, 2) := by decide +kernel
theorem d_MO_come_6 : decode (kB k_MO_come) 6 = .ok (.iload 4, 2) := by decide +kernel
theorem d_MO_come_8 : decode (kB k_MO_come) 8 = .ok (.ifCond .le (55), 3) := by decide +kernel
theorem d_MO_come_11 : decode (kB k_MO_come) 11 = .ok (.aload_n 0, 1) := by decide +kernel
theorem d_MO_come_12 : decode (kB k_MO_come) 12 = .ok (.getfield 47, 3) := by decide +kernel
theorem d_MO_come_15 : decode (kB k_MO_come) 15 = .ok (.iload 4, 2) := by decide +kernel
theorem d_MO_come_17 : decode (kB k_MO_come) 17 = .ok (.iconst 1, 1) := by decide +kernel
theorem d_MO_come_18 : decode (kB k_MO_come) 18 = .ok (.isub, 1) := by decide +kernel
theorem d_MO_come_19 : decode (kB k_MO_come) 19 = .ok (.daload, 1) := by decide +kernel
theorem d_MO_come_20 : decode (kB k_MO_come) 20 = .ok (.dload_n 2, 1) := by decide +kernel
theorem d_MO_come_21 : decode (kB k_MO_come) 21 = .ok (.dcmp .g, 1) := by decide +kernel
theorem d_MO_come_22 : decode (kB k_MO_come) 22 = .ok (.ifCond .ge (41), 3) := by decide +kernel
theorem d_MO_come_25 : decode (kB k_MO_come) 25 = .ok (.aload_n 0, 1) := by decide +kernel
theorem d_MO_come_26 : decode (kB k_MO_come) 26 = .ok (.getfield 47, 3) := by decide +kernel
theorem d_MO_come_29 : decode (kB k_MO_come) 29 = .ok (.iload 4, 2) := by decide +kernel
theorem d_MO_come_31 : decode (kB k_MO_come) 31 = .ok (.aload_n 0, 1) := by decide +kernel
theorem d_MO_come_32 : decode (kB k_MO_come) 32 = .ok (.getfield 47, 3) := by decide +kernel
theorem d_MO_come_35 : decode (kB k_MO_come) 35 = .ok (.iload 4, 2) := by decide +kernel
theorem d_MO_come_37 : decode (kB k_MO_come) 37 = .ok (.iconst 1, 1) := by decide +kernel
theorem d_MO_come_38 : decode (kB k_MO_come) 38 = .ok (.isub, 1) := by decide +kernel
theorem d_MO_come_39 : decode (kB k_MO_come) 39 = .ok (.daload, 1) := by decide +kernel
theorem d_MO_come_40 : decode (kB k_MO_come) 40 = .ok (.dastore, 1) := by decide +kernel
theorem d_MO_come_41 : decode (kB k_MO_come) 41 = .ok (.aload_n 0, 1) := by decide +kernel
theorem d_MO_come_42 : decode (kB k_MO_come) 42 = .ok (.getfield 44, 3) := by decide +kernel
theorem d_MO_come_45 : decode (kB k_MO_come) 45 = .ok (.iload 4, 2) := by decide +kernel
theorem d_MO_come_47 : decode (kB k_MO_come) 47 = .ok (.aload_n 0, 1) := by decide +kernel
theorem d_MO_come_48 : decode (kB k_MO_come) 48 = .ok (.getfield 44, 3) := by decide +kernel
theorem d_MO_come_51 : decode (kB k_MO_come) 51 = .ok (.iload 4, 2) := by decide +kernel
theorem d_MO_come_53 : decode (kB k_MO_come) 53 = .ok (.iconst 1, 1) := by decide +kernel
theorem d_MO_come_54 : decode (kB k_MO_come) 54 = .ok (.isub, 1) := by decide +kernel
theorem d_MO_come_55 : decode (kB k_MO_come) 55 = .ok (.iaload, 1) := by decide +kernel
theorem d_MO_come_56 : decode (kB k_MO_come) 56 = .ok (.iastore, 1) := by decide +kernel
theorem d_MO_come_57 : decode (kB k_MO_come) 57 = .ok (.iinc 4 (-1), 3) := by decide +kernel
theorem d_MO_come_60 : decode (kB k_MO_come) 60 = .ok (.goto (-54), 3) := by decide +kernel
theorem d_MO_come_63 : decode (kB k_MO_come) 63 = .ok (.aload_n 0, 1) := by decide +kernel
theorem d_MO_come_64 : decode (kB k_MO_come) 64 = .ok (.getfield 47, 3) := by decide +kernel
theorem d_MO_come_67 : decode (kB k_MO_come) 67 = .ok (.iload 4, 2) := by decide +kernel
theorem d_MO_come_69 : decode (kB k_MO_come) 69 = .ok (.dload_n 2, 1) := by decide +kernel
theorem d_MO_come_70 : decode (kB k_MO_come) 70 = .ok (.dastore, 1) := by decide +kernel
theorem d_MO_come_71 : decode (kB k_MO_come) 71 = .ok (.aload_n 0, 1) := by decide +kernel
theorem d_MO_come_72 : decode (kB k_MO_come) 72 = .ok (.getfield 44, 3) := by decide +kernel
theorem d_MO_come_75 : decode (kB k_MO_come) 75 = .ok (.iload 4, 2) := by decide +kernel
theorem d_MO_come_77 : decode (kB k_MO_come) 77 = .ok (.iload_n 1, 1) := by decide +kernel
theorem d_MO_come_78 : decode (kB k_MO_come) 78 = .ok (.iastore, 1) := by decide +kernel
theorem d_MO_come_79 : decode (kB k_MO_come) 79 = .ok (.aload_n 0, 1) := by decide +kernel
theorem d_MO_come_80 : decode (kB k_MO_come) 80 = .ok (.dup, 1) := by decide +kernel
theorem d_MO_come_81 : decode (kB k_MO_come) 81 = .ok (.getfield 146, 3) := by decide +kernel
theorem d_MO_come_84 : decode (kB k_MO_come) 84 = .ok (.iconst 1, 1) := by decide +kernel
theorem d_MO_come_85 : decode (kB k_MO_come) 85 = .ok (.iadd, 1) := by decide +kernel
theorem d_MO_come_86 : decode (kB k_MO_come) 86 = .ok (.putfield 146, 3) := by decide +kernel
theorem d_MO_come_89 : decode (kB k_MO_come) 89 = .ok (.return_, 1) := by decide +kernel
theorem d_MO_found_0 : decode (kB k_MO_found) 0 = .ok (.iload_n 1, 1) := by decide +kernel
theorem d_MO_found_1 : decode (kB k_MO_found) 1 = .ok (.iconst 0, 1) := by decide +kernel
theorem d_MO_found_2 : decode (kB k_MO_found) 2 = .ok (.aload_n 0, 1) := by decide +kernel
theorem d_MO_found_3 : decode (kB k_MO_found) 3 = .ok (.getfield 146, 3) := by decide +kernel
theorem d_MO_found_6 : decode (kB k_MO_found) 6 = .ok (.iconst 1, 1) := by decide +kernel
theorem d_MO_found_7 : decode (kB k_MO_found) 7 = .ok (.isub, 1) := by decide +kernel
theorem d_MO_found_8 : decode (kB k_MO_found) 8 = .ok (.invokestatic 54, 3) := by decide +kernel
theorem d_MO_found_11 : decode (kB k_MO_found) 11 = .ok (.ifCond .ne (9), 3) := by decide +kernel
theorem d_MO_found_14 : decode (kB k_MO_found) 14 = .ok (.aload_n 0, 1) := by decide +kernel
theorem d_MO_found_15 : decode (kB k_MO_found) 15 = .ok (.iconst 1, 1) := by decide +kernel
theorem d_MO_found_16 : decode (kB k_MO_found) 16 = .ok (.invokevirtual 58, 3) := by decide +kernel
theorem d_MO_found_19 : decode (kB k_MO_found) 19 = .ok (.ireturn, 1) := by decide +kernel
theorem d_MO_found_20 : decode (kB k_MO_found) 20 = .ok (.aload_n 0, 1) := by decide +kernel
theorem d_MO_found_21 : decode (kB k_MO_found) 21 = .ok (.iconst 0, 1) := by decide +kernel
theorem d_MO_found_22 : decode (kB k_MO_found) 22 = .ok (.putfield 50, 3) := by decide +kernel
theorem d_MO_found_25 : decode (kB k_MO_found) 25 = .ok (.aload_n 0, 1) := by decide +kernel
theorem d_MO_found_26 : decode (kB k_MO_found) 26 = .ok (.getfield 44, 3) := by decide +kernel
theorem d_MO_found_29 : decode (kB k_MO_found) 29 = .ok (.iload_n 1, 1) := by decide +kernel
theorem d_MO_found_30 : decode (kB k_MO_found) 30 = .ok (.iaload, 1) := by decide +kernel
theorem d_MO_found_31 : decode (kB k_MO_found) 31 = .ok (.ireturn, 1) := by decide +kernel
theorem d_MO_score_0 : decode (kB k_MO_score) 0 = .ok (.iload_n 1, 1) := by decide +kernel
theorem d_MO_score_1 : decode (kB k_MO_score) 1 = .ok (.iconst 0, 1) := by decide +kernel
theorem d_MO_score_2 : decode (kB k_MO_score) 2 = .ok (.aload_n 0, 1) := by decide +kernel
theorem d_MO_score_3 : decode (kB k_MO_score) 3 = .ok (.getfield 146, 3) := by decide +kernel
theorem d_MO_score_6 : decode (kB k_MO_score) 6 = .ok (.iconst 1, 1) := by decide +kernel
theorem d_MO_score_7 : decode (kB k_MO_score) 7 = .ok (.isub, 1) := by decide +kernel
theorem d_MO_score_8 : decode (kB k_MO_score) 8 = .ok (.invokestatic 54, 3) := by decide +kernel
theorem d_MO_score_11 : decode (kB k_MO_score) 11 = .ok (.ifCond .ne (10), 3) := by decide +kernel
theorem d_MO_score_14 : decode (kB k_MO_score) 14 = .ok (.aload_n 0, 1) := by decide +kernel
theorem d_MO_score_15 : decode (kB k_MO_score) 15 = .ok (.iconst 1, 1) := by decide +kernel
theorem d_MO_score_16 : decode (kB k_MO_score) 16 = .ok (.invokevirtual 58, 3) := by decide +kernel
theorem d_MO_score_19 : decode (kB k_MO_score) 19 = .ok (.i2d, 1) := by decide +kernel
theorem d_MO_score_20 : decode (kB k_MO_score) 20 = .ok (.dreturn, 1) := by decide +kernel
theorem d_MO_score_21 : decode (kB k_MO_score) 21 = .ok (.aload_n 0, 1) := by decide +kernel
theorem d_MO_score_22 : decode (kB k_MO_score) 22 = .ok (.iconst 0, 1) := by decide +kernel
theorem d_MO_score_23 : decode (kB k_MO_score) 23 = .ok (.putfield 50, 3) := by decide +kernel
theorem d_MO_score_26 : decode (kB k_MO_score) 26 = .ok (.aload_n 0, 1) := by decide +kernel
theorem d_MO_score_27 : decode (kB k_MO_score) 27 = .ok (.getfield 47, 3) := by decide +kernel
theorem d_MO_score_30 : decode (kB k_MO_score) 30 = .ok (.iload_n 1, 1) := by decide +kernel
theorem d_MO_score_31 : decode (kB k_MO_score) 31 = .ok (.daload, 1) := by decide +kernel
theorem d_MO_score_32 : decode (kB k_MO_score) 32 = .ok (.dreturn, 1) := by decide +kernel
theorem d_MO_worth_0 : decode (kB k_MO_worth) 0 = .ok (.dconst 0, 1) := by decide +kernel
theorem d_MO_worth_1 : decode (kB k_MO_worth) 1 = .ok (.dstore_n 2, 1) := by decide +kernel
theorem d_MO_worth_2 : decode (kB k_MO_worth) 2 = .ok (.iconst 0, 1) := by decide +kernel
theorem d_MO_worth_3 : decode (kB k_MO_worth) 3 = .ok (.istore 4, 2) := by decide +kernel
theorem d_MO_worth_5 : decode (kB k_MO_worth) 5 = .ok (.iload 4, 2) := by decide +kernel
theorem d_MO_worth_7 : decode (kB k_MO_worth) 7 = .ok (.aload_n 0, 1) := by decide +kernel
theorem d_MO_worth_8 : decode (kB k_MO_worth) 8 = .ok (.getfield 146, 3) := by decide +kernel
theorem d_MO_worth_11 : decode (kB k_MO_worth) 11 = .ok (.if_icmp .ge (50), 3) := by decide +kernel
theorem d_MO_worth_14 : decode (kB k_MO_worth) 14 = .ok (.dload_n 2, 1) := by decide +kernel
theorem d_MO_worth_15 : decode (kB k_MO_worth) 15 = .ok (.aload_n 0, 1) := by decide +kernel
theorem d_MO_worth_16 : decode (kB k_MO_worth) 16 = .ok (.getfield 47, 3) := by decide +kernel
theorem d_MO_worth_19 : decode (kB k_MO_worth) 19 = .ok (.iload 4, 2) := by decide +kernel
theorem d_MO_worth_21 : decode (kB k_MO_worth) 21 = .ok (.daload, 1) := by decide +kernel
theorem d_MO_worth_22 : decode (kB k_MO_worth) 22 = .ok (.aload_n 0, 1) := by decide +kernel
theorem d_MO_worth_23 : decode (kB k_MO_worth) 23 = .ok (.aload_n 0, 1) := by decide +kernel
theorem d_MO_worth_24 : decode (kB k_MO_worth) 24 = .ok (.getfield 44, 3) := by decide +kernel
theorem d_MO_worth_27 : decode (kB k_MO_worth) 27 = .ok (.iload 4, 2) := by decide +kernel
theorem d_MO_worth_29 : decode (kB k_MO_worth) 29 = .ok (.iaload, 1) := by decide +kernel
theorem d_MO_worth_30 : decode (kB k_MO_worth) 30 = .ok (.iload_n 1, 1) := by decide +kernel
theorem d_MO_worth_31 : decode (kB k_MO_worth) 31 = .ok (.invokevirtual 96, 3) := by decide +kernel
theorem d_MO_worth_34 : decode (kB k_MO_worth) 34 = .ok (.invokestatic 113, 3) := by decide +kernel
theorem d_MO_worth_37 : decode (kB k_MO_worth) 37 = .ok (.i2d, 1) := by decide +kernel
theorem d_MO_worth_38 : decode (kB k_MO_worth) 38 = .ok (.aload_n 0, 1) := by decide +kernel
theorem d_MO_worth_39 : decode (kB k_MO_worth) 39 = .ok (.getfield 13, 3) := by decide +kernel
theorem d_MO_worth_42 : decode (kB k_MO_worth) 42 = .ok (.aload_n 0, 1) := by decide +kernel
theorem d_MO_worth_43 : decode (kB k_MO_worth) 43 = .ok (.getfield 44, 3) := by decide +kernel
theorem d_MO_worth_46 : decode (kB k_MO_worth) 46 = .ok (.iload 4, 2) := by decide +kernel
theorem d_MO_worth_48 : decode (kB k_MO_worth) 48 = .ok (.iaload, 1) := by decide +kernel
theorem d_MO_worth_49 : decode (kB k_MO_worth) 49 = .ok (.iaload, 1) := by decide +kernel
theorem d_MO_worth_50 : decode (kB k_MO_worth) 50 = .ok (.i2d, 1) := by decide +kernel
theorem d_MO_worth_51 : decode (kB k_MO_worth) 51 = .ok (.ddiv, 1) := by decide +kernel
theorem d_MO_worth_52 : decode (kB k_MO_worth) 52 = .ok (.dmul, 1) := by decide +kernel
theorem d_MO_worth_53 : decode (kB k_MO_worth) 53 = .ok (.dadd, 1) := by decide +kernel
theorem d_MO_worth_54 : decode (kB k_MO_worth) 54 = .ok (.dstore_n 2, 1) := by decide +kernel
theorem d_MO_worth_55 : decode (kB k_MO_worth) 55 = .ok (.iinc 4 1, 3) := by decide +kernel
theorem d_MO_worth_58 : decode (kB k_MO_worth) 58 = .ok (.goto (-53), 3) := by decide +kernel
theorem d_MO_worth_61 : decode (kB k_MO_worth) 61 = .ok (.dload_n 2, 1) := by decide +kernel
theorem d_MO_worth_62 : decode (kB k_MO_worth) 62 = .ok (.dreturn, 1) := by decide +kernel
