theorem dR_unpack_0 : decode cR_unpack 0 = .ok (.bipush 16, 2) := by decide +kernel
theorem dR_unpack_2 : decode cR_unpack 2 = .ok (.aload_n 0, 1) := by decide +kernel
theorem dR_unpack_3 : decode cR_unpack 3 = .ok (.iload_n 1, 1) := by decide +kernel
theorem dR_unpack_4 : decode cR_unpack 4 = .ok (.invokevirtual 171, 3) := by decide +kernel
theorem dR_unpack_7 : decode cR_unpack 7 = .ok (.iload_n 2, 1) := by decide +kernel
theorem dR_unpack_8 : decode cR_unpack 8 = .ok (.iadd, 1) := by decide +kernel
theorem dR_unpack_9 : decode cR_unpack 9 = .ok (.imul, 1) := by decide +kernel
theorem dR_unpack_10 : decode cR_unpack 10 = .ok (.istore_n 3, 1) := by decide +kernel
theorem dR_unpack_11 : decode cR_unpack 11 = .ok (.aload_n 0, 1) := by decide +kernel
theorem dR_unpack_12 : decode cR_unpack 12 = .ok (.iload_n 1, 1) := by decide +kernel
theorem dR_unpack_13 : decode cR_unpack 13 = .ok (.iload_n 2, 1) := by decide +kernel
theorem dR_unpack_14 : decode cR_unpack 14 = .ok (.invokevirtual 159, 3) := by decide +kernel
theorem dR_unpack_17 : decode cR_unpack 17 = .ok (.aload_n 0, 1) := by decide +kernel
theorem dR_unpack_18 : decode cR_unpack 18 = .ok (.iload_n 1, 1) := by decide +kernel
theorem dR_unpack_19 : decode cR_unpack 19 = .ok (.iload_n 2, 1) := by decide +kernel
theorem dR_unpack_20 : decode cR_unpack 20 = .ok (.iconst 1, 1) := by decide +kernel
theorem dR_unpack_21 : decode cR_unpack 21 = .ok (.isub, 1) := by decide +kernel
theorem dR_unpack_22 : decode cR_unpack 22 = .ok (.invokevirtual 159, 3) := by decide +kernel
theorem dR_unpack_25 : decode cR_unpack 25 = .ok (.isub, 1) := by decide +kernel
theorem dR_unpack_26 : decode cR_unpack 26 = .ok (.istore 4, 2) := by decide +kernel
theorem dR_unpack_28 : decode cR_unpack 28 = .ok (.iconst 0, 1) := by decide +kernel
theorem dR_unpack_29 : decode cR_unpack 29 = .ok (.istore 5, 2) := by decide +kernel
theorem dR_unpack_31 : decode cR_unpack 31 = .ok (.iconst 0, 1) := by decide +kernel
theorem dR_unpack_32 : decode cR_unpack 32 = .ok (.istore 6, 2) := by decide +kernel
theorem dR_unpack_34 : decode cR_unpack 34 = .ok (.iconst 0, 1) := by decide +kernel
theorem dR_unpack_35 : decode cR_unpack 35 = .ok (.istore 7, 2) := by decide +kernel
theorem dR_unpack_37 : decode cR_unpack 37 = .ok (.iconst 0, 1) := by decide +kernel
theorem dR_unpack_38 : decode cR_unpack 38 = .ok (.istore 8, 2) := by decide +kernel
theorem dR_unpack_40 : decode cR_unpack 40 = .ok (.iconst 1, 1) := by decide +kernel
theorem dR_unpack_41 : decode cR_unpack 41 = .ok (.istore 9, 2) := by decide +kernel
theorem dR_unpack_43 : decode cR_unpack 43 = .ok (.iload 9, 2) := by decide +kernel
theorem dR_unpack_45 : decode cR_unpack 45 = .ok (.ifCond .eq 199, 3) := by decide +kernel
theorem dR_unpack_48 : decode cR_unpack 48 = .ok (.iload 6, 2) := by decide +kernel
theorem dR_unpack_50 : decode cR_unpack 50 = .ok (.iload 4, 2) := by decide +kernel
theorem dR_unpack_52 : decode cR_unpack 52 = .ok (.if_icmp .ge 192, 3) := by decide +kernel
theorem dR_unpack_55 : decode cR_unpack 55 = .ok (.iload 5, 2) := by decide +kernel
theorem dR_unpack_57 : decode cR_unpack 57 = .ok (.bipush 16, 2) := by decide +kernel
theorem dR_unpack_59 : decode cR_unpack 59 = .ok (.if_icmp .ge 7, 3) := by decide +kernel
theorem dR_unpack_62 : decode cR_unpack 62 = .ok (.iconst 1, 1) := by decide +kernel
theorem dR_unpack_63 : decode cR_unpack 63 = .ok (.goto 4, 3) := by decide +kernel
theorem dR_unpack_66 : decode cR_unpack 66 = .ok (.iconst 0, 1) := by decide +kernel
theorem dR_unpack_67 : decode cR_unpack 67 = .ok (.istore 9, 2) := by decide +kernel
theorem dR_unpack_69 : decode cR_unpack 69 = .ok (.iload 9, 2) := by decide +kernel
theorem dR_unpack_71 : decode cR_unpack 71 = .ok (.ifCond .eq 15, 3) := by decide +kernel
theorem dR_unpack_74 : decode cR_unpack 74 = .ok (.aload_n 0, 1) := by decide +kernel
theorem dR_unpack_75 : decode cR_unpack 75 = .ok (.getfield 51, 3) := by decide +kernel
theorem dR_unpack_78 : decode cR_unpack 78 = .ok (.iload_n 3, 1) := by decide +kernel
theorem dR_unpack_79 : decode cR_unpack 79 = .ok (.iload 5, 2) := by decide +kernel
theorem dR_unpack_81 : decode cR_unpack 81 = .ok (.iadd, 1) := by decide +kernel
theorem dR_unpack_82 : decode cR_unpack 82 = .ok (.iaload, 1) := by decide +kernel
theorem dR_unpack_83 : decode cR_unpack 83 = .ok (.goto 4, 3) := by decide +kernel
theorem dR_unpack_86 : decode cR_unpack 86 = .ok (.iconst 0, 1) := by decide +kernel
theorem dR_unpack_87 : decode cR_unpack 87 = .ok (.istore 10, 2) := by decide +kernel
theorem dR_unpack_89 : decode cR_unpack 89 = .ok (.iinc 5 1, 3) := by decide +kernel
theorem dR_unpack_92 : decode cR_unpack 92 = .ok (.iload 9, 2) := by decide +kernel
theorem dR_unpack_94 : decode cR_unpack 94 = .ok (.ifCond .eq 42, 3) := by decide +kernel
theorem dR_unpack_97 : decode cR_unpack 97 = .ok (.iload 7, 2) := by decide +kernel
theorem dR_unpack_99 : decode cR_unpack 99 = .ok (.ifCond .ne 37, 3) := by decide +kernel
theorem dR_unpack_102 : decode cR_unpack 102 = .ok (.iload 8, 2) := by decide +kernel
theorem dR_unpack_104 : decode cR_unpack 104 = .ok (.ifCond .ne 32, 3) := by decide +kernel
theorem dR_unpack_107 : decode cR_unpack 107 = .ok (.iload 10, 2) := by decide +kernel
theorem dR_unpack_109 : decode cR_unpack 109 = .ok (.bipush 16, 2) := by decide +kernel
theorem dR_unpack_111 : decode cR_unpack 111 = .ok (.idiv, 1) := by decide +kernel
theorem dR_unpack_112 : decode cR_unpack 112 = .ok (.istore 7, 2) := by decide +kernel
theorem dR_unpack_114 : decode cR_unpack 114 = .ok (.iload 10, 2) := by decide +kernel
theorem dR_unpack_116 : decode cR_unpack 116 = .ok (.bipush 16, 2) := by decide +kernel
theorem dR_unpack_118 : decode cR_unpack 118 = .ok (.irem, 1) := by decide +kernel
theorem dR_unpack_119 : decode cR_unpack 119 = .ok (.istore 8, 2) := by decide +kernel
theorem dR_unpack_121 : decode cR_unpack 121 = .ok (.iload 10, 2) := by decide +kernel
theorem dR_unpack_123 : decode cR_unpack 123 = .ok (.ifCond .le 7, 3) := by decide +kernel
theorem dR_unpack_126 : decode cR_unpack 126 = .ok (.iconst 1, 1) := by decide +kernel
theorem dR_unpack_127 : decode cR_unpack 127 = .ok (.goto 4, 3) := by decide +kernel
theorem dR_unpack_130 : decode cR_unpack 130 = .ok (.iconst 0, 1) := by decide +kernel
theorem dR_unpack_131 : decode cR_unpack 131 = .ok (.istore 9, 2) := by decide +kernel
theorem dR_unpack_133 : decode cR_unpack 133 = .ok (.goto 108, 3) := by decide +kernel
theorem dR_unpack_136 : decode cR_unpack 136 = .ok (.iload 9, 2) := by decide +kernel
theorem dR_unpack_138 : decode cR_unpack 138 = .ok (.ifCond .eq 26, 3) := by decide +kernel
theorem dR_unpack_141 : decode cR_unpack 141 = .ok (.iload 7, 2) := by decide +kernel
theorem dR_unpack_143 : decode cR_unpack 143 = .ok (.ifCond .le 21, 3) := by decide +kernel
theorem dR_unpack_146 : decode cR_unpack 146 = .ok (.aload_n 0, 1) := by decide +kernel
theorem dR_unpack_147 : decode cR_unpack 147 = .ok (.getfield 57, 3) := by decide +kernel
theorem dR_unpack_150 : decode cR_unpack 150 = .ok (.iload 6, 2) := by decide +kernel
theorem dR_unpack_152 : decode cR_unpack 152 = .ok (.iload 10, 2) := by decide +kernel
theorem dR_unpack_154 : decode cR_unpack 154 = .ok (.iastore, 1) := by decide +kernel
theorem dR_unpack_155 : decode cR_unpack 155 = .ok (.iinc 6 1, 3) := by decide +kernel
theorem dR_unpack_158 : decode cR_unpack 158 = .ok (.iinc 7 (-1), 3) := by decide +kernel
theorem dR_unpack_161 : decode cR_unpack 161 = .ok (.goto 80, 3) := by decide +kernel
theorem dR_unpack_164 : decode cR_unpack 164 = .ok (.iload 9, 2) := by decide +kernel
theorem dR_unpack_166 : decode cR_unpack 166 = .ok (.ifCond .eq 75, 3) := by decide +kernel
theorem dR_unpack_169 : decode cR_unpack 169 = .ok (.iload 10, 2) := by decide +kernel
theorem dR_unpack_171 : decode cR_unpack 171 = .ok (.ifCond .le 14, 3) := by decide +kernel
theorem dR_unpack_174 : decode cR_unpack 174 = .ok (.iload 10, 2) := by decide +kernel
theorem dR_unpack_176 : decode cR_unpack 176 = .ok (.iload 6, 2) := by decide +kernel
theorem dR_unpack_178 : decode cR_unpack 178 = .ok (.if_icmp .gt 7, 3) := by decide +kernel
theorem dR_unpack_181 : decode cR_unpack 181 = .ok (.iconst 1, 1) := by decide +kernel
theorem dR_unpack_182 : decode cR_unpack 182 = .ok (.goto 4, 3) := by decide +kernel
theorem dR_unpack_185 : decode cR_unpack 185 = .ok (.iconst 0, 1) := by decide +kernel
theorem dR_unpack_186 : decode cR_unpack 186 = .ok (.istore 9, 2) := by decide +kernel
theorem dR_unpack_188 : decode cR_unpack 188 = .ok (.iconst 0, 1) := by decide +kernel
theorem dR_unpack_189 : decode cR_unpack 189 = .ok (.istore 11, 2) := by decide +kernel
theorem dR_unpack_191 : decode cR_unpack 191 = .ok (.iload 9, 2) := by decide +kernel
theorem dR_unpack_193 : decode cR_unpack 193 = .ok (.ifCond .eq 45, 3) := by decide +kernel
theorem dR_unpack_196 : decode cR_unpack 196 = .ok (.iload 11, 2) := by decide +kernel
theorem dR_unpack_198 : decode cR_unpack 198 = .ok (.iload 8, 2) := by decide +kernel
theorem dR_unpack_200 : decode cR_unpack 200 = .ok (.iconst 2, 1) := by decide +kernel
theorem dR_unpack_201 : decode cR_unpack 201 = .ok (.iadd, 1) := by decide +kernel
theorem dR_unpack_202 : decode cR_unpack 202 = .ok (.if_icmp .ge 36, 3) := by decide +kernel
theorem dR_unpack_205 : decode cR_unpack 205 = .ok (.iload 6, 2) := by decide +kernel
theorem dR_unpack_207 : decode cR_unpack 207 = .ok (.iload 4, 2) := by decide +kernel
theorem dR_unpack_209 : decode cR_unpack 209 = .ok (.if_icmp .ge 29, 3) := by decide +kernel
theorem dR_unpack_212 : decode cR_unpack 212 = .ok (.aload_n 0, 1) := by decide +kernel
theorem dR_unpack_213 : decode cR_unpack 213 = .ok (.getfield 57, 3) := by decide +kernel
theorem dR_unpack_216 : decode cR_unpack 216 = .ok (.iload 6, 2) := by decide +kernel
theorem dR_unpack_218 : decode cR_unpack 218 = .ok (.aload_n 0, 1) := by decide +kernel
theorem dR_unpack_219 : decode cR_unpack 219 = .ok (.getfield 57, 3) := by decide +kernel
theorem dR_unpack_222 : decode cR_unpack 222 = .ok (.iload 6, 2) := by decide +kernel
theorem dR_unpack_224 : decode cR_unpack 224 = .ok (.iload 10, 2) := by decide +kernel
theorem dR_unpack_226 : decode cR_unpack 226 = .ok (.isub, 1) := by decide +kernel
theorem dR_unpack_227 : decode cR_unpack 227 = .ok (.iaload, 1) := by decide +kernel
theorem dR_unpack_228 : decode cR_unpack 228 = .ok (.iastore, 1) := by decide +kernel
theorem dR_unpack_229 : decode cR_unpack 229 = .ok (.iinc 6 1, 3) := by decide +kernel
theorem dR_unpack_232 : decode cR_unpack 232 = .ok (.iinc 11 1, 3) := by decide +kernel
theorem dR_unpack_235 : decode cR_unpack 235 = .ok (.goto (-44), 3) := by decide +kernel
theorem dR_unpack_238 : decode cR_unpack 238 = .ok (.iconst 0, 1) := by decide +kernel
theorem dR_unpack_239 : decode cR_unpack 239 = .ok (.istore 8, 2) := by decide +kernel
theorem dR_unpack_241 : decode cR_unpack 241 = .ok (.goto (-198), 3) := by decide +kernel
theorem dR_unpack_244 : decode cR_unpack 244 = .ok (.iload 9, 2) := by decide +kernel
theorem dR_unpack_246 : decode cR_unpack 246 = .ok (.ireturn, 1) := by decide +kernel
theorem dR_keep_0 : decode cR_keep 0 = .ok (.aload_n 0, 1) := by decide +kernel
theorem dR_keep_1 : decode cR_keep 1 = .ok (.getfield 60, 3) := by decide +kernel
theorem dR_keep_4 : decode cR_keep 4 = .ok (.iconst 1, 1) := by decide +kernel
theorem dR_keep_5 : decode cR_keep 5 = .ok (.aload_n 0, 1) := by decide +kernel
theorem dR_keep_6 : decode cR_keep 6 = .ok (.getfield 60, 3) := by decide +kernel
theorem dR_keep_9 : decode cR_keep 9 = .ok (.iconst 0, 1) := by decide +kernel
theorem dR_keep_10 : decode cR_keep 10 = .ok (.iaload, 1) := by decide +kernel
theorem dR_keep_11 : decode cR_keep 11 = .ok (.iastore, 1) := by decide +kernel
theorem dR_keep_12 : decode cR_keep 12 = .ok (.aload_n 0, 1) := by decide +kernel
theorem dR_keep_13 : decode cR_keep 13 = .ok (.getfield 63, 3) := by decide +kernel
theorem dR_keep_16 : decode cR_keep 16 = .ok (.iconst 1, 1) := by decide +kernel
theorem dR_keep_17 : decode cR_keep 17 = .ok (.aload_n 0, 1) := by decide +kernel
theorem dR_keep_18 : decode cR_keep 18 = .ok (.getfield 63, 3) := by decide +kernel
theorem dR_keep_21 : decode cR_keep 21 = .ok (.iconst 0, 1) := by decide +kernel
theorem dR_keep_22 : decode cR_keep 22 = .ok (.iaload, 1) := by decide +kernel
theorem dR_keep_23 : decode cR_keep 23 = .ok (.iastore, 1) := by decide +kernel
theorem dR_keep_24 : decode cR_keep 24 = .ok (.aload_n 0, 1) := by decide +kernel
theorem dR_keep_25 : decode cR_keep 25 = .ok (.getfield 60, 3) := by decide +kernel
theorem dR_keep_28 : decode cR_keep 28 = .ok (.iconst 0, 1) := by decide +kernel
theorem dR_keep_29 : decode cR_keep 29 = .ok (.iload_n 1, 1) := by decide +kernel
theorem dR_keep_30 : decode cR_keep 30 = .ok (.iastore, 1) := by decide +kernel
theorem dR_keep_31 : decode cR_keep 31 = .ok (.aload_n 0, 1) := by decide +kernel
theorem dR_keep_32 : decode cR_keep 32 = .ok (.getfield 63, 3) := by decide +kernel
theorem dR_keep_35 : decode cR_keep 35 = .ok (.iconst 0, 1) := by decide +kernel
theorem dR_keep_36 : decode cR_keep 36 = .ok (.iload_n 2, 1) := by decide +kernel
theorem dR_keep_37 : decode cR_keep 37 = .ok (.iastore, 1) := by decide +kernel
theorem dR_keep_38 : decode cR_keep 38 = .ok (.return_, 1) := by decide +kernel
theorem dR_readPacked_0 : decode cR_readPacked 0 = .ok (.iconst 0, 1) := by decide +kernel
theorem dR_readPacked_1 : decode cR_readPacked 1 = .ok (.istore_n 3, 1) := by decide +kernel
theorem dR_readPacked_2 : decode cR_readPacked 2 = .ok (.aload_n 0, 1) := by decide +kernel
theorem dR_readPacked_3 : decode cR_readPacked 3 = .ok (.iload_n 1, 1) := by decide +kernel
theorem dR_readPacked_4 : decode cR_readPacked 4 = .ok (.iload_n 3, 1) := by decide +kernel
theorem dR_readPacked_5 : decode cR_readPacked 5 = .ok (.invokevirtual 159, 3) := by decide +kernel
theorem dR_readPacked_8 : decode cR_readPacked 8 = .ok (.iload_n 2, 1) := by decide +kernel
theorem dR_readPacked_9 : decode cR_readPacked 9 = .ok (.if_icmp .gt 9, 3) := by decide +kernel
theorem dR_readPacked_12 : decode cR_readPacked 12 = .ok (.iinc 3 1, 3) := by decide +kernel
theorem dR_readPacked_15 : decode cR_readPacked 15 = .ok (.goto (-13), 3) := by decide +kernel
theorem dR_readPacked_18 : decode cR_readPacked 18 = .ok (.aload_n 0, 1) := by decide +kernel
theorem dR_readPacked_19 : decode cR_readPacked 19 = .ok (.getfield 60, 3) := by decide +kernel
theorem dR_readPacked_22 : decode cR_readPacked 22 = .ok (.iconst 0, 1) := by decide +kernel
theorem dR_readPacked_23 : decode cR_readPacked 23 = .ok (.iaload, 1) := by decide +kernel
theorem dR_readPacked_24 : decode cR_readPacked 24 = .ok (.iload_n 1, 1) := by decide +kernel
theorem dR_readPacked_25 : decode cR_readPacked 25 = .ok (.if_icmp .ne 17, 3) := by decide +kernel
theorem dR_readPacked_28 : decode cR_readPacked 28 = .ok (.aload_n 0, 1) := by decide +kernel
theorem dR_readPacked_29 : decode cR_readPacked 29 = .ok (.getfield 63, 3) := by decide +kernel
theorem dR_readPacked_32 : decode cR_readPacked 32 = .ok (.iconst 0, 1) := by decide +kernel
theorem dR_readPacked_33 : decode cR_readPacked 33 = .ok (.iaload, 1) := by decide +kernel
theorem dR_readPacked_34 : decode cR_readPacked 34 = .ok (.iload_n 3, 1) := by decide +kernel
theorem dR_readPacked_35 : decode cR_readPacked 35 = .ok (.if_icmp .ne 7, 3) := by decide +kernel
theorem dR_readPacked_38 : decode cR_readPacked 38 = .ok (.iconst 1, 1) := by decide +kernel
theorem dR_readPacked_39 : decode cR_readPacked 39 = .ok (.goto 4, 3) := by decide +kernel
theorem dR_readPacked_42 : decode cR_readPacked 42 = .ok (.iconst 0, 1) := by decide +kernel
theorem dR_readPacked_43 : decode cR_readPacked 43 = .ok (.istore 4, 2) := by decide +kernel
theorem dR_readPacked_45 : decode cR_readPacked 45 = .ok (.iload 4, 2) := by decide +kernel
theorem dR_readPacked_47 : decode cR_readPacked 47 = .ok (.ifCond .ne 23, 3) := by decide +kernel
theorem dR_readPacked_50 : decode cR_readPacked 50 = .ok (.aload_n 0, 1) := by decide +kernel
theorem dR_readPacked_51 : decode cR_readPacked 51 = .ok (.getfield 60, 3) := by decide +kernel
theorem dR_readPacked_54 : decode cR_readPacked 54 = .ok (.iconst 1, 1) := by decide +kernel
theorem dR_readPacked_55 : decode cR_readPacked 55 = .ok (.iaload, 1) := by decide +kernel
theorem dR_readPacked_56 : decode cR_readPacked 56 = .ok (.iload_n 1, 1) := by decide +kernel
theorem dR_readPacked_57 : decode cR_readPacked 57 = .ok (.if_icmp .ne 17, 3) := by decide +kernel
theorem dR_readPacked_60 : decode cR_readPacked 60 = .ok (.aload_n 0, 1) := by decide +kernel
theorem dR_readPacked_61 : decode cR_readPacked 61 = .ok (.getfield 63, 3) := by decide +kernel
theorem dR_readPacked_64 : decode cR_readPacked 64 = .ok (.iconst 1, 1) := by decide +kernel
theorem dR_readPacked_65 : decode cR_readPacked 65 = .ok (.iaload, 1) := by decide +kernel
theorem dR_readPacked_66 : decode cR_readPacked 66 = .ok (.iload_n 3, 1) := by decide +kernel
theorem dR_readPacked_67 : decode cR_readPacked 67 = .ok (.if_icmp .ne 7, 3) := by decide +kernel
theorem dR_readPacked_70 : decode cR_readPacked 70 = .ok (.iconst 1, 1) := by decide +kernel
theorem dR_readPacked_71 : decode cR_readPacked 71 = .ok (.goto 4, 3) := by decide +kernel
theorem dR_readPacked_74 : decode cR_readPacked 74 = .ok (.iconst 0, 1) := by decide +kernel
theorem dR_readPacked_75 : decode cR_readPacked 75 = .ok (.istore 5, 2) := by decide +kernel
theorem dR_readPacked_77 : decode cR_readPacked 77 = .ok (.aload_n 0, 1) := by decide +kernel
theorem dR_readPacked_78 : decode cR_readPacked 78 = .ok (.dup, 1) := by decide +kernel
theorem dR_readPacked_79 : decode cR_readPacked 79 = .ok (.getfield 149, 3) := by decide +kernel
theorem dR_readPacked_82 : decode cR_readPacked 82 = .ok (.iload 5, 2) := by decide +kernel
theorem dR_readPacked_84 : decode cR_readPacked 84 = .ok (.ifCond .eq 7, 3) := by decide +kernel
theorem dR_readPacked_87 : decode cR_readPacked 87 = .ok (.iconst 1, 1) := by decide +kernel
theorem dR_readPacked_88 : decode cR_readPacked 88 = .ok (.goto 4, 3) := by decide +kernel
theorem dR_readPacked_91 : decode cR_readPacked 91 = .ok (.iconst 0, 1) := by decide +kernel
theorem dR_readPacked_92 : decode cR_readPacked 92 = .ok (.iadd, 1) := by decide +kernel
theorem dR_readPacked_93 : decode cR_readPacked 93 = .ok (.putfield 149, 3) := by decide +kernel
theorem dR_readPacked_96 : decode cR_readPacked 96 = .ok (.aload_n 0, 1) := by decide +kernel
theorem dR_readPacked_97 : decode cR_readPacked 97 = .ok (.dup, 1) := by decide +kernel
theorem dR_readPacked_98 : decode cR_readPacked 98 = .ok (.getfield 152, 3) := by decide +kernel
theorem dR_readPacked_101 : decode cR_readPacked 101 = .ok (.iload 5, 2) := by decide +kernel
theorem dR_readPacked_103 : decode cR_readPacked 103 = .ok (.ifCond .eq 7, 3) := by decide +kernel
theorem dR_readPacked_106 : decode cR_readPacked 106 = .ok (.iconst 0, 1) := by decide +kernel
theorem dR_readPacked_107 : decode cR_readPacked 107 = .ok (.goto 4, 3) := by decide +kernel
theorem dR_readPacked_110 : decode cR_readPacked 110 = .ok (.iconst 1, 1) := by decide +kernel
theorem dR_readPacked_111 : decode cR_readPacked 111 = .ok (.iadd, 1) := by decide +kernel
theorem dR_readPacked_112 : decode cR_readPacked 112 = .ok (.putfield 152, 3) := by decide +kernel
theorem dR_readPacked_115 : decode cR_readPacked 115 = .ok (.aload_n 0, 1) := by decide +kernel
theorem dR_readPacked_116 : decode cR_readPacked 116 = .ok (.iload_n 1, 1) := by decide +kernel
theorem dR_readPacked_117 : decode cR_readPacked 117 = .ok (.iload_n 3, 1) := by decide +kernel
theorem dR_readPacked_118 : decode cR_readPacked 118 = .ok (.invokevirtual 180, 3) := by decide +kernel
theorem dR_readPacked_121 : decode cR_readPacked 121 = .ok (.ifCond .ne 9, 3) := by decide +kernel
theorem dR_readPacked_124 : decode cR_readPacked 124 = .ok (.aload_n 0, 1) := by decide +kernel
theorem dR_readPacked_125 : decode cR_readPacked 125 = .ok (.iconst 1, 1) := by decide +kernel
theorem dR_readPacked_126 : decode cR_readPacked 126 = .ok (.invokevirtual 125, 3) := by decide +kernel
theorem dR_readPacked_129 : decode cR_readPacked 129 = .ok (.ireturn, 1) := by decide +kernel
theorem dR_readPacked_130 : decode cR_readPacked 130 = .ok (.iload 4, 2) := by decide +kernel
theorem dR_readPacked_132 : decode cR_readPacked 132 = .ok (.ifCond .ne 9, 3) := by decide +kernel
theorem dR_readPacked_135 : decode cR_readPacked 135 = .ok (.aload_n 0, 1) := by decide +kernel
theorem dR_readPacked_136 : decode cR_readPacked 136 = .ok (.iload_n 1, 1) := by decide +kernel
theorem dR_readPacked_137 : decode cR_readPacked 137 = .ok (.iload_n 3, 1) := by decide +kernel
theorem dR_readPacked_138 : decode cR_readPacked 138 = .ok (.invokevirtual 183, 3) := by decide +kernel
theorem dR_readPacked_141 : decode cR_readPacked 141 = .ok (.aload_n 0, 1) := by decide +kernel
theorem dR_readPacked_142 : decode cR_readPacked 142 = .ok (.getfield 57, 3) := by decide +kernel
theorem dR_readPacked_145 : decode cR_readPacked 145 = .ok (.iload_n 2, 1) := by decide +kernel
theorem dR_readPacked_146 : decode cR_readPacked 146 = .ok (.aload_n 0, 1) := by decide +kernel
theorem dR_readPacked_147 : decode cR_readPacked 147 = .ok (.iload_n 1, 1) := by decide +kernel
theorem dR_readPacked_148 : decode cR_readPacked 148 = .ok (.iload_n 3, 1) := by decide +kernel
theorem dR_readPacked_149 : decode cR_readPacked 149 = .ok (.iconst 1, 1) := by decide +kernel
theorem dR_readPacked_150 : decode cR_readPacked 150 = .ok (.isub, 1) := by decide +kernel
theorem dR_readPacked_151 : decode cR_readPacked 151 = .ok (.invokevirtual 159, 3) := by decide +kernel
theorem dR_readPacked_154 : decode cR_readPacked 154 = .ok (.isub, 1) := by decide +kernel
theorem dR_readPacked_155 : decode cR_readPacked 155 = .ok (.iaload, 1) := by decide +kernel
theorem dR_readPacked_156 : decode cR_readPacked 156 = .ok (.ireturn, 1) := by decide +kernel
theorem dR_read_0 : decode cR_read 0 = .ok (.aload_n 0, 1) := by decide +kernel
theorem dR_read_1 : decode cR_read 1 = .ok (.aload_n 0, 1) := by decide +kernel
theorem dR_read_2 : decode cR_read 2 = .ok (.getfield 132, 3) := by decide +kernel
theorem dR_read_5 : decode cR_read 5 = .ok (.ifCond .ne 7, 3) := by decide +kernel
theorem dR_read_8 : decode cR_read 8 = .ok (.iconst 1, 1) := by decide +kernel
theorem dR_read_9 : decode cR_read 9 = .ok (.goto 45, 3) := by decide +kernel
theorem dR_read_12 : decode cR_read 12 = .ok (.aload_n 0, 1) := by decide +kernel
theorem dR_read_13 : decode cR_read 13 = .ok (.iload_n 1, 1) := by decide +kernel
theorem dR_read_14 : decode cR_read 14 = .ok (.invokevirtual 174, 3) := by decide +kernel
theorem dR_read_17 : decode cR_read 17 = .ok (.ifCond .ne 7, 3) := by decide +kernel
theorem dR_read_20 : decode cR_read 20 = .ok (.iconst 2, 1) := by decide +kernel
theorem dR_read_21 : decode cR_read 21 = .ok (.goto 33, 3) := by decide +kernel
theorem dR_read_24 : decode cR_read 24 = .ok (.aload_n 0, 1) := by decide +kernel
theorem dR_read_25 : decode cR_read 25 = .ok (.iload_n 1, 1) := by decide +kernel
theorem dR_read_26 : decode cR_read 26 = .ok (.invokevirtual 177, 3) := by decide +kernel
theorem dR_read_29 : decode cR_read 29 = .ok (.ifCond .eq 7, 3) := by decide +kernel
theorem dR_read_32 : decode cR_read 32 = .ok (.iconst 1, 1) := by decide +kernel
theorem dR_read_33 : decode cR_read 33 = .ok (.goto 21, 3) := by decide +kernel
theorem dR_read_36 : decode cR_read 36 = .ok (.iload_n 2, 1) := by decide +kernel
theorem dR_read_37 : decode cR_read 37 = .ok (.ifCond .lt 12, 3) := by decide +kernel
theorem dR_read_40 : decode cR_read 40 = .ok (.iload_n 2, 1) := by decide +kernel
theorem dR_read_41 : decode cR_read 41 = .ok (.aload_n 0, 1) := by decide +kernel
theorem dR_read_42 : decode cR_read 42 = .ok (.iload_n 1, 1) := by decide +kernel
theorem dR_read_43 : decode cR_read 43 = .ok (.invokevirtual 162, 3) := by decide +kernel
theorem dR_read_46 : decode cR_read 46 = .ok (.if_icmp .lt 7, 3) := by decide +kernel
theorem dR_read_49 : decode cR_read 49 = .ok (.iconst 2, 1) := by decide +kernel
theorem dR_read_50 : decode cR_read 50 = .ok (.goto 4, 3) := by decide +kernel
theorem dR_read_53 : decode cR_read 53 = .ok (.iconst 0, 1) := by decide +kernel
theorem dR_read_54 : decode cR_read 54 = .ok (.putfield 69, 3) := by decide +kernel
theorem dR_read_57 : decode cR_read 57 = .ok (.aload_n 0, 1) := by decide +kernel
theorem dR_read_58 : decode cR_read 58 = .ok (.getfield 69, 3) := by decide +kernel
theorem dR_read_61 : decode cR_read 61 = .ok (.ifCond .le 5, 3) := by decide +kernel
theorem dR_read_64 : decode cR_read 64 = .ok (.iconst 0, 1) := by decide +kernel
theorem dR_read_65 : decode cR_read 65 = .ok (.ireturn, 1) := by decide +kernel
theorem dR_read_66 : decode cR_read 66 = .ok (.aload_n 0, 1) := by decide +kernel
theorem dR_read_67 : decode cR_read 67 = .ok (.iload_n 1, 1) := by decide +kernel
theorem dR_read_68 : decode cR_read 68 = .ok (.iconst 3, 1) := by decide +kernel
theorem dR_read_69 : decode cR_read 69 = .ok (.invokevirtual 165, 3) := by decide +kernel
theorem dR_read_72 : decode cR_read 72 = .ok (.iconst 2, 1) := by decide +kernel
theorem dR_read_73 : decode cR_read 73 = .ok (.if_icmp .ne 12, 3) := by decide +kernel
theorem dR_read_76 : decode cR_read 76 = .ok (.aload_n 0, 1) := by decide +kernel
theorem dR_read_77 : decode cR_read 77 = .ok (.iload_n 1, 1) := by decide +kernel
theorem dR_read_78 : decode cR_read 78 = .ok (.iload_n 2, 1) := by decide +kernel
theorem dR_read_79 : decode cR_read 79 = .ok (.invokevirtual 186, 3) := by decide +kernel
theorem dR_read_82 : decode cR_read 82 = .ok (.goto 9, 3) := by decide +kernel
theorem dR_read_85 : decode cR_read 85 = .ok (.aload_n 0, 1) := by decide +kernel
theorem dR_read_86 : decode cR_read 86 = .ok (.iload_n 1, 1) := by decide +kernel
theorem dR_read_87 : decode cR_read 87 = .ok (.iload_n 2, 1) := by decide +kernel
theorem dR_read_88 : decode cR_read 88 = .ok (.invokevirtual 189, 3) := by decide +kernel
theorem dR_read_91 : decode cR_read 91 = .ok (.ireturn, 1) := by decide +kernel
theorem dR_search_0 : decode cR_search 0 = .ok (.iconst 0, 1) := by decide +kernel
theorem dR_search_1 : decode cR_search 1 = .ok (.istore_n 3, 1) := by decide +kernel
theorem dR_search_2 : decode cR_search 2 = .ok (.aload_n 0, 1) := by decide +kernel
theorem dR_search_3 : decode cR_search 3 = .ok (.iload_n 1, 1) := by decide +kernel
theorem dR_search_4 : decode cR_search 4 = .ok (.invokevirtual 162, 3) := by decide +kernel
theorem dR_search_7 : decode cR_search 7 = .ok (.iconst 3, 1) := by decide +kernel
theorem dR_search_8 : decode cR_search 8 = .ok (.idiv, 1) := by decide +kernel
theorem dR_search_9 : decode cR_search 9 = .ok (.istore 4, 2) := by decide +kernel
theorem dR_search_11 : decode cR_search 11 = .ok (.iconst (-1), 1) := by decide +kernel
theorem dR_search_12 : decode cR_search 12 = .ok (.istore 5, 2) := by decide +kernel
theorem dR_search_14 : decode cR_search 14 = .ok (.iload 5, 2) := by decide +kernel
theorem dR_search_16 : decode cR_search 16 = .ok (.iconst (-1), 1) := by decide +kernel
theorem dR_search_17 : decode cR_search 17 = .ok (.if_icmp .ne 84, 3) := by decide +kernel
theorem dR_search_20 : decode cR_search 20 = .ok (.iload_n 3, 1) := by decide +kernel
theorem dR_search_21 : decode cR_search 21 = .ok (.iload 4, 2) := by decide +kernel
theorem dR_search_23 : decode cR_search 23 = .ok (.if_icmp .ge 78, 3) := by decide +kernel
theorem dR_search_26 : decode cR_search 26 = .ok (.iload_n 3, 1) := by decide +kernel
theorem dR_search_27 : decode cR_search 27 = .ok (.iload 4, 2) := by decide +kernel
theorem dR_search_29 : decode cR_search 29 = .ok (.iadd, 1) := by decide +kernel
theorem dR_search_30 : decode cR_search 30 = .ok (.iconst 2, 1) := by decide +kernel
theorem dR_search_31 : decode cR_search 31 = .ok (.idiv, 1) := by decide +kernel
theorem dR_search_32 : decode cR_search 32 = .ok (.istore 6, 2) := by decide +kernel
theorem dR_search_34 : decode cR_search 34 = .ok (.aload_n 0, 1) := by decide +kernel
theorem dR_search_35 : decode cR_search 35 = .ok (.iload_n 1, 1) := by decide +kernel
theorem dR_search_36 : decode cR_search 36 = .ok (.iconst 3, 1) := by decide +kernel
theorem dR_search_37 : decode cR_search 37 = .ok (.iload 6, 2) := by decide +kernel
theorem dR_search_39 : decode cR_search 39 = .ok (.imul, 1) := by decide +kernel
theorem dR_search_40 : decode cR_search 40 = .ok (.invokevirtual 189, 3) := by decide +kernel
theorem dR_search_43 : decode cR_search 43 = .ok (.istore 7, 2) := by decide +kernel
theorem dR_search_45 : decode cR_search 45 = .ok (.iload 7, 2) := by decide +kernel
theorem dR_search_47 : decode cR_search 47 = .ok (.iload_n 2, 1) := by decide +kernel
theorem dR_search_48 : decode cR_search 48 = .ok (.if_icmp .ne 17, 3) := by decide +kernel
theorem dR_search_51 : decode cR_search 51 = .ok (.aload_n 0, 1) := by decide +kernel
theorem dR_search_52 : decode cR_search 52 = .ok (.iload_n 1, 1) := by decide +kernel
theorem dR_search_53 : decode cR_search 53 = .ok (.iconst 3, 1) := by decide +kernel
theorem dR_search_54 : decode cR_search 54 = .ok (.iload 6, 2) := by decide +kernel
theorem dR_search_56 : decode cR_search 56 = .ok (.imul, 1) := by decide +kernel
theorem dR_search_57 : decode cR_search 57 = .ok (.iconst 1, 1) := by decide +kernel
theorem dR_search_58 : decode cR_search 58 = .ok (.iadd, 1) := by decide +kernel
theorem dR_search_59 : decode cR_search 59 = .ok (.invokevirtual 189, 3) := by decide +kernel
theorem dR_search_62 : decode cR_search 62 = .ok (.goto 4, 3) := by decide +kernel
theorem dR_search_65 : decode cR_search 65 = .ok (.iconst (-1), 1) := by decide +kernel
theorem dR_search_66 : decode cR_search 66 = .ok (.istore 5, 2) := by decide +kernel
theorem dR_search_68 : decode cR_search 68 = .ok (.iload 7, 2) := by decide +kernel
theorem dR_search_70 : decode cR_search 70 = .ok (.iload_n 2, 1) := by decide +kernel
theorem dR_search_71 : decode cR_search 71 = .ok (.if_icmp .le 8, 3) := by decide +kernel
theorem dR_search_74 : decode cR_search 74 = .ok (.iload 6, 2) := by decide +kernel
theorem dR_search_76 : decode cR_search 76 = .ok (.goto 5, 3) := by decide +kernel
theorem dR_search_79 : decode cR_search 79 = .ok (.iload 4, 2) := by decide +kernel
theorem dR_search_81 : decode cR_search 81 = .ok (.istore 4, 2) := by decide +kernel
theorem dR_search_83 : decode cR_search 83 = .ok (.iload 7, 2) := by decide +kernel
theorem dR_search_85 : decode cR_search 85 = .ok (.iload_n 2, 1) := by decide +kernel
theorem dR_search_86 : decode cR_search 86 = .ok (.if_icmp .ge 10, 3) := by decide +kernel
theorem dR_search_89 : decode cR_search 89 = .ok (.iload 6, 2) := by decide +kernel
theorem dR_search_91 : decode cR_search 91 = .ok (.iconst 1, 1) := by decide +kernel
theorem dR_search_92 : decode cR_search 92 = .ok (.iadd, 1) := by decide +kernel
theorem dR_search_93 : decode cR_search 93 = .ok (.goto 4, 3) := by decide +kernel
theorem dR_search_96 : decode cR_search 96 = .ok (.iload_n 3, 1) := by decide +kernel
theorem dR_search_97 : decode cR_search 97 = .ok (.istore_n 3, 1) := by decide +kernel
theorem dR_search_98 : decode cR_search 98 = .ok (.goto (-84), 3) := by decide +kernel
theorem dR_search_101 : decode cR_search 101 = .ok (.iload 5, 2) := by decide +kernel
theorem dR_search_103 : decode cR_search 103 = .ok (.ireturn, 1) := by decide +kernel
theorem dR_find_0 : decode cR_find 0 = .ok (.aload_n 0, 1) := by decide +kernel
theorem dR_find_1 : decode cR_find 1 = .ok (.aload_n 0, 1) := by decide +kernel
theorem dR_find_2 : decode cR_find 2 = .ok (.getfield 132, 3) := by decide +kernel
theorem dR_find_5 : decode cR_find 5 = .ok (.ifCond .ne 7, 3) := by decide +kernel
theorem dR_find_8 : decode cR_find 8 = .ok (.iconst 1, 1) := by decide +kernel
theorem dR_find_9 : decode cR_find 9 = .ok (.goto 41, 3) := by decide +kernel
theorem dR_find_12 : decode cR_find 12 = .ok (.aload_n 0, 1) := by decide +kernel
theorem dR_find_13 : decode cR_find 13 = .ok (.iload_n 1, 1) := by decide +kernel
theorem dR_find_14 : decode cR_find 14 = .ok (.invokevirtual 174, 3) := by decide +kernel
theorem dR_find_17 : decode cR_find 17 = .ok (.ifCond .ne 7, 3) := by decide +kernel
theorem dR_find_20 : decode cR_find 20 = .ok (.iconst 2, 1) := by decide +kernel
theorem dR_find_21 : decode cR_find 21 = .ok (.goto 29, 3) := by decide +kernel
theorem dR_find_24 : decode cR_find 24 = .ok (.aload_n 0, 1) := by decide +kernel
theorem dR_find_25 : decode cR_find 25 = .ok (.iload_n 1, 1) := by decide +kernel
theorem dR_find_26 : decode cR_find 26 = .ok (.iconst 1, 1) := by decide +kernel
theorem dR_find_27 : decode cR_find 27 = .ok (.invokevirtual 165, 3) := by decide +kernel
theorem dR_find_30 : decode cR_find 30 = .ok (.ifCond .eq 7, 3) := by decide +kernel
theorem dR_find_33 : decode cR_find 33 = .ok (.iconst 3, 1) := by decide +kernel
theorem dR_find_34 : decode cR_find 34 = .ok (.goto 16, 3) := by decide +kernel
theorem dR_find_37 : decode cR_find 37 = .ok (.aload_n 0, 1) := by decide +kernel
theorem dR_find_38 : decode cR_find 38 = .ok (.iload_n 1, 1) := by decide +kernel
theorem dR_find_39 : decode cR_find 39 = .ok (.invokevirtual 177, 3) := by decide +kernel
theorem dR_find_42 : decode cR_find 42 = .ok (.ifCond .eq 7, 3) := by decide +kernel
theorem dR_find_45 : decode cR_find 45 = .ok (.iconst 1, 1) := by decide +kernel
theorem dR_find_46 : decode cR_find 46 = .ok (.goto 4, 3) := by decide +kernel
theorem dR_find_49 : decode cR_find 49 = .ok (.iconst 0, 1) := by decide +kernel
theorem dR_find_50 : decode cR_find 50 = .ok (.putfield 69, 3) := by decide +kernel
theorem dR_find_53 : decode cR_find 53 = .ok (.aload_n 0, 1) := by decide +kernel
theorem dR_find_54 : decode cR_find 54 = .ok (.getfield 69, 3) := by decide +kernel
theorem dR_find_57 : decode cR_find 57 = .ok (.ifCond .le 7, 3) := by decide +kernel
theorem dR_find_60 : decode cR_find 60 = .ok (.iconst 0, 1) := by decide +kernel
theorem dR_find_61 : decode cR_find 61 = .ok (.goto 9, 3) := by decide +kernel
theorem dR_find_64 : decode cR_find 64 = .ok (.aload_n 0, 1) := by decide +kernel
theorem dR_find_65 : decode cR_find 65 = .ok (.iload_n 1, 1) := by decide +kernel
theorem dR_find_66 : decode cR_find 66 = .ok (.iload_n 2, 1) := by decide +kernel
theorem dR_find_67 : decode cR_find 67 = .ok (.invokevirtual 192, 3) := by decide +kernel
theorem dR_find_70 : decode cR_find 70 = .ok (.ireturn, 1) := by decide +kernel
theorem dR_push_0 : decode cR_push 0 = .ok (.aload_n 0, 1) := by decide +kernel
theorem dR_push_1 : decode cR_push 1 = .ok (.getfield 66, 3) := by decide +kernel
theorem dR_push_4 : decode cR_push 4 = .ok (.aload_n 0, 1) := by decide +kernel
theorem dR_push_5 : decode cR_push 5 = .ok (.getfield 195, 3) := by decide +kernel
theorem dR_push_8 : decode cR_push 8 = .ok (.iload_n 1, 1) := by decide +kernel
theorem dR_push_9 : decode cR_push 9 = .ok (.iastore, 1) := by decide +kernel
theorem dR_push_10 : decode cR_push 10 = .ok (.aload_n 0, 1) := by decide +kernel
theorem dR_push_11 : decode cR_push 11 = .ok (.dup, 1) := by decide +kernel
theorem dR_push_12 : decode cR_push 12 = .ok (.getfield 195, 3) := by decide +kernel
theorem dR_push_15 : decode cR_push 15 = .ok (.iconst 1, 1) := by decide +kernel
theorem dR_push_16 : decode cR_push 16 = .ok (.iadd, 1) := by decide +kernel
theorem dR_push_17 : decode cR_push 17 = .ok (.putfield 195, 3) := by decide +kernel
theorem dR_push_20 : decode cR_push 20 = .ok (.return_, 1) := by decide +kernel
theorem dR_isSound_0 : decode cR_isSound 0 = .ok (.aload_n 0, 1) := by decide +kernel
theorem dR_isSound_1 : decode cR_isSound 1 = .ok (.iload_n 1, 1) := by decide +kernel
theorem dR_isSound_2 : decode cR_isSound 2 = .ok (.invokevirtual 174, 3) := by decide +kernel
theorem dR_isSound_5 : decode cR_isSound 5 = .ok (.ifCond .eq 15, 3) := by decide +kernel
theorem dR_isSound_8 : decode cR_isSound 8 = .ok (.aload_n 0, 1) := by decide +kernel
theorem dR_isSound_9 : decode cR_isSound 9 = .ok (.iload_n 1, 1) := by decide +kernel
theorem dR_isSound_10 : decode cR_isSound 10 = .ok (.invokevirtual 177, 3) := by decide +kernel
theorem dR_isSound_13 : decode cR_isSound 13 = .ok (.ifCond .ne 7, 3) := by decide +kernel
theorem dR_isSound_16 : decode cR_isSound 16 = .ok (.iconst 1, 1) := by decide +kernel
theorem dR_isSound_17 : decode cR_isSound 17 = .ok (.goto 4, 3) := by decide +kernel
theorem dR_isSound_20 : decode cR_isSound 20 = .ok (.iconst 0, 1) := by decide +kernel
theorem dR_isSound_21 : decode cR_isSound 21 = .ok (.ireturn, 1) := by decide +kernel
theorem dR_resolve_0 : decode cR_resolve 0 = .ok (.aload_n 0, 1) := by decide +kernel
theorem dR_resolve_1 : decode cR_resolve 1 = .ok (.aload_n 0, 1) := by decide +kernel
theorem dR_resolve_2 : decode cR_resolve 2 = .ok (.getfield 132, 3) := by decide +kernel
theorem dR_resolve_5 : decode cR_resolve 5 = .ok (.ifCond .eq 15, 3) := by decide +kernel
theorem dR_resolve_8 : decode cR_resolve 8 = .ok (.aload_n 0, 1) := by decide +kernel
theorem dR_resolve_9 : decode cR_resolve 9 = .ok (.iconst 0, 1) := by decide +kernel
theorem dR_resolve_10 : decode cR_resolve 10 = .ok (.invokevirtual 198, 3) := by decide +kernel
theorem dR_resolve_13 : decode cR_resolve 13 = .ok (.ifCond .eq 7, 3) := by decide +kernel
theorem dR_resolve_16 : decode cR_resolve 16 = .ok (.iconst 0, 1) := by decide +kernel
theorem dR_resolve_17 : decode cR_resolve 17 = .ok (.goto 4, 3) := by decide +kernel
theorem dR_resolve_20 : decode cR_resolve 20 = .ok (.iconst 1, 1) := by decide +kernel
theorem dR_resolve_21 : decode cR_resolve 21 = .ok (.putfield 69, 3) := by decide +kernel
theorem dR_resolve_24 : decode cR_resolve 24 = .ok (.aload_n 0, 1) := by decide +kernel
theorem dR_resolve_25 : decode cR_resolve 25 = .ok (.getfield 69, 3) := by decide +kernel
theorem dR_resolve_28 : decode cR_resolve 28 = .ok (.ifCond .le 5, 3) := by decide +kernel
theorem dR_resolve_31 : decode cR_resolve 31 = .ok (.iconst 0, 1) := by decide +kernel
theorem dR_resolve_32 : decode cR_resolve 32 = .ok (.ireturn, 1) := by decide +kernel
theorem dR_resolve_33 : decode cR_resolve 33 = .ok (.iconst 0, 1) := by decide +kernel
theorem dR_resolve_34 : decode cR_resolve 34 = .ok (.istore_n 2, 1) := by decide +kernel
theorem dR_resolve_35 : decode cR_resolve 35 = .ok (.iload_n 2, 1) := by decide +kernel
theorem dR_resolve_36 : decode cR_resolve 36 = .ok (.iconst 4, 1) := by decide +kernel
theorem dR_resolve_37 : decode cR_resolve 37 = .ok (.if_icmp .ge 22, 3) := by decide +kernel
theorem dR_resolve_40 : decode cR_resolve 40 = .ok (.iload_n 1, 1) := by decide +kernel
theorem dR_resolve_41 : decode cR_resolve 41 = .ok (.bipush 8, 2) := by decide +kernel
theorem dR_resolve_43 : decode cR_resolve 43 = .ok (.iload_n 2, 1) := by decide +kernel
theorem dR_resolve_44 : decode cR_resolve 44 = .ok (.imul, 1) := by decide +kernel
theorem dR_resolve_45 : decode cR_resolve 45 = .ok (.ishr, 1) := by decide +kernel
theorem dR_resolve_46 : decode cR_resolve 46 = .ok (.sipush 255, 3) := by decide +kernel
theorem dR_resolve_49 : decode cR_resolve 49 = .ok (.iand, 1) := by decide +kernel
theorem dR_resolve_50 : decode cR_resolve 50 = .ok (.ifCond .le 9, 3) := by decide +kernel
theorem dR_resolve_53 : decode cR_resolve 53 = .ok (.iinc 2 1, 3) := by decide +kernel
theorem dR_resolve_56 : decode cR_resolve 56 = .ok (.goto (-21), 3) := by decide +kernel
theorem dR_resolve_59 : decode cR_resolve 59 = .ok (.aload_n 0, 1) := by decide +kernel
theorem dR_resolve_60 : decode cR_resolve 60 = .ok (.iconst 0, 1) := by decide +kernel
theorem dR_resolve_61 : decode cR_resolve 61 = .ok (.putfield 195, 3) := by decide +kernel
theorem dR_resolve_64 : decode cR_resolve 64 = .ok (.iload_n 2, 1) := by decide +kernel
theorem dR_resolve_65 : decode cR_resolve 65 = .ok (.iconst 1, 1) := by decide +kernel
theorem dR_resolve_66 : decode cR_resolve 66 = .ok (.isub, 1) := by decide +kernel
theorem dR_resolve_67 : decode cR_resolve 67 = .ok (.istore_n 3, 1) := by decide +kernel
theorem dR_resolve_68 : decode cR_resolve 68 = .ok (.iload_n 3, 1) := by decide +kernel
theorem dR_resolve_69 : decode cR_resolve 69 = .ok (.ifCond .lt 23, 3) := by decide +kernel
theorem dR_resolve_72 : decode cR_resolve 72 = .ok (.aload_n 0, 1) := by decide +kernel
theorem dR_resolve_73 : decode cR_resolve 73 = .ok (.iload_n 1, 1) := by decide +kernel
theorem dR_resolve_74 : decode cR_resolve 74 = .ok (.bipush 8, 2) := by decide +kernel
theorem dR_resolve_76 : decode cR_resolve 76 = .ok (.iload_n 3, 1) := by decide +kernel
theorem dR_resolve_77 : decode cR_resolve 77 = .ok (.imul, 1) := by decide +kernel
theorem dR_resolve_78 : decode cR_resolve 78 = .ok (.ishr, 1) := by decide +kernel
theorem dR_resolve_79 : decode cR_resolve 79 = .ok (.sipush 255, 3) := by decide +kernel
theorem dR_resolve_82 : decode cR_resolve 82 = .ok (.iand, 1) := by decide +kernel
theorem dR_resolve_83 : decode cR_resolve 83 = .ok (.invokevirtual 201, 3) := by decide +kernel
theorem dR_resolve_86 : decode cR_resolve 86 = .ok (.iinc 3 (-1), 3) := by decide +kernel
theorem dR_resolve_89 : decode cR_resolve 89 = .ok (.goto (-21), 3) := by decide +kernel
theorem dR_resolve_92 : decode cR_resolve 92 = .ok (.iconst 0, 1) := by decide +kernel
theorem dR_resolve_93 : decode cR_resolve 93 = .ok (.istore_n 3, 1) := by decide +kernel
theorem dR_resolve_94 : decode cR_resolve 94 = .ok (.iconst 0, 1) := by decide +kernel
theorem dR_resolve_95 : decode cR_resolve 95 = .ok (.istore 4, 2) := by decide +kernel
theorem dR_resolve_97 : decode cR_resolve 97 = .ok (.aload_n 0, 1) := by decide +kernel
theorem dR_resolve_98 : decode cR_resolve 98 = .ok (.getfield 195, 3) := by decide +kernel
theorem dR_resolve_101 : decode cR_resolve 101 = .ok (.ifCond .le 169, 3) := by decide +kernel
theorem dR_resolve_104 : decode cR_resolve 104 = .ok (.iload_n 3, 1) := by decide +kernel
theorem dR_resolve_105 : decode cR_resolve 105 = .ok (.iconst (-1), 1) := by decide +kernel
theorem dR_resolve_106 : decode cR_resolve 106 = .ok (.if_icmp .eq 164, 3) := by decide +kernel
theorem dR_resolve_109 : decode cR_resolve 109 = .ok (.aload_n 0, 1) := by decide +kernel
theorem dR_resolve_110 : decode cR_resolve 110 = .ok (.getfield 69, 3) := by decide +kernel
theorem dR_resolve_113 : decode cR_resolve 113 = .ok (.ifCond .ne 157, 3) := by decide +kernel
theorem dR_resolve_116 : decode cR_resolve 116 = .ok (.aload_n 0, 1) := by decide +kernel
theorem dR_resolve_117 : decode cR_resolve 117 = .ok (.dup, 1) := by decide +kernel
theorem dR_resolve_118 : decode cR_resolve 118 = .ok (.getfield 195, 3) := by decide +kernel
theorem dR_resolve_121 : decode cR_resolve 121 = .ok (.iconst 1, 1) := by decide +kernel
theorem dR_resolve_122 : decode cR_resolve 122 = .ok (.isub, 1) := by decide +kernel
theorem dR_resolve_123 : decode cR_resolve 123 = .ok (.putfield 195, 3) := by decide +kernel
theorem dR_resolve_126 : decode cR_resolve 126 = .ok (.aload_n 0, 1) := by decide +kernel
theorem dR_resolve_127 : decode cR_resolve 127 = .ok (.iload_n 3, 1) := by decide +kernel
theorem dR_resolve_128 : decode cR_resolve 128 = .ok (.iconst 1, 1) := by decide +kernel
theorem dR_resolve_129 : decode cR_resolve 129 = .ok (.invokevirtual 165, 3) := by decide +kernel
theorem dR_resolve_132 : decode cR_resolve 132 = .ok (.ifCond .ne 20, 3) := by decide +kernel
theorem dR_resolve_135 : decode cR_resolve 135 = .ok (.aload_n 0, 1) := by decide +kernel
theorem dR_resolve_136 : decode cR_resolve 136 = .ok (.iload_n 3, 1) := by decide +kernel
theorem dR_resolve_137 : decode cR_resolve 137 = .ok (.aload_n 0, 1) := by decide +kernel
theorem dR_resolve_138 : decode cR_resolve 138 = .ok (.getfield 66, 3) := by decide +kernel
theorem dR_resolve_141 : decode cR_resolve 141 = .ok (.aload_n 0, 1) := by decide +kernel
theorem dR_resolve_142 : decode cR_resolve 142 = .ok (.getfield 195, 3) := by decide +kernel
theorem dR_resolve_145 : decode cR_resolve 145 = .ok (.iaload, 1) := by decide +kernel
theorem dR_resolve_146 : decode cR_resolve 146 = .ok (.invokevirtual 192, 3) := by decide +kernel
theorem dR_resolve_149 : decode cR_resolve 149 = .ok (.goto 4, 3) := by decide +kernel
theorem dR_resolve_152 : decode cR_resolve 152 = .ok (.iconst (-1), 1) := by decide +kernel
theorem dR_resolve_153 : decode cR_resolve 153 = .ok (.istore_n 3, 1) := by decide +kernel
theorem dR_resolve_154 : decode cR_resolve 154 = .ok (.iload_n 3, 1) := by decide +kernel
theorem dR_resolve_155 : decode cR_resolve 155 = .ok (.iconst (-1), 1) := by decide +kernel
theorem dR_resolve_156 : decode cR_resolve 156 = .ok (.if_icmp .ne 6, 3) := by decide +kernel
theorem dR_resolve_159 : decode cR_resolve 159 = .ok (.goto (-62), 3) := by decide +kernel
theorem dR_resolve_162 : decode cR_resolve 162 = .ok (.aload_n 0, 1) := by decide +kernel
theorem dR_resolve_163 : decode cR_resolve 163 = .ok (.aload_n 0, 1) := by decide +kernel
theorem dR_resolve_164 : decode cR_resolve 164 = .ok (.iload_n 3, 1) := by decide +kernel
theorem dR_resolve_165 : decode cR_resolve 165 = .ok (.invokevirtual 198, 3) := by decide +kernel
theorem dR_resolve_168 : decode cR_resolve 168 = .ok (.ifCond .eq 7, 3) := by decide +kernel
theorem dR_resolve_171 : decode cR_resolve 171 = .ok (.iconst 0, 1) := by decide +kernel
theorem dR_resolve_172 : decode cR_resolve 172 = .ok (.goto 4, 3) := by decide +kernel
theorem dR_resolve_175 : decode cR_resolve 175 = .ok (.iconst 1, 1) := by decide +kernel
theorem dR_resolve_176 : decode cR_resolve 176 = .ok (.putfield 69, 3) := by decide +kernel
theorem dR_resolve_179 : decode cR_resolve 179 = .ok (.aload_n 0, 1) := by decide +kernel
theorem dR_resolve_180 : decode cR_resolve 180 = .ok (.getfield 69, 3) := by decide +kernel
theorem dR_resolve_183 : decode cR_resolve 183 = .ok (.ifCond .gt (-86), 3) := by decide +kernel
theorem dR_resolve_186 : decode cR_resolve 186 = .ok (.aload_n 0, 1) := by decide +kernel
theorem dR_resolve_187 : decode cR_resolve 187 = .ok (.iload_n 3, 1) := by decide +kernel
theorem dR_resolve_188 : decode cR_resolve 188 = .ok (.iconst 1, 1) := by decide +kernel
theorem dR_resolve_189 : decode cR_resolve 189 = .ok (.invokevirtual 165, 3) := by decide +kernel
theorem dR_resolve_192 : decode cR_resolve 192 = .ok (.iconst 2, 1) := by decide +kernel
theorem dR_resolve_193 : decode cR_resolve 193 = .ok (.if_icmp .eq 6, 3) := by decide +kernel
theorem dR_resolve_196 : decode cR_resolve 196 = .ok (.goto (-99), 3) := by decide +kernel
theorem dR_resolve_199 : decode cR_resolve 199 = .ok (.iinc 4 1, 3) := by decide +kernel
theorem dR_resolve_202 : decode cR_resolve 202 = .ok (.aload_n 0, 1) := by decide +kernel
theorem dR_resolve_203 : decode cR_resolve 203 = .ok (.iload_n 3, 1) := by decide +kernel
theorem dR_resolve_204 : decode cR_resolve 204 = .ok (.invokevirtual 162, 3) := by decide +kernel
theorem dR_resolve_207 : decode cR_resolve 207 = .ok (.istore 5, 2) := by decide +kernel
theorem dR_resolve_209 : decode cR_resolve 209 = .ok (.iload 5, 2) := by decide +kernel
theorem dR_resolve_211 : decode cR_resolve 211 = .ok (.iconst 1, 1) := by decide +kernel
theorem dR_resolve_212 : decode cR_resolve 212 = .ok (.isub, 1) := by decide +kernel
theorem dR_resolve_213 : decode cR_resolve 213 = .ok (.istore 6, 2) := by decide +kernel
theorem dR_resolve_215 : decode cR_resolve 215 = .ok (.iload 4, 2) := by decide +kernel
theorem dR_resolve_217 : decode cR_resolve 217 = .ok (.iconst 5, 1) := by decide +kernel
theorem dR_resolve_218 : decode cR_resolve 218 = .ok (.if_icmp .ge 31, 3) := by decide +kernel
theorem dR_resolve_221 : decode cR_resolve 221 = .ok (.iload 5, 2) := by decide +kernel
theorem dR_resolve_223 : decode cR_resolve 223 = .ok (.iconst 5, 1) := by decide +kernel
theorem dR_resolve_224 : decode cR_resolve 224 = .ok (.if_icmp .ge 25, 3) := by decide +kernel
theorem dR_resolve_227 : decode cR_resolve 227 = .ok (.iload 6, 2) := by decide +kernel
theorem dR_resolve_229 : decode cR_resolve 229 = .ok (.ifCond .lt 20, 3) := by decide +kernel
theorem dR_resolve_232 : decode cR_resolve 232 = .ok (.aload_n 0, 1) := by decide +kernel
theorem dR_resolve_233 : decode cR_resolve 233 = .ok (.aload_n 0, 1) := by decide +kernel
theorem dR_resolve_234 : decode cR_resolve 234 = .ok (.iload_n 3, 1) := by decide +kernel
theorem dR_resolve_235 : decode cR_resolve 235 = .ok (.iload 6, 2) := by decide +kernel
theorem dR_resolve_237 : decode cR_resolve 237 = .ok (.invokevirtual 189, 3) := by decide +kernel
theorem dR_resolve_240 : decode cR_resolve 240 = .ok (.invokevirtual 201, 3) := by decide +kernel
theorem dR_resolve_243 : decode cR_resolve 243 = .ok (.iinc 6 (-1), 3) := by decide +kernel
theorem dR_resolve_246 : decode cR_resolve 246 = .ok (.goto (-31), 3) := by decide +kernel
theorem dR_resolve_249 : decode cR_resolve 249 = .ok (.iload 4, 2) := by decide +kernel
theorem dR_resolve_251 : decode cR_resolve 251 = .ok (.iconst 5, 1) := by decide +kernel
theorem dR_resolve_252 : decode cR_resolve 252 = .ok (.if_icmp .ge 13, 3) := by decide +kernel
theorem dR_resolve_255 : decode cR_resolve 255 = .ok (.iload 5, 2) := by decide +kernel
theorem dR_resolve_257 : decode cR_resolve 257 = .ok (.iconst 5, 1) := by decide +kernel
theorem dR_resolve_258 : decode cR_resolve 258 = .ok (.if_icmp .ge 7, 3) := by decide +kernel
theorem dR_resolve_261 : decode cR_resolve 261 = .ok (.iconst 0, 1) := by decide +kernel
theorem dR_resolve_262 : decode cR_resolve 262 = .ok (.goto 4, 3) := by decide +kernel
theorem dR_resolve_265 : decode cR_resolve 265 = .ok (.iconst (-1), 1) := by decide +kernel
theorem dR_resolve_266 : decode cR_resolve 266 = .ok (.istore_n 3, 1) := by decide +kernel
theorem dR_resolve_267 : decode cR_resolve 267 = .ok (.goto (-170), 3) := by decide +kernel
theorem dR_resolve_270 : decode cR_resolve 270 = .ok (.aload_n 0, 1) := by decide +kernel
theorem dR_resolve_271 : decode cR_resolve 271 = .ok (.getfield 69, 3) := by decide +kernel
theorem dR_resolve_274 : decode cR_resolve 274 = .ok (.ifCond .le 7, 3) := by decide +kernel
theorem dR_resolve_277 : decode cR_resolve 277 = .ok (.iconst 0, 1) := by decide +kernel
theorem dR_resolve_278 : decode cR_resolve 278 = .ok (.goto 4, 3) := by decide +kernel
theorem dR_resolve_281 : decode cR_resolve 281 = .ok (.iload_n 3, 1) := by decide +kernel
theorem dR_resolve_282 : decode cR_resolve 282 = .ok (.ireturn, 1) := by decide +kernel
theorem dR_cache_0 : decode cR_cache 0 = .ok (.aload_n 0, 1) := by decide +kernel
theorem dR_cache_1 : decode cR_cache 1 = .ok (.iconst 0, 1) := by decide +kernel
theorem dR_cache_2 : decode cR_cache 2 = .ok (.putfield 69, 3) := by decide +kernel
theorem dR_cache_5 : decode cR_cache 5 = .ok (.aload_n 0, 1) := by decide +kernel
theorem dR_cache_6 : decode cR_cache 6 = .ok (.getfield 132, 3) := by decide +kernel
theorem dR_cache_9 : decode cR_cache 9 = .ok (.ifCond .ne 7, 3) := by decide +kernel
theorem dR_cache_12 : decode cR_cache 12 = .ok (.iconst 0, 1) := by decide +kernel
theorem dR_cache_13 : decode cR_cache 13 = .ok (.goto 18, 3) := by decide +kernel
theorem dR_cache_16 : decode cR_cache 16 = .ok (.iload_n 1, 1) := by decide +kernel
theorem dR_cache_17 : decode cR_cache 17 = .ok (.ifCond .eq 10, 3) := by decide +kernel
theorem dR_cache_20 : decode cR_cache 20 = .ok (.aload_n 0, 1) := by decide +kernel
theorem dR_cache_21 : decode cR_cache 21 = .ok (.getfield 149, 3) := by decide +kernel
theorem dR_cache_24 : decode cR_cache 24 = .ok (.goto 7, 3) := by decide +kernel
theorem dR_cache_27 : decode cR_cache 27 = .ok (.aload_n 0, 1) := by decide +kernel
theorem dR_cache_28 : decode cR_cache 28 = .ok (.getfield 152, 3) := by decide +kernel
theorem dR_cache_31 : decode cR_cache 31 = .ok (.ireturn, 1) := by decide +kernel
theorem dR_isWrong_0 : decode cR_isWrong 0 = .ok (.aload_n 0, 1) := by decide +kernel
theorem dR_isWrong_1 : decode cR_isWrong 1 = .ok (.iload_n 1, 1) := by decide +kernel
theorem dR_isWrong_2 : decode cR_isWrong 2 = .ok (.invokevirtual 177, 3) := by decide +kernel
theorem dR_isWrong_5 : decode cR_isWrong 5 = .ok (.ifCond .eq 5, 3) := by decide +kernel
theorem dR_isWrong_8 : decode cR_isWrong 8 = .ok (.iconst 1, 1) := by decide +kernel
theorem dR_isWrong_9 : decode cR_isWrong 9 = .ok (.ireturn, 1) := by decide +kernel
theorem dR_isWrong_10 : decode cR_isWrong 10 = .ok (.iconst 0, 1) := by decide +kernel
theorem dR_isWrong_11 : decode cR_isWrong 11 = .ok (.istore_n 2, 1) := by decide +kernel
theorem dR_isWrong_12 : decode cR_isWrong 12 = .ok (.iconst 0, 1) := by decide +kernel
theorem dR_isWrong_13 : decode cR_isWrong 13 = .ok (.istore_n 3, 1) := by decide +kernel
theorem dR_isWrong_14 : decode cR_isWrong 14 = .ok (.aload_n 0, 1) := by decide +kernel
theorem dR_isWrong_15 : decode cR_isWrong 15 = .ok (.iload_n 1, 1) := by decide +kernel
theorem dR_isWrong_16 : decode cR_isWrong 16 = .ok (.iconst 3, 1) := by decide +kernel
theorem dR_isWrong_17 : decode cR_isWrong 17 = .ok (.invokevirtual 165, 3) := by decide +kernel
theorem dR_isWrong_20 : decode cR_isWrong 20 = .ok (.iconst 2, 1) := by decide +kernel
theorem dR_isWrong_21 : decode cR_isWrong 21 = .ok (.if_icmp .ne 38, 3) := by decide +kernel
theorem dR_isWrong_24 : decode cR_isWrong 24 = .ok (.iload_n 3, 1) := by decide +kernel
theorem dR_isWrong_25 : decode cR_isWrong 25 = .ok (.aload_n 0, 1) := by decide +kernel
theorem dR_isWrong_26 : decode cR_isWrong 26 = .ok (.iload_n 1, 1) := by decide +kernel
theorem dR_isWrong_27 : decode cR_isWrong 27 = .ok (.iconst 0, 1) := by decide +kernel
theorem dR_isWrong_28 : decode cR_isWrong 28 = .ok (.invokevirtual 155, 3) := by decide +kernel
theorem dR_isWrong_31 : decode cR_isWrong 31 = .ok (.if_icmp .ge 28, 3) := by decide +kernel
theorem dR_isWrong_34 : decode cR_isWrong 34 = .ok (.iload_n 2, 1) := by decide +kernel
theorem dR_isWrong_35 : decode cR_isWrong 35 = .ok (.ifCond .ne 12, 3) := by decide +kernel
theorem dR_isWrong_38 : decode cR_isWrong 38 = .ok (.aload_n 0, 1) := by decide +kernel
theorem dR_isWrong_39 : decode cR_isWrong 39 = .ok (.iload_n 1, 1) := by decide +kernel
theorem dR_isWrong_40 : decode cR_isWrong 40 = .ok (.iload_n 3, 1) := by decide +kernel
theorem dR_isWrong_41 : decode cR_isWrong 41 = .ok (.invokevirtual 180, 3) := by decide +kernel
theorem dR_isWrong_44 : decode cR_isWrong 44 = .ok (.ifCond .ne 7, 3) := by decide +kernel
theorem dR_isWrong_47 : decode cR_isWrong 47 = .ok (.iconst 1, 1) := by decide +kernel
theorem dR_isWrong_48 : decode cR_isWrong 48 = .ok (.goto 4, 3) := by decide +kernel
theorem dR_isWrong_51 : decode cR_isWrong 51 = .ok (.iconst 0, 1) := by decide +kernel
theorem dR_isWrong_52 : decode cR_isWrong 52 = .ok (.istore_n 2, 1) := by decide +kernel
theorem dR_isWrong_53 : decode cR_isWrong 53 = .ok (.iinc 3 1, 3) := by decide +kernel
theorem dR_isWrong_56 : decode cR_isWrong 56 = .ok (.goto (-42), 3) := by decide +kernel
theorem dR_isWrong_59 : decode cR_isWrong 59 = .ok (.iconst (-1), 1) := by decide +kernel
theorem dR_isWrong_60 : decode cR_isWrong 60 = .ok (.istore_n 3, 1) := by decide +kernel
theorem dR_isWrong_61 : decode cR_isWrong 61 = .ok (.iconst 0, 1) := by decide +kernel
theorem dR_isWrong_62 : decode cR_isWrong 62 = .ok (.istore 4, 2) := by decide +kernel
theorem dR_isWrong_64 : decode cR_isWrong 64 = .ok (.aload_n 0, 1) := by decide +kernel
theorem dR_isWrong_65 : decode cR_isWrong 65 = .ok (.iload_n 1, 1) := by decide +kernel
theorem dR_isWrong_66 : decode cR_isWrong 66 = .ok (.iconst 1, 1) := by decide +kernel
theorem dR_isWrong_67 : decode cR_isWrong 67 = .ok (.invokevirtual 165, 3) := by decide +kernel
theorem dR_isWrong_70 : decode cR_isWrong 70 = .ok (.ifCond .ne 87, 3) := by decide +kernel
theorem dR_isWrong_73 : decode cR_isWrong 73 = .ok (.iload 4, 2) := by decide +kernel
theorem dR_isWrong_75 : decode cR_isWrong 75 = .ok (.aload_n 0, 1) := by decide +kernel
theorem dR_isWrong_76 : decode cR_isWrong 76 = .ok (.iload_n 1, 1) := by decide +kernel
theorem dR_isWrong_77 : decode cR_isWrong 77 = .ok (.invokevirtual 162, 3) := by decide +kernel
theorem dR_isWrong_80 : decode cR_isWrong 80 = .ok (.if_icmp .ge 77, 3) := by decide +kernel
theorem dR_isWrong_83 : decode cR_isWrong 83 = .ok (.aload_n 0, 1) := by decide +kernel
theorem dR_isWrong_84 : decode cR_isWrong 84 = .ok (.iload_n 1, 1) := by decide +kernel
theorem dR_isWrong_85 : decode cR_isWrong 85 = .ok (.iload 4, 2) := by decide +kernel
theorem dR_isWrong_87 : decode cR_isWrong 87 = .ok (.iconst 1, 1) := by decide +kernel
theorem dR_isWrong_88 : decode cR_isWrong 88 = .ok (.iadd, 1) := by decide +kernel
theorem dR_isWrong_89 : decode cR_isWrong 89 = .ok (.invokevirtual 189, 3) := by decide +kernel
theorem dR_isWrong_92 : decode cR_isWrong 92 = .ok (.istore 5, 2) := by decide +kernel
theorem dR_isWrong_94 : decode cR_isWrong 94 = .ok (.iload_n 2, 1) := by decide +kernel
theorem dR_isWrong_95 : decode cR_isWrong 95 = .ok (.ifCond .ne 42, 3) := by decide +kernel
theorem dR_isWrong_98 : decode cR_isWrong 98 = .ok (.aload_n 0, 1) := by decide +kernel
theorem dR_isWrong_99 : decode cR_isWrong 99 = .ok (.iload_n 1, 1) := by decide +kernel
theorem dR_isWrong_100 : decode cR_isWrong 100 = .ok (.iload 4, 2) := by decide +kernel
theorem dR_isWrong_102 : decode cR_isWrong 102 = .ok (.invokevirtual 189, 3) := by decide +kernel
theorem dR_isWrong_105 : decode cR_isWrong 105 = .ok (.iload_n 3, 1) := by decide +kernel
theorem dR_isWrong_106 : decode cR_isWrong 106 = .ok (.if_icmp .le 31, 3) := by decide +kernel
theorem dR_isWrong_109 : decode cR_isWrong 109 = .ok (.aload_n 0, 1) := by decide +kernel
theorem dR_isWrong_110 : decode cR_isWrong 110 = .ok (.iload 5, 2) := by decide +kernel
theorem dR_isWrong_112 : decode cR_isWrong 112 = .ok (.invokevirtual 174, 3) := by decide +kernel
theorem dR_isWrong_115 : decode cR_isWrong 115 = .ok (.ifCond .eq 22, 3) := by decide +kernel
theorem dR_isWrong_118 : decode cR_isWrong 118 = .ok (.aload_n 0, 1) := by decide +kernel
theorem dR_isWrong_119 : decode cR_isWrong 119 = .ok (.iload 5, 2) := by decide +kernel
theorem dR_isWrong_121 : decode cR_isWrong 121 = .ok (.iconst 1, 1) := by decide +kernel
theorem dR_isWrong_122 : decode cR_isWrong 122 = .ok (.invokevirtual 165, 3) := by decide +kernel
theorem dR_isWrong_125 : decode cR_isWrong 125 = .ok (.aload_n 0, 1) := by decide +kernel
theorem dR_isWrong_126 : decode cR_isWrong 126 = .ok (.iload_n 1, 1) := by decide +kernel
theorem dR_isWrong_127 : decode cR_isWrong 127 = .ok (.iload 4, 2) := by decide +kernel
theorem dR_isWrong_129 : decode cR_isWrong 129 = .ok (.iconst 2, 1) := by decide +kernel
theorem dR_isWrong_130 : decode cR_isWrong 130 = .ok (.iadd, 1) := by decide +kernel
theorem dR_isWrong_131 : decode cR_isWrong 131 = .ok (.invokevirtual 189, 3) := by decide +kernel
theorem dR_isWrong_134 : decode cR_isWrong 134 = .ok (.if_icmp .eq 7, 3) := by decide +kernel
theorem dR_isWrong_137 : decode cR_isWrong 137 = .ok (.iconst 1, 1) := by decide +kernel
theorem dR_isWrong_138 : decode cR_isWrong 138 = .ok (.goto 4, 3) := by decide +kernel
theorem dR_isWrong_141 : decode cR_isWrong 141 = .ok (.iconst 0, 1) := by decide +kernel
theorem dR_isWrong_142 : decode cR_isWrong 142 = .ok (.istore_n 2, 1) := by decide +kernel
theorem dR_isWrong_143 : decode cR_isWrong 143 = .ok (.aload_n 0, 1) := by decide +kernel
theorem dR_isWrong_144 : decode cR_isWrong 144 = .ok (.iload_n 1, 1) := by decide +kernel
theorem dR_isWrong_145 : decode cR_isWrong 145 = .ok (.iload 4, 2) := by decide +kernel
theorem dR_isWrong_147 : decode cR_isWrong 147 = .ok (.invokevirtual 189, 3) := by decide +kernel
theorem dR_isWrong_150 : decode cR_isWrong 150 = .ok (.istore_n 3, 1) := by decide +kernel
theorem dR_isWrong_151 : decode cR_isWrong 151 = .ok (.iinc 4 3, 3) := by decide +kernel
theorem dR_isWrong_154 : decode cR_isWrong 154 = .ok (.goto (-90), 3) := by decide +kernel
theorem dR_isWrong_157 : decode cR_isWrong 157 = .ok (.iload_n 2, 1) := by decide +kernel
theorem dR_isWrong_158 : decode cR_isWrong 158 = .ok (.ireturn, 1) := by decide +kernel
