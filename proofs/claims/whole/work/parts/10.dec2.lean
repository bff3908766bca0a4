theorem dR_packOne_0 : decode cR_packOne 0 = .ok (.bipush 16, 2) := by decide +kernel
theorem dR_packOne_2 : decode cR_packOne 2 = .ok (.iload_n 2, 1) := by decide +kernel
theorem dR_packOne_3 : decode cR_packOne 3 = .ok (.imul, 1) := by decide +kernel
theorem dR_packOne_4 : decode cR_packOne 4 = .ok (.istore 4, 2) := by decide +kernel
theorem dR_packOne_6 : decode cR_packOne 6 = .ok (.iconst 0, 1) := by decide +kernel
theorem dR_packOne_7 : decode cR_packOne 7 = .ok (.istore 5, 2) := by decide +kernel
theorem dR_packOne_9 : decode cR_packOne 9 = .ok (.iload 5, 2) := by decide +kernel
theorem dR_packOne_11 : decode cR_packOne 11 = .ok (.bipush 16, 2) := by decide +kernel
theorem dR_packOne_13 : decode cR_packOne 13 = .ok (.if_icmp .ge 20, 3) := by decide +kernel
theorem dR_packOne_16 : decode cR_packOne 16 = .ok (.aload_n 0, 1) := by decide +kernel
theorem dR_packOne_17 : decode cR_packOne 17 = .ok (.getfield 45, 3) := by decide +kernel
theorem dR_packOne_20 : decode cR_packOne 20 = .ok (.iload 4, 2) := by decide +kernel
theorem dR_packOne_22 : decode cR_packOne 22 = .ok (.iload 5, 2) := by decide +kernel
theorem dR_packOne_24 : decode cR_packOne 24 = .ok (.iadd, 1) := by decide +kernel
theorem dR_packOne_25 : decode cR_packOne 25 = .ok (.iconst 0, 1) := by decide +kernel
theorem dR_packOne_26 : decode cR_packOne 26 = .ok (.iastore, 1) := by decide +kernel
theorem dR_packOne_27 : decode cR_packOne 27 = .ok (.iinc 5 1, 3) := by decide +kernel
theorem dR_packOne_30 : decode cR_packOne 30 = .ok (.goto (-21), 3) := by decide +kernel
theorem dR_packOne_33 : decode cR_packOne 33 = .ok (.aload_n 0, 1) := by decide +kernel
theorem dR_packOne_34 : decode cR_packOne 34 = .ok (.iconst 0, 1) := by decide +kernel
theorem dR_packOne_35 : decode cR_packOne 35 = .ok (.putfield 86, 3) := by decide +kernel
theorem dR_packOne_38 : decode cR_packOne 38 = .ok (.iload_n 3, 1) := by decide +kernel
theorem dR_packOne_39 : decode cR_packOne 39 = .ok (.istore 5, 2) := by decide +kernel
theorem dR_packOne_41 : decode cR_packOne 41 = .ok (.iconst 1, 1) := by decide +kernel
theorem dR_packOne_42 : decode cR_packOne 42 = .ok (.istore 6, 2) := by decide +kernel
theorem dR_packOne_44 : decode cR_packOne 44 = .ok (.iload 6, 2) := by decide +kernel
theorem dR_packOne_46 : decode cR_packOne 46 = .ok (.ifCond .eq 188, 3) := by decide +kernel
theorem dR_packOne_49 : decode cR_packOne 49 = .ok (.iload 5, 2) := by decide +kernel
theorem dR_packOne_51 : decode cR_packOne 51 = .ok (.aload_n 0, 1) := by decide +kernel
theorem dR_packOne_52 : decode cR_packOne 52 = .ok (.getfield 23, 3) := by decide +kernel
theorem dR_packOne_55 : decode cR_packOne 55 = .ok (.iload_n 1, 1) := by decide +kernel
theorem dR_packOne_56 : decode cR_packOne 56 = .ok (.iaload, 1) := by decide +kernel
theorem dR_packOne_57 : decode cR_packOne 57 = .ok (.if_icmp .ge 177, 3) := by decide +kernel
theorem dR_packOne_60 : decode cR_packOne 60 = .ok (.iconst 0, 1) := by decide +kernel
theorem dR_packOne_61 : decode cR_packOne 61 = .ok (.istore 7, 2) := by decide +kernel
theorem dR_packOne_63 : decode cR_packOne 63 = .ok (.aload_n 0, 1) := by decide +kernel
theorem dR_packOne_64 : decode cR_packOne 64 = .ok (.iload_n 1, 1) := by decide +kernel
theorem dR_packOne_65 : decode cR_packOne 65 = .ok (.iload 5, 2) := by decide +kernel
theorem dR_packOne_67 : decode cR_packOne 67 = .ok (.iload_n 3, 1) := by decide +kernel
theorem dR_packOne_68 : decode cR_packOne 68 = .ok (.invokevirtual 89, 3) := by decide +kernel
theorem dR_packOne_71 : decode cR_packOne 71 = .ok (.istore 8, 2) := by decide +kernel
theorem dR_packOne_73 : decode cR_packOne 73 = .ok (.iload 8, 2) := by decide +kernel
theorem dR_packOne_75 : decode cR_packOne 75 = .ok (.ifCond .ne 61, 3) := by decide +kernel
theorem dR_packOne_78 : decode cR_packOne 78 = .ok (.iload 7, 2) := by decide +kernel
theorem dR_packOne_80 : decode cR_packOne 80 = .ok (.bipush 15, 2) := by decide +kernel
theorem dR_packOne_82 : decode cR_packOne 82 = .ok (.if_icmp .ge 54, 3) := by decide +kernel
theorem dR_packOne_85 : decode cR_packOne 85 = .ok (.iload 5, 2) := by decide +kernel
theorem dR_packOne_87 : decode cR_packOne 87 = .ok (.iload 7, 2) := by decide +kernel
theorem dR_packOne_89 : decode cR_packOne 89 = .ok (.iadd, 1) := by decide +kernel
theorem dR_packOne_90 : decode cR_packOne 90 = .ok (.aload_n 0, 1) := by decide +kernel
theorem dR_packOne_91 : decode cR_packOne 91 = .ok (.getfield 23, 3) := by decide +kernel
theorem dR_packOne_94 : decode cR_packOne 94 = .ok (.iload_n 1, 1) := by decide +kernel
theorem dR_packOne_95 : decode cR_packOne 95 = .ok (.iaload, 1) := by decide +kernel
theorem dR_packOne_96 : decode cR_packOne 96 = .ok (.if_icmp .ge 40, 3) := by decide +kernel
theorem dR_packOne_99 : decode cR_packOne 99 = .ok (.iinc 7 1, 3) := by decide +kernel
theorem dR_packOne_102 : decode cR_packOne 102 = .ok (.iload 5, 2) := by decide +kernel
theorem dR_packOne_104 : decode cR_packOne 104 = .ok (.iload 7, 2) := by decide +kernel
theorem dR_packOne_106 : decode cR_packOne 106 = .ok (.iadd, 1) := by decide +kernel
theorem dR_packOne_107 : decode cR_packOne 107 = .ok (.aload_n 0, 1) := by decide +kernel
theorem dR_packOne_108 : decode cR_packOne 108 = .ok (.getfield 23, 3) := by decide +kernel
theorem dR_packOne_111 : decode cR_packOne 111 = .ok (.iload_n 1, 1) := by decide +kernel
theorem dR_packOne_112 : decode cR_packOne 112 = .ok (.iaload, 1) := by decide +kernel
theorem dR_packOne_113 : decode cR_packOne 113 = .ok (.if_icmp .ge 17, 3) := by decide +kernel
theorem dR_packOne_116 : decode cR_packOne 116 = .ok (.aload_n 0, 1) := by decide +kernel
theorem dR_packOne_117 : decode cR_packOne 117 = .ok (.iload_n 1, 1) := by decide +kernel
theorem dR_packOne_118 : decode cR_packOne 118 = .ok (.iload 5, 2) := by decide +kernel
theorem dR_packOne_120 : decode cR_packOne 120 = .ok (.iload 7, 2) := by decide +kernel
theorem dR_packOne_122 : decode cR_packOne 122 = .ok (.iadd, 1) := by decide +kernel
theorem dR_packOne_123 : decode cR_packOne 123 = .ok (.iload_n 3, 1) := by decide +kernel
theorem dR_packOne_124 : decode cR_packOne 124 = .ok (.invokevirtual 89, 3) := by decide +kernel
theorem dR_packOne_127 : decode cR_packOne 127 = .ok (.goto 4, 3) := by decide +kernel
theorem dR_packOne_130 : decode cR_packOne 130 = .ok (.iconst 0, 1) := by decide +kernel
theorem dR_packOne_131 : decode cR_packOne 131 = .ok (.istore 8, 2) := by decide +kernel
theorem dR_packOne_133 : decode cR_packOne 133 = .ok (.goto (-60), 3) := by decide +kernel
theorem dR_packOne_136 : decode cR_packOne 136 = .ok (.bipush 16, 2) := by decide +kernel
theorem dR_packOne_138 : decode cR_packOne 138 = .ok (.aload_n 0, 1) := by decide +kernel
theorem dR_packOne_139 : decode cR_packOne 139 = .ok (.getfield 86, 3) := by decide +kernel
theorem dR_packOne_142 : decode cR_packOne 142 = .ok (.isub, 1) := by decide +kernel
theorem dR_packOne_143 : decode cR_packOne 143 = .ok (.iconst 1, 1) := by decide +kernel
theorem dR_packOne_144 : decode cR_packOne 144 = .ok (.isub, 1) := by decide +kernel
theorem dR_packOne_145 : decode cR_packOne 145 = .ok (.istore 9, 2) := by decide +kernel
theorem dR_packOne_147 : decode cR_packOne 147 = .ok (.iload 7, 2) := by decide +kernel
theorem dR_packOne_149 : decode cR_packOne 149 = .ok (.iload 8, 2) := by decide +kernel
theorem dR_packOne_151 : decode cR_packOne 151 = .ok (.ifCond .le 7, 3) := by decide +kernel
theorem dR_packOne_154 : decode cR_packOne 154 = .ok (.iconst 1, 1) := by decide +kernel
theorem dR_packOne_155 : decode cR_packOne 155 = .ok (.goto 4, 3) := by decide +kernel
theorem dR_packOne_158 : decode cR_packOne 158 = .ok (.iconst 0, 1) := by decide +kernel
theorem dR_packOne_159 : decode cR_packOne 159 = .ok (.iadd, 1) := by decide +kernel
theorem dR_packOne_160 : decode cR_packOne 160 = .ok (.iload 9, 2) := by decide +kernel
theorem dR_packOne_162 : decode cR_packOne 162 = .ok (.if_icmp .gt 7, 3) := by decide +kernel
theorem dR_packOne_165 : decode cR_packOne 165 = .ok (.iconst 1, 1) := by decide +kernel
theorem dR_packOne_166 : decode cR_packOne 166 = .ok (.goto 4, 3) := by decide +kernel
theorem dR_packOne_169 : decode cR_packOne 169 = .ok (.iconst 0, 1) := by decide +kernel
theorem dR_packOne_170 : decode cR_packOne 170 = .ok (.istore 6, 2) := by decide +kernel
theorem dR_packOne_172 : decode cR_packOne 172 = .ok (.iload 6, 2) := by decide +kernel
theorem dR_packOne_174 : decode cR_packOne 174 = .ok (.ifCond .ne 22, 3) := by decide +kernel
theorem dR_packOne_177 : decode cR_packOne 177 = .ok (.iload 7, 2) := by decide +kernel
theorem dR_packOne_179 : decode cR_packOne 179 = .ok (.iload 9, 2) := by decide +kernel
theorem dR_packOne_181 : decode cR_packOne 181 = .ok (.if_icmp .ge 8, 3) := by decide +kernel
theorem dR_packOne_184 : decode cR_packOne 184 = .ok (.iload 7, 2) := by decide +kernel
theorem dR_packOne_186 : decode cR_packOne 186 = .ok (.goto 5, 3) := by decide +kernel
theorem dR_packOne_189 : decode cR_packOne 189 = .ok (.iload 9, 2) := by decide +kernel
theorem dR_packOne_191 : decode cR_packOne 191 = .ok (.istore 7, 2) := by decide +kernel
theorem dR_packOne_193 : decode cR_packOne 193 = .ok (.iconst 0, 1) := by decide +kernel
theorem dR_packOne_194 : decode cR_packOne 194 = .ok (.istore 8, 2) := by decide +kernel
theorem dR_packOne_196 : decode cR_packOne 196 = .ok (.iload 7, 2) := by decide +kernel
theorem dR_packOne_198 : decode cR_packOne 198 = .ok (.iload 8, 2) := by decide +kernel
theorem dR_packOne_200 : decode cR_packOne 200 = .ok (.iadd, 1) := by decide +kernel
theorem dR_packOne_201 : decode cR_packOne 201 = .ok (.iconst 1, 1) := by decide +kernel
theorem dR_packOne_202 : decode cR_packOne 202 = .ok (.if_icmp .ge 6, 3) := by decide +kernel
theorem dR_packOne_205 : decode cR_packOne 205 = .ok (.goto (-161), 3) := by decide +kernel
theorem dR_packOne_208 : decode cR_packOne 208 = .ok (.aload_n 0, 1) := by decide +kernel
theorem dR_packOne_209 : decode cR_packOne 209 = .ok (.iload 4, 2) := by decide +kernel
theorem dR_packOne_211 : decode cR_packOne 211 = .ok (.iload_n 1, 1) := by decide +kernel
theorem dR_packOne_212 : decode cR_packOne 212 = .ok (.iload 5, 2) := by decide +kernel
theorem dR_packOne_214 : decode cR_packOne 214 = .ok (.iload 7, 2) := by decide +kernel
theorem dR_packOne_216 : decode cR_packOne 216 = .ok (.iload 8, 2) := by decide +kernel
theorem dR_packOne_218 : decode cR_packOne 218 = .ok (.invokevirtual 93, 3) := by decide +kernel
theorem dR_packOne_221 : decode cR_packOne 221 = .ok (.iload 5, 2) := by decide +kernel
theorem dR_packOne_223 : decode cR_packOne 223 = .ok (.iload 7, 2) := by decide +kernel
theorem dR_packOne_225 : decode cR_packOne 225 = .ok (.iload 8, 2) := by decide +kernel
theorem dR_packOne_227 : decode cR_packOne 227 = .ok (.iadd, 1) := by decide +kernel
theorem dR_packOne_228 : decode cR_packOne 228 = .ok (.iadd, 1) := by decide +kernel
theorem dR_packOne_229 : decode cR_packOne 229 = .ok (.istore 5, 2) := by decide +kernel
theorem dR_packOne_231 : decode cR_packOne 231 = .ok (.goto (-187), 3) := by decide +kernel
theorem dR_packOne_234 : decode cR_packOne 234 = .ok (.iload 5, 2) := by decide +kernel
theorem dR_packOne_236 : decode cR_packOne 236 = .ok (.ireturn, 1) := by decide +kernel
theorem dR_pack_0 : decode cR_pack 0 = .ok (.iconst 0, 1) := by decide +kernel
theorem dR_pack_1 : decode cR_pack 1 = .ok (.istore_n 2, 1) := by decide +kernel
theorem dR_pack_2 : decode cR_pack 2 = .ok (.iconst 0, 1) := by decide +kernel
theorem dR_pack_3 : decode cR_pack 3 = .ok (.istore_n 3, 1) := by decide +kernel
theorem dR_pack_4 : decode cR_pack 4 = .ok (.iload_n 3, 1) := by decide +kernel
theorem dR_pack_5 : decode cR_pack 5 = .ok (.aload_n 0, 1) := by decide +kernel
theorem dR_pack_6 : decode cR_pack 6 = .ok (.getfield 23, 3) := by decide +kernel
theorem dR_pack_9 : decode cR_pack 9 = .ok (.iload_n 1, 1) := by decide +kernel
theorem dR_pack_10 : decode cR_pack 10 = .ok (.iaload, 1) := by decide +kernel
theorem dR_pack_11 : decode cR_pack 11 = .ok (.if_icmp .ge 30, 3) := by decide +kernel
theorem dR_pack_14 : decode cR_pack 14 = .ok (.iload_n 2, 1) := by decide +kernel
theorem dR_pack_15 : decode cR_pack 15 = .ok (.bipush 11, 2) := by decide +kernel
theorem dR_pack_17 : decode cR_pack 17 = .ok (.if_icmp .gt 24, 3) := by decide +kernel
theorem dR_pack_20 : decode cR_pack 20 = .ok (.aload_n 0, 1) := by decide +kernel
theorem dR_pack_21 : decode cR_pack 21 = .ok (.iload_n 1, 1) := by decide +kernel
theorem dR_pack_22 : decode cR_pack 22 = .ok (.iload_n 2, 1) := by decide +kernel
theorem dR_pack_23 : decode cR_pack 23 = .ok (.iload_n 3, 1) := by decide +kernel
theorem dR_pack_24 : decode cR_pack 24 = .ok (.invokevirtual 97, 3) := by decide +kernel
theorem dR_pack_27 : decode cR_pack 27 = .ok (.istore_n 3, 1) := by decide +kernel
theorem dR_pack_28 : decode cR_pack 28 = .ok (.aload_n 0, 1) := by decide +kernel
theorem dR_pack_29 : decode cR_pack 29 = .ok (.getfield 48, 3) := by decide +kernel
theorem dR_pack_32 : decode cR_pack 32 = .ok (.iload_n 2, 1) := by decide +kernel
theorem dR_pack_33 : decode cR_pack 33 = .ok (.iload_n 3, 1) := by decide +kernel
theorem dR_pack_34 : decode cR_pack 34 = .ok (.iastore, 1) := by decide +kernel
theorem dR_pack_35 : decode cR_pack 35 = .ok (.iinc 2 1, 3) := by decide +kernel
theorem dR_pack_38 : decode cR_pack 38 = .ok (.goto (-34), 3) := by decide +kernel
theorem dR_pack_41 : decode cR_pack 41 = .ok (.iload_n 2, 1) := by decide +kernel
theorem dR_pack_42 : decode cR_pack 42 = .ok (.ireturn, 1) := by decide +kernel
theorem dR_blocksFor_0 : decode cR_blocksFor 0 = .ok (.iload_n 0, 1) := by decide +kernel
theorem dR_blocksFor_1 : decode cR_blocksFor 1 = .ok (.bipush 16, 2) := by decide +kernel
theorem dR_blocksFor_3 : decode cR_blocksFor 3 = .ok (.iadd, 1) := by decide +kernel
theorem dR_blocksFor_4 : decode cR_blocksFor 4 = .ok (.iconst 1, 1) := by decide +kernel
theorem dR_blocksFor_5 : decode cR_blocksFor 5 = .ok (.isub, 1) := by decide +kernel
theorem dR_blocksFor_6 : decode cR_blocksFor 6 = .ok (.bipush 16, 2) := by decide +kernel
theorem dR_blocksFor_8 : decode cR_blocksFor 8 = .ok (.idiv, 1) := by decide +kernel
theorem dR_blocksFor_9 : decode cR_blocksFor 9 = .ok (.ireturn, 1) := by decide +kernel
theorem dR_choose_0 : decode cR_choose 0 = .ok (.aload_n 0, 1) := by decide +kernel
theorem dR_choose_1 : decode cR_choose 1 = .ok (.iload_n 1, 1) := by decide +kernel
theorem dR_choose_2 : decode cR_choose 2 = .ok (.invokevirtual 100, 3) := by decide +kernel
theorem dR_choose_5 : decode cR_choose 5 = .ok (.istore_n 3, 1) := by decide +kernel
theorem dR_choose_6 : decode cR_choose 6 = .ok (.aload_n 0, 1) := by decide +kernel
theorem dR_choose_7 : decode cR_choose 7 = .ok (.getfield 32, 3) := by decide +kernel
theorem dR_choose_10 : decode cR_choose 10 = .ok (.iload_n 1, 1) := by decide +kernel
theorem dR_choose_11 : decode cR_choose 11 = .ok (.iconst 0, 1) := by decide +kernel
theorem dR_choose_12 : decode cR_choose 12 = .ok (.iastore, 1) := by decide +kernel
theorem dR_choose_13 : decode cR_choose 13 = .ok (.aload_n 0, 1) := by decide +kernel
theorem dR_choose_14 : decode cR_choose 14 = .ok (.getfield 35, 3) := by decide +kernel
theorem dR_choose_17 : decode cR_choose 17 = .ok (.iload_n 1, 1) := by decide +kernel
theorem dR_choose_18 : decode cR_choose 18 = .ok (.iconst 0, 1) := by decide +kernel
theorem dR_choose_19 : decode cR_choose 19 = .ok (.bastore, 1) := by decide +kernel
theorem dR_choose_20 : decode cR_choose 20 = .ok (.aload_n 0, 1) := by decide +kernel
theorem dR_choose_21 : decode cR_choose 21 = .ok (.getfield 13, 3) := by decide +kernel
theorem dR_choose_24 : decode cR_choose 24 = .ok (.iload_n 1, 1) := by decide +kernel
theorem dR_choose_25 : decode cR_choose 25 = .ok (.iaload, 1) := by decide +kernel
theorem dR_choose_26 : decode cR_choose 26 = .ok (.iconst 1, 1) := by decide +kernel
theorem dR_choose_27 : decode cR_choose 27 = .ok (.if_icmp .ne 16, 3) := by decide +kernel
theorem dR_choose_30 : decode cR_choose 30 = .ok (.iload_n 2, 1) := by decide +kernel
theorem dR_choose_31 : decode cR_choose 31 = .ok (.iconst 4, 1) := by decide +kernel
theorem dR_choose_32 : decode cR_choose 32 = .ok (.if_icmp .lt 11, 3) := by decide +kernel
theorem dR_choose_35 : decode cR_choose 35 = .ok (.aload_n 0, 1) := by decide +kernel
theorem dR_choose_36 : decode cR_choose 36 = .ok (.iload_n 1, 1) := by decide +kernel
theorem dR_choose_37 : decode cR_choose 37 = .ok (.invokevirtual 104, 3) := by decide +kernel
theorem dR_choose_40 : decode cR_choose 40 = .ok (.goto 5, 3) := by decide +kernel
theorem dR_choose_43 : decode cR_choose 43 = .ok (.bipush 99, 2) := by decide +kernel
theorem dR_choose_45 : decode cR_choose 45 = .ok (.istore 4, 2) := by decide +kernel
theorem dR_choose_47 : decode cR_choose 47 = .ok (.iload_n 3, 1) := by decide +kernel
theorem dR_choose_48 : decode cR_choose 48 = .ok (.bipush 16, 2) := by decide +kernel
theorem dR_choose_50 : decode cR_choose 50 = .ok (.irem, 1) := by decide +kernel
theorem dR_choose_51 : decode cR_choose 51 = .ok (.istore 5, 2) := by decide +kernel
theorem dR_choose_53 : decode cR_choose 53 = .ok (.iload 4, 2) := by decide +kernel
theorem dR_choose_55 : decode cR_choose 55 = .ok (.bipush 11, 2) := by decide +kernel
theorem dR_choose_57 : decode cR_choose 57 = .ok (.if_icmp .gt 29, 3) := by decide +kernel
theorem dR_choose_60 : decode cR_choose 60 = .ok (.iload 4, 2) := by decide +kernel
theorem dR_choose_62 : decode cR_choose 62 = .ok (.iload_n 3, 1) := by decide +kernel
theorem dR_choose_63 : decode cR_choose 63 = .ok (.invokestatic 107, 3) := by decide +kernel
theorem dR_choose_66 : decode cR_choose 66 = .ok (.if_icmp .ge 20, 3) := by decide +kernel
theorem dR_choose_69 : decode cR_choose 69 = .ok (.aload_n 0, 1) := by decide +kernel
theorem dR_choose_70 : decode cR_choose 70 = .ok (.getfield 32, 3) := by decide +kernel
theorem dR_choose_73 : decode cR_choose 73 = .ok (.iload_n 1, 1) := by decide +kernel
theorem dR_choose_74 : decode cR_choose 74 = .ok (.iconst 2, 1) := by decide +kernel
theorem dR_choose_75 : decode cR_choose 75 = .ok (.iastore, 1) := by decide +kernel
theorem dR_choose_76 : decode cR_choose 76 = .ok (.aload_n 0, 1) := by decide +kernel
theorem dR_choose_77 : decode cR_choose 77 = .ok (.getfield 35, 3) := by decide +kernel
theorem dR_choose_80 : decode cR_choose 80 = .ok (.iload_n 1, 1) := by decide +kernel
theorem dR_choose_81 : decode cR_choose 81 = .ok (.iconst 1, 1) := by decide +kernel
theorem dR_choose_82 : decode cR_choose 82 = .ok (.bastore, 1) := by decide +kernel
theorem dR_choose_83 : decode cR_choose 83 = .ok (.goto 46, 3) := by decide +kernel
theorem dR_choose_86 : decode cR_choose 86 = .ok (.iload_n 2, 1) := by decide +kernel
theorem dR_choose_87 : decode cR_choose 87 = .ok (.iconst 2, 1) := by decide +kernel
theorem dR_choose_88 : decode cR_choose 88 = .ok (.irem, 1) := by decide +kernel
theorem dR_choose_89 : decode cR_choose 89 = .ok (.iconst 1, 1) := by decide +kernel
theorem dR_choose_90 : decode cR_choose 90 = .ok (.if_icmp .ne 39, 3) := by decide +kernel
theorem dR_choose_93 : decode cR_choose 93 = .ok (.iload 5, 2) := by decide +kernel
theorem dR_choose_95 : decode cR_choose 95 = .ok (.ifCond .le 34, 3) := by decide +kernel
theorem dR_choose_98 : decode cR_choose 98 = .ok (.iload 5, 2) := by decide +kernel
theorem dR_choose_100 : decode cR_choose 100 = .ok (.bipush 12, 2) := by decide +kernel
theorem dR_choose_102 : decode cR_choose 102 = .ok (.if_icmp .gt 27, 3) := by decide +kernel
theorem dR_choose_105 : decode cR_choose 105 = .ok (.aload_n 0, 1) := by decide +kernel
theorem dR_choose_106 : decode cR_choose 106 = .ok (.getfield 32, 3) := by decide +kernel
theorem dR_choose_109 : decode cR_choose 109 = .ok (.iload_n 1, 1) := by decide +kernel
theorem dR_choose_110 : decode cR_choose 110 = .ok (.iconst 1, 1) := by decide +kernel
theorem dR_choose_111 : decode cR_choose 111 = .ok (.iastore, 1) := by decide +kernel
theorem dR_choose_112 : decode cR_choose 112 = .ok (.aload_n 0, 1) := by decide +kernel
theorem dR_choose_113 : decode cR_choose 113 = .ok (.getfield 35, 3) := by decide +kernel
theorem dR_choose_116 : decode cR_choose 116 = .ok (.iload_n 1, 1) := by decide +kernel
theorem dR_choose_117 : decode cR_choose 117 = .ok (.iload 5, 2) := by decide +kernel
theorem dR_choose_119 : decode cR_choose 119 = .ok (.iconst 4, 1) := by decide +kernel
theorem dR_choose_120 : decode cR_choose 120 = .ok (.if_icmp .le 7, 3) := by decide +kernel
theorem dR_choose_123 : decode cR_choose 123 = .ok (.iconst 1, 1) := by decide +kernel
theorem dR_choose_124 : decode cR_choose 124 = .ok (.goto 4, 3) := by decide +kernel
theorem dR_choose_127 : decode cR_choose 127 = .ok (.iconst 0, 1) := by decide +kernel
theorem dR_choose_128 : decode cR_choose 128 = .ok (.bastore, 1) := by decide +kernel
theorem dR_choose_129 : decode cR_choose 129 = .ok (.return_, 1) := by decide +kernel
theorem dR_isThere_0 : decode cR_isThere 0 = .ok (.iconst 1, 1) := by decide +kernel
theorem dR_isThere_1 : decode cR_isThere 1 = .ok (.istore_n 3, 1) := by decide +kernel
theorem dR_isThere_2 : decode cR_isThere 2 = .ok (.iconst 0, 1) := by decide +kernel
theorem dR_isThere_3 : decode cR_isThere 3 = .ok (.istore 4, 2) := by decide +kernel
theorem dR_isThere_5 : decode cR_isThere 5 = .ok (.iload 4, 2) := by decide +kernel
theorem dR_isThere_7 : decode cR_isThere 7 = .ok (.bipush 16, 2) := by decide +kernel
theorem dR_isThere_9 : decode cR_isThere 9 = .ok (.iload_n 2, 1) := by decide +kernel
theorem dR_isThere_10 : decode cR_isThere 10 = .ok (.imul, 1) := by decide +kernel
theorem dR_isThere_11 : decode cR_isThere 11 = .ok (.if_icmp .ge 41, 3) := by decide +kernel
theorem dR_isThere_14 : decode cR_isThere 14 = .ok (.iload_n 3, 1) := by decide +kernel
theorem dR_isThere_15 : decode cR_isThere 15 = .ok (.ifCond .eq 29, 3) := by decide +kernel
theorem dR_isThere_18 : decode cR_isThere 18 = .ok (.aload_n 0, 1) := by decide +kernel
theorem dR_isThere_19 : decode cR_isThere 19 = .ok (.getfield 39, 3) := by decide +kernel
theorem dR_isThere_22 : decode cR_isThere 22 = .ok (.bipush 16, 2) := by decide +kernel
theorem dR_isThere_24 : decode cR_isThere 24 = .ok (.iload_n 1, 1) := by decide +kernel
theorem dR_isThere_25 : decode cR_isThere 25 = .ok (.imul, 1) := by decide +kernel
theorem dR_isThere_26 : decode cR_isThere 26 = .ok (.iload 4, 2) := by decide +kernel
theorem dR_isThere_28 : decode cR_isThere 28 = .ok (.iadd, 1) := by decide +kernel
theorem dR_isThere_29 : decode cR_isThere 29 = .ok (.iaload, 1) := by decide +kernel
theorem dR_isThere_30 : decode cR_isThere 30 = .ok (.aload_n 0, 1) := by decide +kernel
theorem dR_isThere_31 : decode cR_isThere 31 = .ok (.getfield 42, 3) := by decide +kernel
theorem dR_isThere_34 : decode cR_isThere 34 = .ok (.iload 4, 2) := by decide +kernel
theorem dR_isThere_36 : decode cR_isThere 36 = .ok (.iaload, 1) := by decide +kernel
theorem dR_isThere_37 : decode cR_isThere 37 = .ok (.if_icmp .ne 7, 3) := by decide +kernel
theorem dR_isThere_40 : decode cR_isThere 40 = .ok (.iconst 1, 1) := by decide +kernel
theorem dR_isThere_41 : decode cR_isThere 41 = .ok (.goto 4, 3) := by decide +kernel
theorem dR_isThere_44 : decode cR_isThere 44 = .ok (.iconst 0, 1) := by decide +kernel
theorem dR_isThere_45 : decode cR_isThere 45 = .ok (.istore_n 3, 1) := by decide +kernel
theorem dR_isThere_46 : decode cR_isThere 46 = .ok (.iinc 4 1, 3) := by decide +kernel
theorem dR_isThere_49 : decode cR_isThere 49 = .ok (.goto (-44), 3) := by decide +kernel
theorem dR_isThere_52 : decode cR_isThere 52 = .ok (.iload_n 3, 1) := by decide +kernel
theorem dR_isThere_53 : decode cR_isThere 53 = .ok (.ireturn, 1) := by decide +kernel
theorem dR_write_0 : decode cR_write 0 = .ok (.aload_n 0, 1) := by decide +kernel
theorem dR_write_1 : decode cR_write 1 = .ok (.iload_n 1, 1) := by decide +kernel
theorem dR_write_2 : decode cR_write 2 = .ok (.invokevirtual 100, 3) := by decide +kernel
theorem dR_write_5 : decode cR_write 5 = .ok (.istore 5, 2) := by decide +kernel
theorem dR_write_7 : decode cR_write 7 = .ok (.bipush 16, 2) := by decide +kernel
theorem dR_write_9 : decode cR_write 9 = .ok (.bipush 8, 2) := by decide +kernel
theorem dR_write_11 : decode cR_write 11 = .ok (.aload_n 0, 1) := by decide +kernel
theorem dR_write_12 : decode cR_write 12 = .ok (.getfield 29, 3) := by decide +kernel
theorem dR_write_15 : decode cR_write 15 = .ok (.iload_n 1, 1) := by decide +kernel
theorem dR_write_16 : decode cR_write 16 = .ok (.iaload, 1) := by decide +kernel
theorem dR_write_17 : decode cR_write 17 = .ok (.imul, 1) := by decide +kernel
theorem dR_write_18 : decode cR_write 18 = .ok (.iadd, 1) := by decide +kernel
theorem dR_write_19 : decode cR_write 19 = .ok (.istore 6, 2) := by decide +kernel
theorem dR_write_21 : decode cR_write 21 = .ok (.aload_n 0, 1) := by decide +kernel
theorem dR_write_22 : decode cR_write 22 = .ok (.getfield 32, 3) := by decide +kernel
theorem dR_write_25 : decode cR_write 25 = .ok (.iload_n 1, 1) := by decide +kernel
theorem dR_write_26 : decode cR_write 26 = .ok (.iaload, 1) := by decide +kernel
theorem dR_write_27 : decode cR_write 27 = .ok (.istore 7, 2) := by decide +kernel
theorem dR_write_29 : decode cR_write 29 = .ok (.iload 7, 2) := by decide +kernel
theorem dR_write_31 : decode cR_write 31 = .ok (.iconst 2, 1) := by decide +kernel
theorem dR_write_32 : decode cR_write 32 = .ok (.if_icmp .ne 11, 3) := by decide +kernel
theorem dR_write_35 : decode cR_write 35 = .ok (.aload_n 0, 1) := by decide +kernel
theorem dR_write_36 : decode cR_write 36 = .ok (.iload_n 1, 1) := by decide +kernel
theorem dR_write_37 : decode cR_write 37 = .ok (.invokevirtual 104, 3) := by decide +kernel
theorem dR_write_40 : decode cR_write 40 = .ok (.goto 22, 3) := by decide +kernel
theorem dR_write_43 : decode cR_write 43 = .ok (.iload 7, 2) := by decide +kernel
theorem dR_write_45 : decode cR_write 45 = .ok (.iconst 1, 1) := by decide +kernel
theorem dR_write_46 : decode cR_write 46 = .ok (.if_icmp .ne 11, 3) := by decide +kernel
theorem dR_write_49 : decode cR_write 49 = .ok (.iload 5, 2) := by decide +kernel
theorem dR_write_51 : decode cR_write 51 = .ok (.bipush 16, 2) := by decide +kernel
theorem dR_write_53 : decode cR_write 53 = .ok (.idiv, 1) := by decide +kernel
theorem dR_write_54 : decode cR_write 54 = .ok (.goto 8, 3) := by decide +kernel
theorem dR_write_57 : decode cR_write 57 = .ok (.iload 5, 2) := by decide +kernel
theorem dR_write_59 : decode cR_write 59 = .ok (.invokestatic 107, 3) := by decide +kernel
theorem dR_write_62 : decode cR_write 62 = .ok (.istore 8, 2) := by decide +kernel
theorem dR_write_64 : decode cR_write 64 = .ok (.aload_n 0, 1) := by decide +kernel
theorem dR_write_65 : decode cR_write 65 = .ok (.getfield 39, 3) := by decide +kernel
theorem dR_write_68 : decode cR_write 68 = .ok (.iload 6, 2) := by decide +kernel
theorem dR_write_70 : decode cR_write 70 = .ok (.aload_n 0, 1) := by decide +kernel
theorem dR_write_71 : decode cR_write 71 = .ok (.getfield 35, 3) := by decide +kernel
theorem dR_write_74 : decode cR_write 74 = .ok (.iload_n 1, 1) := by decide +kernel
theorem dR_write_75 : decode cR_write 75 = .ok (.baload, 1) := by decide +kernel
theorem dR_write_76 : decode cR_write 76 = .ok (.ifCond .eq 7, 3) := by decide +kernel
theorem dR_write_79 : decode cR_write 79 = .ok (.iconst 1, 1) := by decide +kernel
theorem dR_write_80 : decode cR_write 80 = .ok (.goto 4, 3) := by decide +kernel
theorem dR_write_83 : decode cR_write 83 = .ok (.iconst 0, 1) := by decide +kernel
theorem dR_write_84 : decode cR_write 84 = .ok (.iconst 2, 1) := by decide +kernel
theorem dR_write_85 : decode cR_write 85 = .ok (.aload_n 0, 1) := by decide +kernel
theorem dR_write_86 : decode cR_write 86 = .ok (.getfield 13, 3) := by decide +kernel
theorem dR_write_89 : decode cR_write 89 = .ok (.iload_n 1, 1) := by decide +kernel
theorem dR_write_90 : decode cR_write 90 = .ok (.iaload, 1) := by decide +kernel
theorem dR_write_91 : decode cR_write 91 = .ok (.imul, 1) := by decide +kernel
theorem dR_write_92 : decode cR_write 92 = .ok (.iadd, 1) := by decide +kernel
theorem dR_write_93 : decode cR_write 93 = .ok (.bipush 8, 2) := by decide +kernel
theorem dR_write_95 : decode cR_write 95 = .ok (.iload 7, 2) := by decide +kernel
theorem dR_write_97 : decode cR_write 97 = .ok (.imul, 1) := by decide +kernel
theorem dR_write_98 : decode cR_write 98 = .ok (.iadd, 1) := by decide +kernel
theorem dR_write_99 : decode cR_write 99 = .ok (.iastore, 1) := by decide +kernel
theorem dR_write_100 : decode cR_write 100 = .ok (.aload_n 0, 1) := by decide +kernel
theorem dR_write_101 : decode cR_write 101 = .ok (.getfield 39, 3) := by decide +kernel
theorem dR_write_104 : decode cR_write 104 = .ok (.iload 6, 2) := by decide +kernel
theorem dR_write_106 : decode cR_write 106 = .ok (.iconst 1, 1) := by decide +kernel
theorem dR_write_107 : decode cR_write 107 = .ok (.iadd, 1) := by decide +kernel
theorem dR_write_108 : decode cR_write 108 = .ok (.iload 5, 2) := by decide +kernel
theorem dR_write_110 : decode cR_write 110 = .ok (.iastore, 1) := by decide +kernel
theorem dR_write_111 : decode cR_write 111 = .ok (.aload_n 0, 1) := by decide +kernel
theorem dR_write_112 : decode cR_write 112 = .ok (.getfield 39, 3) := by decide +kernel
theorem dR_write_115 : decode cR_write 115 = .ok (.iload 6, 2) := by decide +kernel
theorem dR_write_117 : decode cR_write 117 = .ok (.iconst 3, 1) := by decide +kernel
theorem dR_write_118 : decode cR_write 118 = .ok (.iadd, 1) := by decide +kernel
theorem dR_write_119 : decode cR_write 119 = .ok (.aload_n 0, 1) := by decide +kernel
theorem dR_write_120 : decode cR_write 120 = .ok (.getfield 26, 3) := by decide +kernel
theorem dR_write_123 : decode cR_write 123 = .ok (.iload_n 1, 1) := by decide +kernel
theorem dR_write_124 : decode cR_write 124 = .ok (.iaload, 1) := by decide +kernel
theorem dR_write_125 : decode cR_write 125 = .ok (.sipush 255, 3) := by decide +kernel
theorem dR_write_128 : decode cR_write 128 = .ok (.iand, 1) := by decide +kernel
theorem dR_write_129 : decode cR_write 129 = .ok (.iastore, 1) := by decide +kernel
theorem dR_write_130 : decode cR_write 130 = .ok (.aload_n 0, 1) := by decide +kernel
theorem dR_write_131 : decode cR_write 131 = .ok (.iload_n 1, 1) := by decide +kernel
theorem dR_write_132 : decode cR_write 132 = .ok (.invokevirtual 110, 3) := by decide +kernel
theorem dR_write_135 : decode cR_write 135 = .ok (.iload 5, 2) := by decide +kernel
theorem dR_write_137 : decode cR_write 137 = .ok (.bipush 16, 2) := by decide +kernel
theorem dR_write_139 : decode cR_write 139 = .ok (.idiv, 1) := by decide +kernel
theorem dR_write_140 : decode cR_write 140 = .ok (.bipush 16, 2) := by decide +kernel
theorem dR_write_142 : decode cR_write 142 = .ok (.imul, 1) := by decide +kernel
theorem dR_write_143 : decode cR_write 143 = .ok (.istore 9, 2) := by decide +kernel
theorem dR_write_145 : decode cR_write 145 = .ok (.iload 7, 2) := by decide +kernel
theorem dR_write_147 : decode cR_write 147 = .ok (.iconst 1, 1) := by decide +kernel
theorem dR_write_148 : decode cR_write 148 = .ok (.if_icmp .ne 38, 3) := by decide +kernel
theorem dR_write_151 : decode cR_write 151 = .ok (.iload 9, 2) := by decide +kernel
theorem dR_write_153 : decode cR_write 153 = .ok (.iload 5, 2) := by decide +kernel
theorem dR_write_155 : decode cR_write 155 = .ok (.if_icmp .ge 31, 3) := by decide +kernel
theorem dR_write_158 : decode cR_write 158 = .ok (.aload_n 0, 1) := by decide +kernel
theorem dR_write_159 : decode cR_write 159 = .ok (.getfield 39, 3) := by decide +kernel
theorem dR_write_162 : decode cR_write 162 = .ok (.iload 6, 2) := by decide +kernel
theorem dR_write_164 : decode cR_write 164 = .ok (.iconst 4, 1) := by decide +kernel
theorem dR_write_165 : decode cR_write 165 = .ok (.iadd, 1) := by decide +kernel
theorem dR_write_166 : decode cR_write 166 = .ok (.iload 9, 2) := by decide +kernel
theorem dR_write_168 : decode cR_write 168 = .ok (.bipush 16, 2) := by decide +kernel
theorem dR_write_170 : decode cR_write 170 = .ok (.irem, 1) := by decide +kernel
theorem dR_write_171 : decode cR_write 171 = .ok (.iadd, 1) := by decide +kernel
theorem dR_write_172 : decode cR_write 172 = .ok (.aload_n 0, 1) := by decide +kernel
theorem dR_write_173 : decode cR_write 173 = .ok (.getfield 42, 3) := by decide +kernel
theorem dR_write_176 : decode cR_write 176 = .ok (.iload 9, 2) := by decide +kernel
theorem dR_write_178 : decode cR_write 178 = .ok (.iaload, 1) := by decide +kernel
theorem dR_write_179 : decode cR_write 179 = .ok (.iastore, 1) := by decide +kernel
theorem dR_write_180 : decode cR_write 180 = .ok (.iinc 9 1, 3) := by decide +kernel
theorem dR_write_183 : decode cR_write 183 = .ok (.goto (-38), 3) := by decide +kernel
theorem dR_write_186 : decode cR_write 186 = .ok (.iload 7, 2) := by decide +kernel
theorem dR_write_188 : decode cR_write 188 = .ok (.iconst 2, 1) := by decide +kernel
theorem dR_write_189 : decode cR_write 189 = .ok (.if_icmp .ne 82, 3) := by decide +kernel
theorem dR_write_192 : decode cR_write 192 = .ok (.aload_n 0, 1) := by decide +kernel
theorem dR_write_193 : decode cR_write 193 = .ok (.getfield 39, 3) := by decide +kernel
theorem dR_write_196 : decode cR_write 196 = .ok (.iload 6, 2) := by decide +kernel
theorem dR_write_198 : decode cR_write 198 = .ok (.iconst 4, 1) := by decide +kernel
theorem dR_write_199 : decode cR_write 199 = .ok (.iadd, 1) := by decide +kernel
theorem dR_write_200 : decode cR_write 200 = .ok (.iload 8, 2) := by decide +kernel
theorem dR_write_202 : decode cR_write 202 = .ok (.iastore, 1) := by decide +kernel
theorem dR_write_203 : decode cR_write 203 = .ok (.iconst 0, 1) := by decide +kernel
theorem dR_write_204 : decode cR_write 204 = .ok (.istore 9, 2) := by decide +kernel
theorem dR_write_206 : decode cR_write 206 = .ok (.iload 9, 2) := by decide +kernel
theorem dR_write_208 : decode cR_write 208 = .ok (.iload 8, 2) := by decide +kernel
theorem dR_write_210 : decode cR_write 210 = .ok (.if_icmp .ge 28, 3) := by decide +kernel
theorem dR_write_213 : decode cR_write 213 = .ok (.aload_n 0, 1) := by decide +kernel
theorem dR_write_214 : decode cR_write 214 = .ok (.getfield 39, 3) := by decide +kernel
theorem dR_write_217 : decode cR_write 217 = .ok (.iload 6, 2) := by decide +kernel
theorem dR_write_219 : decode cR_write 219 = .ok (.iconst 5, 1) := by decide +kernel
theorem dR_write_220 : decode cR_write 220 = .ok (.iadd, 1) := by decide +kernel
theorem dR_write_221 : decode cR_write 221 = .ok (.iload 9, 2) := by decide +kernel
theorem dR_write_223 : decode cR_write 223 = .ok (.iadd, 1) := by decide +kernel
theorem dR_write_224 : decode cR_write 224 = .ok (.aload_n 0, 1) := by decide +kernel
theorem dR_write_225 : decode cR_write 225 = .ok (.getfield 48, 3) := by decide +kernel
theorem dR_write_228 : decode cR_write 228 = .ok (.iload 9, 2) := by decide +kernel
theorem dR_write_230 : decode cR_write 230 = .ok (.iaload, 1) := by decide +kernel
theorem dR_write_231 : decode cR_write 231 = .ok (.iastore, 1) := by decide +kernel
theorem dR_write_232 : decode cR_write 232 = .ok (.iinc 9 1, 3) := by decide +kernel
theorem dR_write_235 : decode cR_write 235 = .ok (.goto (-29), 3) := by decide +kernel
theorem dR_write_238 : decode cR_write 238 = .ok (.iconst 0, 1) := by decide +kernel
theorem dR_write_239 : decode cR_write 239 = .ok (.istore 9, 2) := by decide +kernel
theorem dR_write_241 : decode cR_write 241 = .ok (.iload 9, 2) := by decide +kernel
theorem dR_write_243 : decode cR_write 243 = .ok (.bipush 16, 2) := by decide +kernel
theorem dR_write_245 : decode cR_write 245 = .ok (.iload 8, 2) := by decide +kernel
theorem dR_write_247 : decode cR_write 247 = .ok (.imul, 1) := by decide +kernel
theorem dR_write_248 : decode cR_write 248 = .ok (.if_icmp .ge 23, 3) := by decide +kernel
theorem dR_write_251 : decode cR_write 251 = .ok (.aload_n 0, 1) := by decide +kernel
theorem dR_write_252 : decode cR_write 252 = .ok (.getfield 42, 3) := by decide +kernel
theorem dR_write_255 : decode cR_write 255 = .ok (.iload 9, 2) := by decide +kernel
theorem dR_write_257 : decode cR_write 257 = .ok (.aload_n 0, 1) := by decide +kernel
theorem dR_write_258 : decode cR_write 258 = .ok (.getfield 45, 3) := by decide +kernel
theorem dR_write_261 : decode cR_write 261 = .ok (.iload 9, 2) := by decide +kernel
theorem dR_write_263 : decode cR_write 263 = .ok (.iaload, 1) := by decide +kernel
theorem dR_write_264 : decode cR_write 264 = .ok (.iastore, 1) := by decide +kernel
theorem dR_write_265 : decode cR_write 265 = .ok (.iinc 9 1, 3) := by decide +kernel
theorem dR_write_268 : decode cR_write 268 = .ok (.goto (-27), 3) := by decide +kernel
theorem dR_write_271 : decode cR_write 271 = .ok (.iload 8, 2) := by decide +kernel
theorem dR_write_273 : decode cR_write 273 = .ok (.ifCond .ne 5, 3) := by decide +kernel
theorem dR_write_276 : decode cR_write 276 = .ok (.iload_n 3, 1) := by decide +kernel
theorem dR_write_277 : decode cR_write 277 = .ok (.ireturn, 1) := by decide +kernel
theorem dR_write_278 : decode cR_write 278 = .ok (.iload_n 2, 1) := by decide +kernel
theorem dR_write_279 : decode cR_write 279 = .ok (.istore 9, 2) := by decide +kernel
theorem dR_write_281 : decode cR_write 281 = .ok (.iload 9, 2) := by decide +kernel
theorem dR_write_283 : decode cR_write 283 = .ok (.iload 8, 2) := by decide +kernel
theorem dR_write_285 : decode cR_write 285 = .ok (.iadd, 1) := by decide +kernel
theorem dR_write_286 : decode cR_write 286 = .ok (.iload_n 3, 1) := by decide +kernel
theorem dR_write_287 : decode cR_write 287 = .ok (.if_icmp .gt 25, 3) := by decide +kernel
theorem dR_write_290 : decode cR_write 290 = .ok (.iload 4, 2) := by decide +kernel
theorem dR_write_292 : decode cR_write 292 = .ok (.ifCond .eq 14, 3) := by decide +kernel
theorem dR_write_295 : decode cR_write 295 = .ok (.aload_n 0, 1) := by decide +kernel
theorem dR_write_296 : decode cR_write 296 = .ok (.iload 9, 2) := by decide +kernel
theorem dR_write_298 : decode cR_write 298 = .ok (.iload 8, 2) := by decide +kernel
theorem dR_write_300 : decode cR_write 300 = .ok (.invokevirtual 114, 3) := by decide +kernel
theorem dR_write_303 : decode cR_write 303 = .ok (.ifCond .ne 9, 3) := by decide +kernel
theorem dR_write_306 : decode cR_write 306 = .ok (.iinc 9 1, 3) := by decide +kernel
theorem dR_write_309 : decode cR_write 309 = .ok (.goto (-28), 3) := by decide +kernel
theorem dR_write_312 : decode cR_write 312 = .ok (.iload 9, 2) := by decide +kernel
theorem dR_write_314 : decode cR_write 314 = .ok (.iload 8, 2) := by decide +kernel
theorem dR_write_316 : decode cR_write 316 = .ok (.iadd, 1) := by decide +kernel
theorem dR_write_317 : decode cR_write 317 = .ok (.iload_n 3, 1) := by decide +kernel
theorem dR_write_318 : decode cR_write 318 = .ok (.if_icmp .gt 16, 3) := by decide +kernel
theorem dR_write_321 : decode cR_write 321 = .ok (.aload_n 0, 1) := by decide +kernel
theorem dR_write_322 : decode cR_write 322 = .ok (.getfield 39, 3) := by decide +kernel
theorem dR_write_325 : decode cR_write 325 = .ok (.iload 6, 2) := by decide +kernel
theorem dR_write_327 : decode cR_write 327 = .ok (.iconst 2, 1) := by decide +kernel
theorem dR_write_328 : decode cR_write 328 = .ok (.iadd, 1) := by decide +kernel
theorem dR_write_329 : decode cR_write 329 = .ok (.iload 9, 2) := by decide +kernel
theorem dR_write_331 : decode cR_write 331 = .ok (.iastore, 1) := by decide +kernel
theorem dR_write_332 : decode cR_write 332 = .ok (.iload_n 3, 1) := by decide +kernel
theorem dR_write_333 : decode cR_write 333 = .ok (.ireturn, 1) := by decide +kernel
theorem dR_write_334 : decode cR_write 334 = .ok (.aload_n 0, 1) := by decide +kernel
theorem dR_write_335 : decode cR_write 335 = .ok (.getfield 39, 3) := by decide +kernel
theorem dR_write_338 : decode cR_write 338 = .ok (.iload 6, 2) := by decide +kernel
theorem dR_write_340 : decode cR_write 340 = .ok (.iconst 2, 1) := by decide +kernel
theorem dR_write_341 : decode cR_write 341 = .ok (.iadd, 1) := by decide +kernel
theorem dR_write_342 : decode cR_write 342 = .ok (.iload_n 3, 1) := by decide +kernel
theorem dR_write_343 : decode cR_write 343 = .ok (.iastore, 1) := by decide +kernel
theorem dR_write_344 : decode cR_write 344 = .ok (.iconst 0, 1) := by decide +kernel
theorem dR_write_345 : decode cR_write 345 = .ok (.istore 10, 2) := by decide +kernel
theorem dR_write_347 : decode cR_write 347 = .ok (.iload_n 3, 1) := by decide +kernel
theorem dR_write_348 : decode cR_write 348 = .ok (.iload 8, 2) := by decide +kernel
theorem dR_write_350 : decode cR_write 350 = .ok (.iadd, 1) := by decide +kernel
theorem dR_write_351 : decode cR_write 351 = .ok (.bipush 64, 2) := by decide +kernel
theorem dR_write_353 : decode cR_write 353 = .ok (.if_icmp .gt 38, 3) := by decide +kernel
theorem dR_write_356 : decode cR_write 356 = .ok (.iload 10, 2) := by decide +kernel
theorem dR_write_358 : decode cR_write 358 = .ok (.bipush 16, 2) := by decide +kernel
theorem dR_write_360 : decode cR_write 360 = .ok (.iload 8, 2) := by decide +kernel
theorem dR_write_362 : decode cR_write 362 = .ok (.imul, 1) := by decide +kernel
theorem dR_write_363 : decode cR_write 363 = .ok (.if_icmp .ge 28, 3) := by decide +kernel
theorem dR_write_366 : decode cR_write 366 = .ok (.aload_n 0, 1) := by decide +kernel
theorem dR_write_367 : decode cR_write 367 = .ok (.getfield 39, 3) := by decide +kernel
theorem dR_write_370 : decode cR_write 370 = .ok (.bipush 16, 2) := by decide +kernel
theorem dR_write_372 : decode cR_write 372 = .ok (.iload_n 3, 1) := by decide +kernel
theorem dR_write_373 : decode cR_write 373 = .ok (.imul, 1) := by decide +kernel
theorem dR_write_374 : decode cR_write 374 = .ok (.iload 10, 2) := by decide +kernel
theorem dR_write_376 : decode cR_write 376 = .ok (.iadd, 1) := by decide +kernel
theorem dR_write_377 : decode cR_write 377 = .ok (.aload_n 0, 1) := by decide +kernel
theorem dR_write_378 : decode cR_write 378 = .ok (.getfield 42, 3) := by decide +kernel
theorem dR_write_381 : decode cR_write 381 = .ok (.iload 10, 2) := by decide +kernel
theorem dR_write_383 : decode cR_write 383 = .ok (.iaload, 1) := by decide +kernel
theorem dR_write_384 : decode cR_write 384 = .ok (.iastore, 1) := by decide +kernel
theorem dR_write_385 : decode cR_write 385 = .ok (.iinc 10 1, 3) := by decide +kernel
theorem dR_write_388 : decode cR_write 388 = .ok (.goto (-41), 3) := by decide +kernel
theorem dR_write_391 : decode cR_write 391 = .ok (.iload_n 3, 1) := by decide +kernel
theorem dR_write_392 : decode cR_write 392 = .ok (.iload 8, 2) := by decide +kernel
theorem dR_write_394 : decode cR_write 394 = .ok (.iadd, 1) := by decide +kernel
theorem dR_write_395 : decode cR_write 395 = .ok (.ireturn, 1) := by decide +kernel
theorem dR_build_0 : decode cR_build 0 = .ok (.aload_n 0, 1) := by decide +kernel
theorem dR_build_1 : decode cR_build 1 = .ok (.iload_n 1, 1) := by decide +kernel
theorem dR_build_2 : decode cR_build 2 = .ok (.ifCond .lt 9, 3) := by decide +kernel
theorem dR_build_5 : decode cR_build 5 = .ok (.iload_n 1, 1) := by decide +kernel
theorem dR_build_6 : decode cR_build 6 = .ok (.bipush 7, 2) := by decide +kernel
theorem dR_build_8 : decode cR_build 8 = .ok (.if_icmp .le 7, 3) := by decide +kernel
theorem dR_build_11 : decode cR_build 11 = .ok (.iconst 1, 1) := by decide +kernel
theorem dR_build_12 : decode cR_build 12 = .ok (.goto 4, 3) := by decide +kernel
theorem dR_build_15 : decode cR_build 15 = .ok (.iconst 0, 1) := by decide +kernel
theorem dR_build_16 : decode cR_build 16 = .ok (.putfield 69, 3) := by decide +kernel
theorem dR_build_19 : decode cR_build 19 = .ok (.aload_n 0, 1) := by decide +kernel
theorem dR_build_20 : decode cR_build 20 = .ok (.getfield 69, 3) := by decide +kernel
theorem dR_build_23 : decode cR_build 23 = .ok (.ifCond .le 5, 3) := by decide +kernel
theorem dR_build_26 : decode cR_build 26 = .ok (.iconst 0, 1) := by decide +kernel
theorem dR_build_27 : decode cR_build 27 = .ok (.ireturn, 1) := by decide +kernel
theorem dR_build_28 : decode cR_build 28 = .ok (.iconst 0, 1) := by decide +kernel
theorem dR_build_29 : decode cR_build 29 = .ok (.istore_n 2, 1) := by decide +kernel
theorem dR_build_30 : decode cR_build 30 = .ok (.iload_n 2, 1) := by decide +kernel
theorem dR_build_31 : decode cR_build 31 = .ok (.sipush 1024, 3) := by decide +kernel
theorem dR_build_34 : decode cR_build 34 = .ok (.if_icmp .ge 16, 3) := by decide +kernel
theorem dR_build_37 : decode cR_build 37 = .ok (.aload_n 0, 1) := by decide +kernel
theorem dR_build_38 : decode cR_build 38 = .ok (.getfield 39, 3) := by decide +kernel
theorem dR_build_41 : decode cR_build 41 = .ok (.iload_n 2, 1) := by decide +kernel
theorem dR_build_42 : decode cR_build 42 = .ok (.iconst 0, 1) := by decide +kernel
theorem dR_build_43 : decode cR_build 43 = .ok (.iastore, 1) := by decide +kernel
theorem dR_build_44 : decode cR_build 44 = .ok (.iinc 2 1, 3) := by decide +kernel
theorem dR_build_47 : decode cR_build 47 = .ok (.goto (-17), 3) := by decide +kernel
theorem dR_build_50 : decode cR_build 50 = .ok (.iconst 0, 1) := by decide +kernel
theorem dR_build_51 : decode cR_build 51 = .ok (.istore_n 2, 1) := by decide +kernel
theorem dR_build_52 : decode cR_build 52 = .ok (.iconst 0, 1) := by decide +kernel
theorem dR_build_53 : decode cR_build 53 = .ok (.istore_n 3, 1) := by decide +kernel
theorem dR_build_54 : decode cR_build 54 = .ok (.iload_n 3, 1) := by decide +kernel
theorem dR_build_55 : decode cR_build 55 = .ok (.aload_n 0, 1) := by decide +kernel
theorem dR_build_56 : decode cR_build 56 = .ok (.getfield 7, 3) := by decide +kernel
theorem dR_build_59 : decode cR_build 59 = .ok (.if_icmp .ge 51, 3) := by decide +kernel
theorem dR_build_62 : decode cR_build 62 = .ok (.aload_n 0, 1) := by decide +kernel
theorem dR_build_63 : decode cR_build 63 = .ok (.getfield 26, 3) := by decide +kernel
theorem dR_build_66 : decode cR_build 66 = .ok (.iload_n 3, 1) := by decide +kernel
theorem dR_build_67 : decode cR_build 67 = .ok (.iaload, 1) := by decide +kernel
theorem dR_build_68 : decode cR_build 68 = .ok (.ifCond .ne 6, 3) := by decide +kernel
theorem dR_build_71 : decode cR_build 71 = .ok (.goto 33, 3) := by decide +kernel
theorem dR_build_74 : decode cR_build 74 = .ok (.aload_n 0, 1) := by decide +kernel
theorem dR_build_75 : decode cR_build 75 = .ok (.iload_n 3, 1) := by decide +kernel
theorem dR_build_76 : decode cR_build 76 = .ok (.iload_n 1, 1) := by decide +kernel
theorem dR_build_77 : decode cR_build 77 = .ok (.invokevirtual 117, 3) := by decide +kernel
theorem dR_build_80 : decode cR_build 80 = .ok (.aload_n 0, 1) := by decide +kernel
theorem dR_build_81 : decode cR_build 81 = .ok (.getfield 29, 3) := by decide +kernel
theorem dR_build_84 : decode cR_build 84 = .ok (.iload_n 3, 1) := by decide +kernel
theorem dR_build_85 : decode cR_build 85 = .ok (.iload_n 2, 1) := by decide +kernel
theorem dR_build_86 : decode cR_build 86 = .ok (.iastore, 1) := by decide +kernel
theorem dR_build_87 : decode cR_build 87 = .ok (.iload_n 2, 1) := by decide +kernel
theorem dR_build_88 : decode cR_build 88 = .ok (.aload_n 0, 1) := by decide +kernel
theorem dR_build_89 : decode cR_build 89 = .ok (.getfield 35, 3) := by decide +kernel
theorem dR_build_92 : decode cR_build 92 = .ok (.iload_n 3, 1) := by decide +kernel
theorem dR_build_93 : decode cR_build 93 = .ok (.baload, 1) := by decide +kernel
theorem dR_build_94 : decode cR_build 94 = .ok (.ifCond .eq 7, 3) := by decide +kernel
theorem dR_build_97 : decode cR_build 97 = .ok (.iconst 2, 1) := by decide +kernel
theorem dR_build_98 : decode cR_build 98 = .ok (.goto 4, 3) := by decide +kernel
theorem dR_build_101 : decode cR_build 101 = .ok (.iconst 1, 1) := by decide +kernel
theorem dR_build_102 : decode cR_build 102 = .ok (.iadd, 1) := by decide +kernel
theorem dR_build_103 : decode cR_build 103 = .ok (.istore_n 2, 1) := by decide +kernel
theorem dR_build_104 : decode cR_build 104 = .ok (.iinc 3 1, 3) := by decide +kernel
theorem dR_build_107 : decode cR_build 107 = .ok (.goto (-53), 3) := by decide +kernel
theorem dR_build_110 : decode cR_build 110 = .ok (.iconst 1, 1) := by decide +kernel
theorem dR_build_111 : decode cR_build 111 = .ok (.iload_n 2, 1) := by decide +kernel
theorem dR_build_112 : decode cR_build 112 = .ok (.iconst 1, 1) := by decide +kernel
theorem dR_build_113 : decode cR_build 113 = .ok (.iadd, 1) := by decide +kernel
theorem dR_build_114 : decode cR_build 114 = .ok (.iconst 2, 1) := by decide +kernel
theorem dR_build_115 : decode cR_build 115 = .ok (.idiv, 1) := by decide +kernel
theorem dR_build_116 : decode cR_build 116 = .ok (.iadd, 1) := by decide +kernel
theorem dR_build_117 : decode cR_build 117 = .ok (.istore_n 3, 1) := by decide +kernel
theorem dR_build_118 : decode cR_build 118 = .ok (.iload_n 3, 1) := by decide +kernel
theorem dR_build_119 : decode cR_build 119 = .ok (.istore 4, 2) := by decide +kernel
theorem dR_build_121 : decode cR_build 121 = .ok (.iconst 0, 1) := by decide +kernel
theorem dR_build_122 : decode cR_build 122 = .ok (.istore 5, 2) := by decide +kernel
theorem dR_build_124 : decode cR_build 124 = .ok (.iload 5, 2) := by decide +kernel
theorem dR_build_126 : decode cR_build 126 = .ok (.aload_n 0, 1) := by decide +kernel
theorem dR_build_127 : decode cR_build 127 = .ok (.getfield 7, 3) := by decide +kernel
theorem dR_build_130 : decode cR_build 130 = .ok (.if_icmp .ge 48, 3) := by decide +kernel
theorem dR_build_133 : decode cR_build 133 = .ok (.iload 4, 2) := by decide +kernel
theorem dR_build_135 : decode cR_build 135 = .ok (.bipush 64, 2) := by decide +kernel
theorem dR_build_137 : decode cR_build 137 = .ok (.if_icmp .gt 41, 3) := by decide +kernel
theorem dR_build_140 : decode cR_build 140 = .ok (.aload_n 0, 1) := by decide +kernel
theorem dR_build_141 : decode cR_build 141 = .ok (.getfield 26, 3) := by decide +kernel
theorem dR_build_144 : decode cR_build 144 = .ok (.iload 5, 2) := by decide +kernel
theorem dR_build_146 : decode cR_build 146 = .ok (.iaload, 1) := by decide +kernel
theorem dR_build_147 : decode cR_build 147 = .ok (.ifCond .le 25, 3) := by decide +kernel
theorem dR_build_150 : decode cR_build 150 = .ok (.aload_n 0, 1) := by decide +kernel
theorem dR_build_151 : decode cR_build 151 = .ok (.iload 5, 2) := by decide +kernel
theorem dR_build_153 : decode cR_build 153 = .ok (.iload_n 3, 1) := by decide +kernel
theorem dR_build_154 : decode cR_build 154 = .ok (.iload 4, 2) := by decide +kernel
theorem dR_build_156 : decode cR_build 156 = .ok (.iload_n 1, 1) := by decide +kernel
theorem dR_build_157 : decode cR_build 157 = .ok (.iconst 2, 1) := by decide +kernel
theorem dR_build_158 : decode cR_build 158 = .ok (.iand, 1) := by decide +kernel
theorem dR_build_159 : decode cR_build 159 = .ok (.ifCond .eq 7, 3) := by decide +kernel
theorem dR_build_162 : decode cR_build 162 = .ok (.iconst 1, 1) := by decide +kernel
theorem dR_build_163 : decode cR_build 163 = .ok (.goto 4, 3) := by decide +kernel
theorem dR_build_166 : decode cR_build 166 = .ok (.iconst 0, 1) := by decide +kernel
theorem dR_build_167 : decode cR_build 167 = .ok (.invokevirtual 121, 3) := by decide +kernel
theorem dR_build_170 : decode cR_build 170 = .ok (.istore 4, 2) := by decide +kernel
theorem dR_build_172 : decode cR_build 172 = .ok (.iinc 5 1, 3) := by decide +kernel
theorem dR_build_175 : decode cR_build 175 = .ok (.goto (-51), 3) := by decide +kernel
theorem dR_build_178 : decode cR_build 178 = .ok (.iload 4, 2) := by decide +kernel
theorem dR_build_180 : decode cR_build 180 = .ok (.bipush 64, 2) := by decide +kernel
theorem dR_build_182 : decode cR_build 182 = .ok (.if_icmp .le 9, 3) := by decide +kernel
theorem dR_build_185 : decode cR_build 185 = .ok (.aload_n 0, 1) := by decide +kernel
theorem dR_build_186 : decode cR_build 186 = .ok (.iconst 2, 1) := by decide +kernel
theorem dR_build_187 : decode cR_build 187 = .ok (.invokevirtual 125, 3) := by decide +kernel
theorem dR_build_190 : decode cR_build 190 = .ok (.ireturn, 1) := by decide +kernel
theorem dR_build_191 : decode cR_build 191 = .ok (.iconst 0, 1) := by decide +kernel
theorem dR_build_192 : decode cR_build 192 = .ok (.istore 5, 2) := by decide +kernel
theorem dR_build_194 : decode cR_build 194 = .ok (.iload 5, 2) := by decide +kernel
theorem dR_build_196 : decode cR_build 196 = .ok (.sipush 1024, 3) := by decide +kernel
theorem dR_build_199 : decode cR_build 199 = .ok (.if_icmp .ge 23, 3) := by decide +kernel
theorem dR_build_202 : decode cR_build 202 = .ok (.aload_n 0, 1) := by decide +kernel
theorem dR_build_203 : decode cR_build 203 = .ok (.getfield 51, 3) := by decide +kernel
theorem dR_build_206 : decode cR_build 206 = .ok (.iload 5, 2) := by decide +kernel
theorem dR_build_208 : decode cR_build 208 = .ok (.aload_n 0, 1) := by decide +kernel
theorem dR_build_209 : decode cR_build 209 = .ok (.getfield 39, 3) := by decide +kernel
theorem dR_build_212 : decode cR_build 212 = .ok (.iload 5, 2) := by decide +kernel
theorem dR_build_214 : decode cR_build 214 = .ok (.iaload, 1) := by decide +kernel
theorem dR_build_215 : decode cR_build 215 = .ok (.iastore, 1) := by decide +kernel
theorem dR_build_216 : decode cR_build 216 = .ok (.iinc 5 1, 3) := by decide +kernel
theorem dR_build_219 : decode cR_build 219 = .ok (.goto (-25), 3) := by decide +kernel
theorem dR_build_222 : decode cR_build 222 = .ok (.aload_n 0, 1) := by decide +kernel
theorem dR_build_223 : decode cR_build 223 = .ok (.getfield 51, 3) := by decide +kernel
theorem dR_build_226 : decode cR_build 226 = .ok (.iconst 0, 1) := by decide +kernel
theorem dR_build_227 : decode cR_build 227 = .ok (.sipush 225, 3) := by decide +kernel
theorem dR_build_230 : decode cR_build 230 = .ok (.iastore, 1) := by decide +kernel
theorem dR_build_231 : decode cR_build 231 = .ok (.aload_n 0, 1) := by decide +kernel
theorem dR_build_232 : decode cR_build 232 = .ok (.getfield 51, 3) := by decide +kernel
theorem dR_build_235 : decode cR_build 235 = .ok (.iconst 1, 1) := by decide +kernel
theorem dR_build_236 : decode cR_build 236 = .ok (.sipush 245, 3) := by decide +kernel
theorem dR_build_239 : decode cR_build 239 = .ok (.iastore, 1) := by decide +kernel
theorem dR_build_240 : decode cR_build 240 = .ok (.aload_n 0, 1) := by decide +kernel
theorem dR_build_241 : decode cR_build 241 = .ok (.getfield 51, 3) := by decide +kernel
theorem dR_build_244 : decode cR_build 244 = .ok (.iconst 2, 1) := by decide +kernel
theorem dR_build_245 : decode cR_build 245 = .ok (.iload_n 1, 1) := by decide +kernel
theorem dR_build_246 : decode cR_build 246 = .ok (.iastore, 1) := by decide +kernel
theorem dR_build_247 : decode cR_build 247 = .ok (.aload_n 0, 1) := by decide +kernel
theorem dR_build_248 : decode cR_build 248 = .ok (.getfield 51, 3) := by decide +kernel
theorem dR_build_251 : decode cR_build 251 = .ok (.iconst 3, 1) := by decide +kernel
theorem dR_build_252 : decode cR_build 252 = .ok (.iload_n 2, 1) := by decide +kernel
theorem dR_build_253 : decode cR_build 253 = .ok (.iastore, 1) := by decide +kernel
theorem dR_build_254 : decode cR_build 254 = .ok (.aload_n 0, 1) := by decide +kernel
theorem dR_build_255 : decode cR_build 255 = .ok (.getfield 51, 3) := by decide +kernel
theorem dR_build_258 : decode cR_build 258 = .ok (.iconst 4, 1) := by decide +kernel
theorem dR_build_259 : decode cR_build 259 = .ok (.iload 4, 2) := by decide +kernel
theorem dR_build_261 : decode cR_build 261 = .ok (.iastore, 1) := by decide +kernel
theorem dR_build_262 : decode cR_build 262 = .ok (.aload_n 0, 1) := by decide +kernel
theorem dR_build_263 : decode cR_build 263 = .ok (.invokevirtual 128, 3) := by decide +kernel
theorem dR_build_266 : decode cR_build 266 = .ok (.iload 4, 2) := by decide +kernel
theorem dR_build_268 : decode cR_build 268 = .ok (.ireturn, 1) := by decide +kernel
theorem dR_check1_0 : decode cR_check1 0 = .ok (.ldc 131, 2) := by decide +kernel
theorem dR_check1_2 : decode cR_check1 2 = .ok (.istore_n 2, 1) := by decide +kernel
theorem dR_check1_3 : decode cR_check1 3 = .ok (.iconst 0, 1) := by decide +kernel
theorem dR_check1_4 : decode cR_check1 4 = .ok (.istore_n 3, 1) := by decide +kernel
theorem dR_check1_5 : decode cR_check1 5 = .ok (.iload_n 3, 1) := by decide +kernel
theorem dR_check1_6 : decode cR_check1 6 = .ok (.iload_n 1, 1) := by decide +kernel
theorem dR_check1_7 : decode cR_check1 7 = .ok (.if_icmp .ge 68, 3) := by decide +kernel
theorem dR_check1_10 : decode cR_check1 10 = .ok (.aload_n 0, 1) := by decide +kernel
theorem dR_check1_11 : decode cR_check1 11 = .ok (.getfield 51, 3) := by decide +kernel
theorem dR_check1_14 : decode cR_check1 14 = .ok (.iload_n 3, 1) := by decide +kernel
theorem dR_check1_15 : decode cR_check1 15 = .ok (.bipush 8, 2) := by decide +kernel
theorem dR_check1_17 : decode cR_check1 17 = .ok (.idiv, 1) := by decide +kernel
theorem dR_check1_18 : decode cR_check1 18 = .ok (.iaload, 1) := by decide +kernel
theorem dR_check1_19 : decode cR_check1 19 = .ok (.bipush 7, 2) := by decide +kernel
theorem dR_check1_21 : decode cR_check1 21 = .ok (.iload_n 3, 1) := by decide +kernel
theorem dR_check1_22 : decode cR_check1 22 = .ok (.bipush 8, 2) := by decide +kernel
theorem dR_check1_24 : decode cR_check1 24 = .ok (.irem, 1) := by decide +kernel
theorem dR_check1_25 : decode cR_check1 25 = .ok (.isub, 1) := by decide +kernel
theorem dR_check1_26 : decode cR_check1 26 = .ok (.ishr, 1) := by decide +kernel
theorem dR_check1_27 : decode cR_check1 27 = .ok (.iconst 1, 1) := by decide +kernel
theorem dR_check1_28 : decode cR_check1 28 = .ok (.iand, 1) := by decide +kernel
theorem dR_check1_29 : decode cR_check1 29 = .ok (.istore 4, 2) := by decide +kernel
theorem dR_check1_31 : decode cR_check1 31 = .ok (.iload_n 2, 1) := by decide +kernel
theorem dR_check1_32 : decode cR_check1 32 = .ok (.bipush 15, 2) := by decide +kernel
theorem dR_check1_34 : decode cR_check1 34 = .ok (.ishr, 1) := by decide +kernel
theorem dR_check1_35 : decode cR_check1 35 = .ok (.iload 4, 2) := by decide +kernel
theorem dR_check1_37 : decode cR_check1 37 = .ok (.if_icmp .eq 7, 3) := by decide +kernel
theorem dR_check1_40 : decode cR_check1 40 = .ok (.iconst 1, 1) := by decide +kernel
theorem dR_check1_41 : decode cR_check1 41 = .ok (.goto 4, 3) := by decide +kernel
theorem dR_check1_44 : decode cR_check1 44 = .ok (.iconst 0, 1) := by decide +kernel
theorem dR_check1_45 : decode cR_check1 45 = .ok (.istore 5, 2) := by decide +kernel
theorem dR_check1_47 : decode cR_check1 47 = .ok (.iconst 2, 1) := by decide +kernel
theorem dR_check1_48 : decode cR_check1 48 = .ok (.iload_n 2, 1) := by decide +kernel
theorem dR_check1_49 : decode cR_check1 49 = .ok (.imul, 1) := by decide +kernel
theorem dR_check1_50 : decode cR_check1 50 = .ok (.ldc 131, 2) := by decide +kernel
theorem dR_check1_52 : decode cR_check1 52 = .ok (.iand, 1) := by decide +kernel
theorem dR_check1_53 : decode cR_check1 53 = .ok (.istore_n 2, 1) := by decide +kernel
theorem dR_check1_54 : decode cR_check1 54 = .ok (.iload 5, 2) := by decide +kernel
theorem dR_check1_56 : decode cR_check1 56 = .ok (.ifCond .eq 11, 3) := by decide +kernel
theorem dR_check1_59 : decode cR_check1 59 = .ok (.iload_n 2, 1) := by decide +kernel
theorem dR_check1_60 : decode cR_check1 60 = .ok (.sipush 4129, 3) := by decide +kernel
theorem dR_check1_63 : decode cR_check1 63 = .ok (.ixor, 1) := by decide +kernel
theorem dR_check1_64 : decode cR_check1 64 = .ok (.goto 4, 3) := by decide +kernel
theorem dR_check1_67 : decode cR_check1 67 = .ok (.iload_n 2, 1) := by decide +kernel
theorem dR_check1_68 : decode cR_check1 68 = .ok (.istore_n 2, 1) := by decide +kernel
theorem dR_check1_69 : decode cR_check1 69 = .ok (.iinc 3 1, 3) := by decide +kernel
theorem dR_check1_72 : decode cR_check1 72 = .ok (.goto (-67), 3) := by decide +kernel
theorem dR_check1_75 : decode cR_check1 75 = .ok (.iload_n 2, 1) := by decide +kernel
theorem dR_check1_76 : decode cR_check1 76 = .ok (.ireturn, 1) := by decide +kernel
