theorem dX8_turnsOf_27 : decode cX8_turnsOf 27 = .ok (.iload_n 1, 1) := by decide +kernel
theorem dX8_turnsOf_28 : decode cX8_turnsOf 28 = .ok (.if_icmp .ne 29, 3) := by decide +kernel
theorem dX8_turnsOf_31 : decode cX8_turnsOf 31 = .ok (.aload_n 0, 1) := by decide +kernel
theorem dX8_turnsOf_32 : decode cX8_turnsOf 32 = .ok (.getfield 45, 3) := by decide +kernel
theorem dX8_turnsOf_35 : decode cX8_turnsOf 35 = .ok (.aload_n 0, 1) := by decide +kernel
theorem dX8_turnsOf_36 : decode cX8_turnsOf 36 = .ok (.getfield 60, 3) := by decide +kernel
theorem dX8_turnsOf_39 : decode cX8_turnsOf 39 = .ok (.iload 4, 2) := by decide +kernel
theorem dX8_turnsOf_41 : decode cX8_turnsOf 41 = .ok (.iaload, 1) := by decide +kernel
theorem dX8_turnsOf_42 : decode cX8_turnsOf 42 = .ok (.iaload, 1) := by decide +kernel
theorem dX8_turnsOf_43 : decode cX8_turnsOf 43 = .ok (.iload_n 2, 1) := by decide +kernel
theorem dX8_turnsOf_44 : decode cX8_turnsOf 44 = .ok (.if_icmp .ne 13, 3) := by decide +kernel
theorem dX8_turnsOf_47 : decode cX8_turnsOf 47 = .ok (.aload_n 0, 1) := by decide +kernel
theorem dX8_turnsOf_48 : decode cX8_turnsOf 48 = .ok (.getfield 66, 3) := by decide +kernel
theorem dX8_turnsOf_51 : decode cX8_turnsOf 51 = .ok (.iload 4, 2) := by decide +kernel
theorem dX8_turnsOf_53 : decode cX8_turnsOf 53 = .ok (.iaload, 1) := by decide +kernel
theorem dX8_turnsOf_54 : decode cX8_turnsOf 54 = .ok (.goto 4, 3) := by decide +kernel
theorem dX8_turnsOf_57 : decode cX8_turnsOf 57 = .ok (.iconst 0, 1) := by decide +kernel
theorem dX8_turnsOf_58 : decode cX8_turnsOf 58 = .ok (.iadd, 1) := by decide +kernel
theorem dX8_turnsOf_59 : decode cX8_turnsOf 59 = .ok (.istore_n 3, 1) := by decide +kernel
theorem dX8_turnsOf_60 : decode cX8_turnsOf 60 = .ok (.iinc 4 1, 3) := by decide +kernel
theorem dX8_turnsOf_63 : decode cX8_turnsOf 63 = .ok (.goto (-58), 3) := by decide +kernel
theorem dX8_turnsOf_66 : decode cX8_turnsOf 66 = .ok (.iload_n 3, 1) := by decide +kernel
theorem dX8_turnsOf_67 : decode cX8_turnsOf 67 = .ok (.ireturn, 1) := by decide +kernel
theorem dX8_turns_0 : decode cX8_turns 0 = .ok (.aload_n 0, 1) := by decide +kernel
theorem dX8_turns_1 : decode cX8_turns 1 = .ok (.iload_n 1, 1) := by decide +kernel
theorem dX8_turns_2 : decode cX8_turns 2 = .ok (.invokevirtual 139, 3) := by decide +kernel
theorem dX8_turns_5 : decode cX8_turns 5 = .ok (.ifCond .eq 20, 3) := by decide +kernel
theorem dX8_turns_8 : decode cX8_turns 8 = .ok (.aload_n 0, 1) := by decide +kernel
theorem dX8_turns_9 : decode cX8_turns 9 = .ok (.iload_n 2, 1) := by decide +kernel
theorem dX8_turns_10 : decode cX8_turns 10 = .ok (.invokevirtual 143, 3) := by decide +kernel
theorem dX8_turns_13 : decode cX8_turns 13 = .ok (.ifCond .eq 12, 3) := by decide +kernel
theorem dX8_turns_16 : decode cX8_turns 16 = .ok (.aload_n 0, 1) := by decide +kernel
theorem dX8_turns_17 : decode cX8_turns 17 = .ok (.iload_n 1, 1) := by decide +kernel
theorem dX8_turns_18 : decode cX8_turns 18 = .ok (.iload_n 2, 1) := by decide +kernel
theorem dX8_turns_19 : decode cX8_turns 19 = .ok (.invokevirtual 186, 3) := by decide +kernel
theorem dX8_turns_22 : decode cX8_turns 22 = .ok (.goto 8, 3) := by decide +kernel
theorem dX8_turns_25 : decode cX8_turns 25 = .ok (.aload_n 0, 1) := by decide +kernel
theorem dX8_turns_26 : decode cX8_turns 26 = .ok (.iconst (-1), 1) := by decide +kernel
theorem dX8_turns_27 : decode cX8_turns 27 = .ok (.invokevirtual 126, 3) := by decide +kernel
theorem dX8_turns_30 : decode cX8_turns 30 = .ok (.ireturn, 1) := by decide +kernel
theorem dX8_share_0 : decode cX8_share 0 = .ok (.aload_n 0, 1) := by decide +kernel
theorem dX8_share_1 : decode cX8_share 1 = .ok (.iload_n 1, 1) := by decide +kernel
theorem dX8_share_2 : decode cX8_share 2 = .ok (.invokevirtual 139, 3) := by decide +kernel
theorem dX8_share_5 : decode cX8_share 5 = .ok (.ifCond .eq 11, 3) := by decide +kernel
theorem dX8_share_8 : decode cX8_share 8 = .ok (.aload_n 0, 1) := by decide +kernel
theorem dX8_share_9 : decode cX8_share 9 = .ok (.iload_n 2, 1) := by decide +kernel
theorem dX8_share_10 : decode cX8_share 10 = .ok (.invokevirtual 143, 3) := by decide +kernel
theorem dX8_share_13 : decode cX8_share 13 = .ok (.ifCond .ne 9, 3) := by decide +kernel
theorem dX8_share_16 : decode cX8_share 16 = .ok (.aload_n 0, 1) := by decide +kernel
theorem dX8_share_17 : decode cX8_share 17 = .ok (.iconst (-1), 1) := by decide +kernel
theorem dX8_share_18 : decode cX8_share 18 = .ok (.invokevirtual 126, 3) := by decide +kernel
theorem dX8_share_21 : decode cX8_share 21 = .ok (.ireturn, 1) := by decide +kernel
theorem dX8_share_22 : decode cX8_share 22 = .ok (.lconst 0, 1) := by decide +kernel
theorem dX8_share_23 : decode cX8_share 23 = .ok (.lstore_n 3, 1) := by decide +kernel
theorem dX8_share_24 : decode cX8_share 24 = .ok (.lconst 0, 1) := by decide +kernel
theorem dX8_share_25 : decode cX8_share 25 = .ok (.lstore 5, 2) := by decide +kernel
theorem dX8_share_27 : decode cX8_share 27 = .ok (.iconst 0, 1) := by decide +kernel
theorem dX8_share_28 : decode cX8_share 28 = .ok (.istore 7, 2) := by decide +kernel
theorem dX8_share_30 : decode cX8_share 30 = .ok (.iload 7, 2) := by decide +kernel
theorem dX8_share_32 : decode cX8_share 32 = .ok (.aload_n 0, 1) := by decide +kernel
theorem dX8_share_33 : decode cX8_share 33 = .ok (.getfield 115, 3) := by decide +kernel
theorem dX8_share_36 : decode cX8_share 36 = .ok (.if_icmp .ge 38, 3) := by decide +kernel
theorem dX8_share_39 : decode cX8_share 39 = .ok (.lload_n 3, 1) := by decide +kernel
theorem dX8_share_40 : decode cX8_share 40 = .ok (.aload_n 0, 1) := by decide +kernel
theorem dX8_share_41 : decode cX8_share 41 = .ok (.getfield 72, 3) := by decide +kernel
theorem dX8_share_44 : decode cX8_share 44 = .ok (.bipush 6, 2) := by decide +kernel
theorem dX8_share_46 : decode cX8_share 46 = .ok (.iload 7, 2) := by decide +kernel
theorem dX8_share_48 : decode cX8_share 48 = .ok (.imul, 1) := by decide +kernel
theorem dX8_share_49 : decode cX8_share 49 = .ok (.iload_n 2, 1) := by decide +kernel
theorem dX8_share_50 : decode cX8_share 50 = .ok (.iadd, 1) := by decide +kernel
theorem dX8_share_51 : decode cX8_share 51 = .ok (.iaload, 1) := by decide +kernel
theorem dX8_share_52 : decode cX8_share 52 = .ok (.i2l, 1) := by decide +kernel
theorem dX8_share_53 : decode cX8_share 53 = .ok (.ladd, 1) := by decide +kernel
theorem dX8_share_54 : decode cX8_share 54 = .ok (.lstore_n 3, 1) := by decide +kernel
theorem dX8_share_55 : decode cX8_share 55 = .ok (.lload 5, 2) := by decide +kernel
theorem dX8_share_57 : decode cX8_share 57 = .ok (.aload_n 0, 1) := by decide +kernel
theorem dX8_share_58 : decode cX8_share 58 = .ok (.iload 7, 2) := by decide +kernel
theorem dX8_share_60 : decode cX8_share 60 = .ok (.iload_n 2, 1) := by decide +kernel
theorem dX8_share_61 : decode cX8_share 61 = .ok (.invokevirtual 186, 3) := by decide +kernel
theorem dX8_share_64 : decode cX8_share 64 = .ok (.i2l, 1) := by decide +kernel
theorem dX8_share_65 : decode cX8_share 65 = .ok (.ladd, 1) := by decide +kernel
theorem dX8_share_66 : decode cX8_share 66 = .ok (.lstore 5, 2) := by decide +kernel
theorem dX8_share_68 : decode cX8_share 68 = .ok (.iinc 7 1, 3) := by decide +kernel
theorem dX8_share_71 : decode cX8_share 71 = .ok (.goto (-41), 3) := by decide +kernel
theorem dX8_share_74 : decode cX8_share 74 = .ok (.lload_n 3, 1) := by decide +kernel
theorem dX8_share_75 : decode cX8_share 75 = .ok (.lconst 0, 1) := by decide +kernel
theorem dX8_share_76 : decode cX8_share 76 = .ok (.lcmp, 1) := by decide +kernel
theorem dX8_share_77 : decode cX8_share 77 = .ok (.ifCond .le 15, 3) := by decide +kernel
theorem dX8_share_80 : decode cX8_share 80 = .ok (.lload_n 3, 1) := by decide +kernel
theorem dX8_share_81 : decode cX8_share 81 = .ok (.aload_n 0, 1) := by decide +kernel
theorem dX8_share_82 : decode cX8_share 82 = .ok (.getfield 7, 3) := by decide +kernel
theorem dX8_share_85 : decode cX8_share 85 = .ok (.iload_n 2, 1) := by decide +kernel
theorem dX8_share_86 : decode cX8_share 86 = .ok (.iaload, 1) := by decide +kernel
theorem dX8_share_87 : decode cX8_share 87 = .ok (.i2l, 1) := by decide +kernel
theorem dX8_share_88 : decode cX8_share 88 = .ok (.lmul, 1) := by decide +kernel
theorem dX8_share_89 : decode cX8_share 89 = .ok (.goto 4, 3) := by decide +kernel
theorem dX8_share_92 : decode cX8_share 92 = .ok (.lconst 0, 1) := by decide +kernel
theorem dX8_share_93 : decode cX8_share 93 = .ok (.lstore_n 3, 1) := by decide +kernel
theorem dX8_share_94 : decode cX8_share 94 = .ok (.lload 5, 2) := by decide +kernel
theorem dX8_share_96 : decode cX8_share 96 = .ok (.lconst 0, 1) := by decide +kernel
theorem dX8_share_97 : decode cX8_share 97 = .ok (.lcmp, 1) := by decide +kernel
theorem dX8_share_98 : decode cX8_share 98 = .ok (.ifCond .eq 9, 3) := by decide +kernel
theorem dX8_share_101 : decode cX8_share 101 = .ok (.lload_n 3, 1) := by decide +kernel
theorem dX8_share_102 : decode cX8_share 102 = .ok (.lconst 0, 1) := by decide +kernel
theorem dX8_share_103 : decode cX8_share 103 = .ok (.lcmp, 1) := by decide +kernel
theorem dX8_share_104 : decode cX8_share 104 = .ok (.ifCond .ne 5, 3) := by decide +kernel
theorem dX8_share_107 : decode cX8_share 107 = .ok (.iconst 0, 1) := by decide +kernel
theorem dX8_share_108 : decode cX8_share 108 = .ok (.ireturn, 1) := by decide +kernel
theorem dX8_share_109 : decode cX8_share 109 = .ok (.lload_n 3, 1) := by decide +kernel
theorem dX8_share_110 : decode cX8_share 110 = .ok (.lstore 7, 2) := by decide +kernel
theorem dX8_share_112 : decode cX8_share 112 = .ok (.iconst 0, 1) := by decide +kernel
theorem dX8_share_113 : decode cX8_share 113 = .ok (.istore 9, 2) := by decide +kernel
theorem dX8_share_115 : decode cX8_share 115 = .ok (.iload 9, 2) := by decide +kernel
theorem dX8_share_117 : decode cX8_share 117 = .ok (.aload_n 0, 1) := by decide +kernel
theorem dX8_share_118 : decode cX8_share 118 = .ok (.getfield 115, 3) := by decide +kernel
theorem dX8_share_121 : decode cX8_share 121 = .ok (.if_icmp .ge 27, 3) := by decide +kernel
theorem dX8_share_124 : decode cX8_share 124 = .ok (.lload 7, 2) := by decide +kernel
theorem dX8_share_126 : decode cX8_share 126 = .ok (.lload_n 3, 1) := by decide +kernel
theorem dX8_share_127 : decode cX8_share 127 = .ok (.aload_n 0, 1) := by decide +kernel
theorem dX8_share_128 : decode cX8_share 128 = .ok (.iload 9, 2) := by decide +kernel
theorem dX8_share_130 : decode cX8_share 130 = .ok (.iload_n 2, 1) := by decide +kernel
theorem dX8_share_131 : decode cX8_share 131 = .ok (.invokevirtual 186, 3) := by decide +kernel
theorem dX8_share_134 : decode cX8_share 134 = .ok (.i2l, 1) := by decide +kernel
theorem dX8_share_135 : decode cX8_share 135 = .ok (.lmul, 1) := by decide +kernel
theorem dX8_share_136 : decode cX8_share 136 = .ok (.lload 5, 2) := by decide +kernel
theorem dX8_share_138 : decode cX8_share 138 = .ok (.ldiv, 1) := by decide +kernel
theorem dX8_share_139 : decode cX8_share 139 = .ok (.lsub, 1) := by decide +kernel
theorem dX8_share_140 : decode cX8_share 140 = .ok (.lstore 7, 2) := by decide +kernel
theorem dX8_share_142 : decode cX8_share 142 = .ok (.iinc 9 1, 3) := by decide +kernel
theorem dX8_share_145 : decode cX8_share 145 = .ok (.goto (-30), 3) := by decide +kernel
theorem dX8_share_148 : decode cX8_share 148 = .ok (.lload_n 3, 1) := by decide +kernel
theorem dX8_share_149 : decode cX8_share 149 = .ok (.aload_n 0, 1) := by decide +kernel
theorem dX8_share_150 : decode cX8_share 150 = .ok (.iload_n 1, 1) := by decide +kernel
theorem dX8_share_151 : decode cX8_share 151 = .ok (.iload_n 2, 1) := by decide +kernel
theorem dX8_share_152 : decode cX8_share 152 = .ok (.invokevirtual 186, 3) := by decide +kernel
theorem dX8_share_155 : decode cX8_share 155 = .ok (.i2l, 1) := by decide +kernel
theorem dX8_share_156 : decode cX8_share 156 = .ok (.lmul, 1) := by decide +kernel
theorem dX8_share_157 : decode cX8_share 157 = .ok (.lload 5, 2) := by decide +kernel
theorem dX8_share_159 : decode cX8_share 159 = .ok (.lrem, 1) := by decide +kernel
theorem dX8_share_160 : decode cX8_share 160 = .ok (.lstore 9, 2) := by decide +kernel
theorem dX8_share_162 : decode cX8_share 162 = .ok (.iconst 0, 1) := by decide +kernel
theorem dX8_share_163 : decode cX8_share 163 = .ok (.istore 11, 2) := by decide +kernel
theorem dX8_share_165 : decode cX8_share 165 = .ok (.iconst 0, 1) := by decide +kernel
theorem dX8_share_166 : decode cX8_share 166 = .ok (.istore 12, 2) := by decide +kernel
theorem dX8_share_168 : decode cX8_share 168 = .ok (.iload 12, 2) := by decide +kernel
theorem dX8_share_170 : decode cX8_share 170 = .ok (.aload_n 0, 1) := by decide +kernel
theorem dX8_share_171 : decode cX8_share 171 = .ok (.getfield 115, 3) := by decide +kernel
theorem dX8_share_174 : decode cX8_share 174 = .ok (.if_icmp .ge 56, 3) := by decide +kernel
theorem dX8_share_177 : decode cX8_share 177 = .ok (.lload_n 3, 1) := by decide +kernel
theorem dX8_share_178 : decode cX8_share 178 = .ok (.aload_n 0, 1) := by decide +kernel
theorem dX8_share_179 : decode cX8_share 179 = .ok (.iload 12, 2) := by decide +kernel
theorem dX8_share_181 : decode cX8_share 181 = .ok (.iload_n 2, 1) := by decide +kernel
theorem dX8_share_182 : decode cX8_share 182 = .ok (.invokevirtual 186, 3) := by decide +kernel
theorem dX8_share_185 : decode cX8_share 185 = .ok (.i2l, 1) := by decide +kernel
theorem dX8_share_186 : decode cX8_share 186 = .ok (.lmul, 1) := by decide +kernel
theorem dX8_share_187 : decode cX8_share 187 = .ok (.lload 5, 2) := by decide +kernel
theorem dX8_share_189 : decode cX8_share 189 = .ok (.lrem, 1) := by decide +kernel
theorem dX8_share_190 : decode cX8_share 190 = .ok (.lstore 13, 2) := by decide +kernel
theorem dX8_share_192 : decode cX8_share 192 = .ok (.iload 11, 2) := by decide +kernel
theorem dX8_share_194 : decode cX8_share 194 = .ok (.lload 13, 2) := by decide +kernel
theorem dX8_share_196 : decode cX8_share 196 = .ok (.lload 9, 2) := by decide +kernel
theorem dX8_share_198 : decode cX8_share 198 = .ok (.lcmp, 1) := by decide +kernel
theorem dX8_share_199 : decode cX8_share 199 = .ok (.ifCond .gt 17, 3) := by decide +kernel
theorem dX8_share_202 : decode cX8_share 202 = .ok (.lload 13, 2) := by decide +kernel
theorem dX8_share_204 : decode cX8_share 204 = .ok (.lload 9, 2) := by decide +kernel
theorem dX8_share_206 : decode cX8_share 206 = .ok (.lcmp, 1) := by decide +kernel
theorem dX8_share_207 : decode cX8_share 207 = .ok (.ifCond .ne 13, 3) := by decide +kernel
theorem dX8_share_210 : decode cX8_share 210 = .ok (.iload 12, 2) := by decide +kernel
theorem dX8_share_212 : decode cX8_share 212 = .ok (.iload_n 1, 1) := by decide +kernel
theorem dX8_share_213 : decode cX8_share 213 = .ok (.if_icmp .ge 7, 3) := by decide +kernel
theorem dX8_share_216 : decode cX8_share 216 = .ok (.iconst 1, 1) := by decide +kernel
theorem dX8_share_217 : decode cX8_share 217 = .ok (.goto 4, 3) := by decide +kernel
theorem dX8_share_220 : decode cX8_share 220 = .ok (.iconst 0, 1) := by decide +kernel
theorem dX8_share_221 : decode cX8_share 221 = .ok (.iadd, 1) := by decide +kernel
theorem dX8_share_222 : decode cX8_share 222 = .ok (.istore 11, 2) := by decide +kernel
theorem dX8_share_224 : decode cX8_share 224 = .ok (.iinc 12 1, 3) := by decide +kernel
theorem dX8_share_227 : decode cX8_share 227 = .ok (.goto (-59), 3) := by decide +kernel
theorem dX8_share_230 : decode cX8_share 230 = .ok (.lload_n 3, 1) := by decide +kernel
theorem dX8_share_231 : decode cX8_share 231 = .ok (.aload_n 0, 1) := by decide +kernel
theorem dX8_share_232 : decode cX8_share 232 = .ok (.iload_n 1, 1) := by decide +kernel
theorem dX8_share_233 : decode cX8_share 233 = .ok (.iload_n 2, 1) := by decide +kernel
theorem dX8_share_234 : decode cX8_share 234 = .ok (.invokevirtual 186, 3) := by decide +kernel
theorem dX8_share_237 : decode cX8_share 237 = .ok (.i2l, 1) := by decide +kernel
theorem dX8_share_238 : decode cX8_share 238 = .ok (.lmul, 1) := by decide +kernel
theorem dX8_share_239 : decode cX8_share 239 = .ok (.lload 5, 2) := by decide +kernel
theorem dX8_share_241 : decode cX8_share 241 = .ok (.ldiv, 1) := by decide +kernel
theorem dX8_share_242 : decode cX8_share 242 = .ok (.l2i, 1) := by decide +kernel
theorem dX8_share_243 : decode cX8_share 243 = .ok (.iload 11, 2) := by decide +kernel
theorem dX8_share_245 : decode cX8_share 245 = .ok (.i2l, 1) := by decide +kernel
theorem dX8_share_246 : decode cX8_share 246 = .ok (.lload 7, 2) := by decide +kernel
theorem dX8_share_248 : decode cX8_share 248 = .ok (.lcmp, 1) := by decide +kernel
theorem dX8_share_249 : decode cX8_share 249 = .ok (.ifCond .ge 7, 3) := by decide +kernel
theorem dX8_share_252 : decode cX8_share 252 = .ok (.iconst 1, 1) := by decide +kernel
theorem dX8_share_253 : decode cX8_share 253 = .ok (.goto 4, 3) := by decide +kernel
theorem dX8_share_256 : decode cX8_share 256 = .ok (.iconst 0, 1) := by decide +kernel
theorem dX8_share_257 : decode cX8_share 257 = .ok (.iadd, 1) := by decide +kernel
theorem dX8_share_258 : decode cX8_share 258 = .ok (.ireturn, 1) := by decide +kernel
theorem dX8_feesOf_0 : decode cX8_feesOf 0 = .ok (.lconst 0, 1) := by decide +kernel
theorem dX8_feesOf_1 : decode cX8_feesOf 1 = .ok (.lstore_n 3, 1) := by decide +kernel
theorem dX8_feesOf_2 : decode cX8_feesOf 2 = .ok (.bipush 30, 2) := by decide +kernel
theorem dX8_feesOf_4 : decode cX8_feesOf 4 = .ok (.iload_n 2, 1) := by decide +kernel
theorem dX8_feesOf_5 : decode cX8_feesOf 5 = .ok (.imul, 1) := by decide +kernel
theorem dX8_feesOf_6 : decode cX8_feesOf 6 = .ok (.istore 5, 2) := by decide +kernel
theorem dX8_feesOf_8 : decode cX8_feesOf 8 = .ok (.iload 5, 2) := by decide +kernel
theorem dX8_feesOf_10 : decode cX8_feesOf 10 = .ok (.bipush 30, 2) := by decide +kernel
theorem dX8_feesOf_12 : decode cX8_feesOf 12 = .ok (.iload_n 2, 1) := by decide +kernel
theorem dX8_feesOf_13 : decode cX8_feesOf 13 = .ok (.imul, 1) := by decide +kernel
theorem dX8_feesOf_14 : decode cX8_feesOf 14 = .ok (.bipush 30, 2) := by decide +kernel
theorem dX8_feesOf_16 : decode cX8_feesOf 16 = .ok (.iadd, 1) := by decide +kernel
theorem dX8_feesOf_17 : decode cX8_feesOf 17 = .ok (.if_icmp .ge 76, 3) := by decide +kernel
theorem dX8_feesOf_20 : decode cX8_feesOf 20 = .ok (.iconst 0, 1) := by decide +kernel
theorem dX8_feesOf_21 : decode cX8_feesOf 21 = .ok (.istore 6, 2) := by decide +kernel
theorem dX8_feesOf_23 : decode cX8_feesOf 23 = .ok (.iload 6, 2) := by decide +kernel
theorem dX8_feesOf_25 : decode cX8_feesOf 25 = .ok (.aload_n 0, 1) := by decide +kernel
theorem dX8_feesOf_26 : decode cX8_feesOf 26 = .ok (.getfield 123, 3) := by decide +kernel
theorem dX8_feesOf_29 : decode cX8_feesOf 29 = .ok (.if_icmp .ge 58, 3) := by decide +kernel
theorem dX8_feesOf_32 : decode cX8_feesOf 32 = .ok (.aload_n 0, 1) := by decide +kernel
theorem dX8_feesOf_33 : decode cX8_feesOf 33 = .ok (.getfield 13, 3) := by decide +kernel
theorem dX8_feesOf_36 : decode cX8_feesOf 36 = .ok (.iload 6, 2) := by decide +kernel
theorem dX8_feesOf_38 : decode cX8_feesOf 38 = .ok (.iaload, 1) := by decide +kernel
theorem dX8_feesOf_39 : decode cX8_feesOf 39 = .ok (.ifCond .ne 7, 3) := by decide +kernel
theorem dX8_feesOf_42 : decode cX8_feesOf 42 = .ok (.iconst 0, 1) := by decide +kernel
theorem dX8_feesOf_43 : decode cX8_feesOf 43 = .ok (.goto 12, 3) := by decide +kernel
theorem dX8_feesOf_46 : decode cX8_feesOf 46 = .ok (.aload_n 0, 1) := by decide +kernel
theorem dX8_feesOf_47 : decode cX8_feesOf 47 = .ok (.iload_n 1, 1) := by decide +kernel
theorem dX8_feesOf_48 : decode cX8_feesOf 48 = .ok (.iload 6, 2) := by decide +kernel
theorem dX8_feesOf_50 : decode cX8_feesOf 50 = .ok (.iload 5, 2) := by decide +kernel
theorem dX8_feesOf_52 : decode cX8_feesOf 52 = .ok (.invokevirtual 149, 3) := by decide +kernel
theorem dX8_feesOf_55 : decode cX8_feesOf 55 = .ok (.istore 7, 2) := by decide +kernel
theorem dX8_feesOf_57 : decode cX8_feesOf 57 = .ok (.lload_n 3, 1) := by decide +kernel
theorem dX8_feesOf_58 : decode cX8_feesOf 58 = .ok (.iload 7, 2) := by decide +kernel
theorem dX8_feesOf_60 : decode cX8_feesOf 60 = .ok (.ifCond .le 18, 3) := by decide +kernel
theorem dX8_feesOf_63 : decode cX8_feesOf 63 = .ok (.iload 7, 2) := by decide +kernel
theorem dX8_feesOf_65 : decode cX8_feesOf 65 = .ok (.i2l, 1) := by decide +kernel
theorem dX8_feesOf_66 : decode cX8_feesOf 66 = .ok (.aload_n 0, 1) := by decide +kernel
theorem dX8_feesOf_67 : decode cX8_feesOf 67 = .ok (.getfield 13, 3) := by decide +kernel
theorem dX8_feesOf_70 : decode cX8_feesOf 70 = .ok (.iload 6, 2) := by decide +kernel
theorem dX8_feesOf_72 : decode cX8_feesOf 72 = .ok (.iaload, 1) := by decide +kernel
theorem dX8_feesOf_73 : decode cX8_feesOf 73 = .ok (.i2l, 1) := by decide +kernel
theorem dX8_feesOf_74 : decode cX8_feesOf 74 = .ok (.lmul, 1) := by decide +kernel
theorem dX8_feesOf_75 : decode cX8_feesOf 75 = .ok (.goto 4, 3) := by decide +kernel
theorem dX8_feesOf_78 : decode cX8_feesOf 78 = .ok (.lconst 0, 1) := by decide +kernel
theorem dX8_feesOf_79 : decode cX8_feesOf 79 = .ok (.ladd, 1) := by decide +kernel
theorem dX8_feesOf_80 : decode cX8_feesOf 80 = .ok (.lstore_n 3, 1) := by decide +kernel
theorem dX8_feesOf_81 : decode cX8_feesOf 81 = .ok (.iinc 6 1, 3) := by decide +kernel
theorem dX8_feesOf_84 : decode cX8_feesOf 84 = .ok (.goto (-61), 3) := by decide +kernel
theorem dX8_feesOf_87 : decode cX8_feesOf 87 = .ok (.iinc 5 1, 3) := by decide +kernel
theorem dX8_feesOf_90 : decode cX8_feesOf 90 = .ok (.goto (-82), 3) := by decide +kernel
theorem dX8_feesOf_93 : decode cX8_feesOf 93 = .ok (.lload_n 3, 1) := by decide +kernel
theorem dX8_feesOf_94 : decode cX8_feesOf 94 = .ok (.lreturn, 1) := by decide +kernel
theorem dX8_lackOfFees_0 : decode cX8_lackOfFees 0 = .ok (.aload_n 0, 1) := by decide +kernel
theorem dX8_lackOfFees_1 : decode cX8_lackOfFees 1 = .ok (.iload_n 1, 1) := by decide +kernel
theorem dX8_lackOfFees_2 : decode cX8_lackOfFees 2 = .ok (.invokevirtual 139, 3) := by decide +kernel
theorem dX8_lackOfFees_5 : decode cX8_lackOfFees 5 = .ok (.ifCond .ne 7, 3) := by decide +kernel
theorem dX8_lackOfFees_8 : decode cX8_lackOfFees 8 = .ok (.iconst (-1), 1) := by decide +kernel
theorem dX8_lackOfFees_9 : decode cX8_lackOfFees 9 = .ok (.goto 24, 3) := by decide +kernel
theorem dX8_lackOfFees_12 : decode cX8_lackOfFees 12 = .ok (.iload_n 2, 1) := by decide +kernel
theorem dX8_lackOfFees_13 : decode cX8_lackOfFees 13 = .ok (.ifCond .ge 8, 3) := by decide +kernel
theorem dX8_lackOfFees_16 : decode cX8_lackOfFees 16 = .ok (.bipush (-4), 2) := by decide +kernel
theorem dX8_lackOfFees_18 : decode cX8_lackOfFees 18 = .ok (.goto 15, 3) := by decide +kernel
theorem dX8_lackOfFees_21 : decode cX8_lackOfFees 21 = .ok (.iload_n 2, 1) := by decide +kernel
theorem dX8_lackOfFees_22 : decode cX8_lackOfFees 22 = .ok (.bipush 19, 2) := by decide +kernel
theorem dX8_lackOfFees_24 : decode cX8_lackOfFees 24 = .ok (.if_icmp .le 8, 3) := by decide +kernel
theorem dX8_lackOfFees_27 : decode cX8_lackOfFees 27 = .ok (.bipush (-6), 2) := by decide +kernel
theorem dX8_lackOfFees_29 : decode cX8_lackOfFees 29 = .ok (.goto 4, 3) := by decide +kernel
theorem dX8_lackOfFees_32 : decode cX8_lackOfFees 32 = .ok (.iconst 0, 1) := by decide +kernel
theorem dX8_lackOfFees_33 : decode cX8_lackOfFees 33 = .ok (.ireturn, 1) := by decide +kernel
theorem dX8_fees_0 : decode cX8_fees 0 = .ok (.aload_n 0, 1) := by decide +kernel
theorem dX8_fees_1 : decode cX8_fees 1 = .ok (.iload_n 1, 1) := by decide +kernel
theorem dX8_fees_2 : decode cX8_fees 2 = .ok (.iload_n 2, 1) := by decide +kernel
theorem dX8_fees_3 : decode cX8_fees 3 = .ok (.invokevirtual 189, 3) := by decide +kernel
theorem dX8_fees_6 : decode cX8_fees 6 = .ok (.istore_n 3, 1) := by decide +kernel
theorem dX8_fees_7 : decode cX8_fees 7 = .ok (.iload_n 3, 1) := by decide +kernel
theorem dX8_fees_8 : decode cX8_fees 8 = .ok (.ifCond .ge 12, 3) := by decide +kernel
theorem dX8_fees_11 : decode cX8_fees 11 = .ok (.aload_n 0, 1) := by decide +kernel
theorem dX8_fees_12 : decode cX8_fees 12 = .ok (.iload_n 3, 1) := by decide +kernel
theorem dX8_fees_13 : decode cX8_fees 13 = .ok (.invokevirtual 126, 3) := by decide +kernel
theorem dX8_fees_16 : decode cX8_fees 16 = .ok (.i2l, 1) := by decide +kernel
theorem dX8_fees_17 : decode cX8_fees 17 = .ok (.goto 9, 3) := by decide +kernel
theorem dX8_fees_20 : decode cX8_fees 20 = .ok (.aload_n 0, 1) := by decide +kernel
theorem dX8_fees_21 : decode cX8_fees 21 = .ok (.iload_n 1, 1) := by decide +kernel
theorem dX8_fees_22 : decode cX8_fees 22 = .ok (.iload_n 2, 1) := by decide +kernel
theorem dX8_fees_23 : decode cX8_fees 23 = .ok (.invokevirtual 192, 3) := by decide +kernel
theorem dX8_fees_26 : decode cX8_fees 26 = .ok (.lreturn, 1) := by decide +kernel
theorem dX8_close_0 : decode cX8_close 0 = .ok (.bipush 30, 2) := by decide +kernel
theorem dX8_close_2 : decode cX8_close 2 = .ok (.aload_n 0, 1) := by decide +kernel
theorem dX8_close_3 : decode cX8_close 3 = .ok (.getfield 136, 3) := by decide +kernel
theorem dX8_close_6 : decode cX8_close 6 = .ok (.imul, 1) := by decide +kernel
theorem dX8_close_7 : decode cX8_close 7 = .ok (.bipush 30, 2) := by decide +kernel
theorem dX8_close_9 : decode cX8_close 9 = .ok (.iadd, 1) := by decide +kernel
theorem dX8_close_10 : decode cX8_close 10 = .ok (.aload_n 0, 1) := by decide +kernel
theorem dX8_close_11 : decode cX8_close 11 = .ok (.getfield 130, 3) := by decide +kernel
theorem dX8_close_14 : decode cX8_close 14 = .ok (.if_icmp .le 10, 3) := by decide +kernel
theorem dX8_close_17 : decode cX8_close 17 = .ok (.aload_n 0, 1) := by decide +kernel
theorem dX8_close_18 : decode cX8_close 18 = .ok (.bipush (-3), 2) := by decide +kernel
theorem dX8_close_20 : decode cX8_close 20 = .ok (.invokevirtual 126, 3) := by decide +kernel
theorem dX8_close_23 : decode cX8_close 23 = .ok (.ireturn, 1) := by decide +kernel
theorem dX8_close_24 : decode cX8_close 24 = .ok (.aload_n 0, 1) := by decide +kernel
theorem dX8_close_25 : decode cX8_close 25 = .ok (.getfield 136, 3) := by decide +kernel
theorem dX8_close_28 : decode cX8_close 28 = .ok (.bipush 20, 2) := by decide +kernel
theorem dX8_close_30 : decode cX8_close 30 = .ok (.if_icmp .ne 10, 3) := by decide +kernel
theorem dX8_close_33 : decode cX8_close 33 = .ok (.aload_n 0, 1) := by decide +kernel
theorem dX8_close_34 : decode cX8_close 34 = .ok (.bipush (-6), 2) := by decide +kernel
theorem dX8_close_36 : decode cX8_close 36 = .ok (.invokevirtual 126, 3) := by decide +kernel
theorem dX8_close_39 : decode cX8_close 39 = .ok (.ireturn, 1) := by decide +kernel
theorem dX8_close_40 : decode cX8_close 40 = .ok (.iconst 0, 1) := by decide +kernel
theorem dX8_close_41 : decode cX8_close 41 = .ok (.istore_n 1, 1) := by decide +kernel
theorem dX8_close_42 : decode cX8_close 42 = .ok (.iload_n 1, 1) := by decide +kernel
theorem dX8_close_43 : decode cX8_close 43 = .ok (.aload_n 0, 1) := by decide +kernel
theorem dX8_close_44 : decode cX8_close 44 = .ok (.getfield 115, 3) := by decide +kernel
theorem dX8_close_47 : decode cX8_close 47 = .ok (.if_icmp .ge 32, 3) := by decide +kernel
theorem dX8_close_50 : decode cX8_close 50 = .ok (.aload_n 0, 1) := by decide +kernel
theorem dX8_close_51 : decode cX8_close 51 = .ok (.getfield 32, 3) := by decide +kernel
theorem dX8_close_54 : decode cX8_close 54 = .ok (.bipush 20, 2) := by decide +kernel
theorem dX8_close_56 : decode cX8_close 56 = .ok (.iload_n 1, 1) := by decide +kernel
theorem dX8_close_57 : decode cX8_close 57 = .ok (.imul, 1) := by decide +kernel
theorem dX8_close_58 : decode cX8_close 58 = .ok (.aload_n 0, 1) := by decide +kernel
theorem dX8_close_59 : decode cX8_close 59 = .ok (.getfield 136, 3) := by decide +kernel
theorem dX8_close_62 : decode cX8_close 62 = .ok (.iadd, 1) := by decide +kernel
theorem dX8_close_63 : decode cX8_close 63 = .ok (.aload_n 0, 1) := by decide +kernel
theorem dX8_close_64 : decode cX8_close 64 = .ok (.iload_n 1, 1) := by decide +kernel
theorem dX8_close_65 : decode cX8_close 65 = .ok (.aload_n 0, 1) := by decide +kernel
theorem dX8_close_66 : decode cX8_close 66 = .ok (.getfield 136, 3) := by decide +kernel
theorem dX8_close_69 : decode cX8_close 69 = .ok (.invokevirtual 192, 3) := by decide +kernel
theorem dX8_close_72 : decode cX8_close 72 = .ok (.lastore, 1) := by decide +kernel
theorem dX8_close_73 : decode cX8_close 73 = .ok (.iinc 1 1, 3) := by decide +kernel
theorem dX8_close_76 : decode cX8_close 76 = .ok (.goto (-34), 3) := by decide +kernel
theorem dX8_close_79 : decode cX8_close 79 = .ok (.aload_n 0, 1) := by decide +kernel
theorem dX8_close_80 : decode cX8_close 80 = .ok (.dup, 1) := by decide +kernel
theorem dX8_close_81 : decode cX8_close 81 = .ok (.getfield 136, 3) := by decide +kernel
theorem dX8_close_84 : decode cX8_close 84 = .ok (.iconst 1, 1) := by decide +kernel
theorem dX8_close_85 : decode cX8_close 85 = .ok (.iadd, 1) := by decide +kernel
theorem dX8_close_86 : decode cX8_close 86 = .ok (.putfield 136, 3) := by decide +kernel
theorem dX8_close_89 : decode cX8_close 89 = .ok (.aload_n 0, 1) := by decide +kernel
theorem dX8_close_90 : decode cX8_close 90 = .ok (.getfield 136, 3) := by decide +kernel
theorem dX8_close_93 : decode cX8_close 93 = .ok (.iconst 1, 1) := by decide +kernel
theorem dX8_close_94 : decode cX8_close 94 = .ok (.isub, 1) := by decide +kernel
theorem dX8_close_95 : decode cX8_close 95 = .ok (.ireturn, 1) := by decide +kernel
theorem dX8_bill_0 : decode cX8_bill 0 = .ok (.aload_n 0, 1) := by decide +kernel
theorem dX8_bill_1 : decode cX8_bill 1 = .ok (.iload_n 1, 1) := by decide +kernel
theorem dX8_bill_2 : decode cX8_bill 2 = .ok (.iload_n 2, 1) := by decide +kernel
theorem dX8_bill_3 : decode cX8_bill 3 = .ok (.invokevirtual 189, 3) := by decide +kernel
theorem dX8_bill_6 : decode cX8_bill 6 = .ok (.istore_n 3, 1) := by decide +kernel
theorem dX8_bill_7 : decode cX8_bill 7 = .ok (.iload_n 3, 1) := by decide +kernel
theorem dX8_bill_8 : decode cX8_bill 8 = .ok (.ifCond .ne 16, 3) := by decide +kernel
theorem dX8_bill_11 : decode cX8_bill 11 = .ok (.iload_n 2, 1) := by decide +kernel
theorem dX8_bill_12 : decode cX8_bill 12 = .ok (.aload_n 0, 1) := by decide +kernel
theorem dX8_bill_13 : decode cX8_bill 13 = .ok (.getfield 136, 3) := by decide +kernel
theorem dX8_bill_16 : decode cX8_bill 16 = .ok (.if_icmp .lt 8, 3) := by decide +kernel
theorem dX8_bill_19 : decode cX8_bill 19 = .ok (.bipush (-3), 2) := by decide +kernel
theorem dX8_bill_21 : decode cX8_bill 21 = .ok (.goto 4, 3) := by decide +kernel
theorem dX8_bill_24 : decode cX8_bill 24 = .ok (.iload_n 3, 1) := by decide +kernel
theorem dX8_bill_25 : decode cX8_bill 25 = .ok (.istore_n 3, 1) := by decide +kernel
theorem dX8_bill_26 : decode cX8_bill 26 = .ok (.iload_n 3, 1) := by decide +kernel
theorem dX8_bill_27 : decode cX8_bill 27 = .ok (.ifCond .ge 12, 3) := by decide +kernel
theorem dX8_bill_30 : decode cX8_bill 30 = .ok (.aload_n 0, 1) := by decide +kernel
theorem dX8_bill_31 : decode cX8_bill 31 = .ok (.iload_n 3, 1) := by decide +kernel
theorem dX8_bill_32 : decode cX8_bill 32 = .ok (.invokevirtual 126, 3) := by decide +kernel
theorem dX8_bill_35 : decode cX8_bill 35 = .ok (.i2l, 1) := by decide +kernel
theorem dX8_bill_36 : decode cX8_bill 36 = .ok (.goto 14, 3) := by decide +kernel
theorem dX8_bill_39 : decode cX8_bill 39 = .ok (.aload_n 0, 1) := by decide +kernel
theorem dX8_bill_40 : decode cX8_bill 40 = .ok (.getfield 32, 3) := by decide +kernel
theorem dX8_bill_43 : decode cX8_bill 43 = .ok (.bipush 20, 2) := by decide +kernel
theorem dX8_bill_45 : decode cX8_bill 45 = .ok (.iload_n 1, 1) := by decide +kernel
theorem dX8_bill_46 : decode cX8_bill 46 = .ok (.imul, 1) := by decide +kernel
theorem dX8_bill_47 : decode cX8_bill 47 = .ok (.iload_n 2, 1) := by decide +kernel
theorem dX8_bill_48 : decode cX8_bill 48 = .ok (.iadd, 1) := by decide +kernel
theorem dX8_bill_49 : decode cX8_bill 49 = .ok (.laload, 1) := by decide +kernel
theorem dX8_bill_50 : decode cX8_bill 50 = .ok (.lreturn, 1) := by decide +kernel
theorem dX8_telling_0 : decode cX8_telling 0 = .ok (.iload_n 1, 1) := by decide +kernel
theorem dX8_telling_1 : decode cX8_telling 1 = .ok (.iconst 0, 1) := by decide +kernel
theorem dX8_telling_2 : decode cX8_telling 2 = .ok (.aload_n 0, 1) := by decide +kernel
theorem dX8_telling_3 : decode cX8_telling 3 = .ok (.getfield 158, 3) := by decide +kernel
theorem dX8_telling_6 : decode cX8_telling 6 = .ok (.iconst 1, 1) := by decide +kernel
theorem dX8_telling_7 : decode cX8_telling 7 = .ok (.isub, 1) := by decide +kernel
theorem dX8_telling_8 : decode cX8_telling 8 = .ok (.invokestatic 119, 3) := by decide +kernel
theorem dX8_telling_11 : decode cX8_telling 11 = .ok (.ifCond .ne 6, 3) := by decide +kernel
theorem dX8_telling_14 : decode cX8_telling 14 = .ok (.bipush (-9), 2) := by decide +kernel
theorem dX8_telling_16 : decode cX8_telling 16 = .ok (.ireturn, 1) := by decide +kernel
theorem dX8_telling_17 : decode cX8_telling 17 = .ok (.iload_n 2, 1) := by decide +kernel
theorem dX8_telling_18 : decode cX8_telling 18 = .ok (.tableswitch 99 0 6 #[42, 57, 64, 71, 78, 85, 92], 42) := by decide +kernel
theorem dX8_telling_60 : decode cX8_telling 60 = .ok (.aload_n 0, 1) := by decide +kernel
theorem dX8_telling_61 : decode cX8_telling 61 = .ok (.getfield 35, 3) := by decide +kernel
theorem dX8_telling_64 : decode cX8_telling 64 = .ok (.iload_n 1, 1) := by decide +kernel
theorem dX8_telling_65 : decode cX8_telling 65 = .ok (.baload, 1) := by decide +kernel
theorem dX8_telling_66 : decode cX8_telling 66 = .ok (.ifCond .eq 7, 3) := by decide +kernel
theorem dX8_telling_69 : decode cX8_telling 69 = .ok (.iconst 1, 1) := by decide +kernel
theorem dX8_telling_70 : decode cX8_telling 70 = .ok (.goto 4, 3) := by decide +kernel
theorem dX8_telling_73 : decode cX8_telling 73 = .ok (.iconst 0, 1) := by decide +kernel
theorem dX8_telling_74 : decode cX8_telling 74 = .ok (.ireturn, 1) := by decide +kernel
theorem dX8_telling_75 : decode cX8_telling 75 = .ok (.aload_n 0, 1) := by decide +kernel
theorem dX8_telling_76 : decode cX8_telling 76 = .ok (.getfield 39, 3) := by decide +kernel
theorem dX8_telling_79 : decode cX8_telling 79 = .ok (.iload_n 1, 1) := by decide +kernel
theorem dX8_telling_80 : decode cX8_telling 80 = .ok (.iaload, 1) := by decide +kernel
theorem dX8_telling_81 : decode cX8_telling 81 = .ok (.ireturn, 1) := by decide +kernel
theorem dX8_telling_82 : decode cX8_telling 82 = .ok (.aload_n 0, 1) := by decide +kernel
theorem dX8_telling_83 : decode cX8_telling 83 = .ok (.getfield 42, 3) := by decide +kernel
theorem dX8_telling_86 : decode cX8_telling 86 = .ok (.iload_n 1, 1) := by decide +kernel
theorem dX8_telling_87 : decode cX8_telling 87 = .ok (.iaload, 1) := by decide +kernel
theorem dX8_telling_88 : decode cX8_telling 88 = .ok (.ireturn, 1) := by decide +kernel
theorem dX8_telling_89 : decode cX8_telling 89 = .ok (.aload_n 0, 1) := by decide +kernel
theorem dX8_telling_90 : decode cX8_telling 90 = .ok (.getfield 45, 3) := by decide +kernel
theorem dX8_telling_93 : decode cX8_telling 93 = .ok (.iload_n 1, 1) := by decide +kernel
theorem dX8_telling_94 : decode cX8_telling 94 = .ok (.iaload, 1) := by decide +kernel
theorem dX8_telling_95 : decode cX8_telling 95 = .ok (.ireturn, 1) := by decide +kernel
theorem dX8_telling_96 : decode cX8_telling 96 = .ok (.aload_n 0, 1) := by decide +kernel
theorem dX8_telling_97 : decode cX8_telling 97 = .ok (.getfield 48, 3) := by decide +kernel
theorem dX8_telling_100 : decode cX8_telling 100 = .ok (.iload_n 1, 1) := by decide +kernel
theorem dX8_telling_101 : decode cX8_telling 101 = .ok (.iaload, 1) := by decide +kernel
theorem dX8_telling_102 : decode cX8_telling 102 = .ok (.ireturn, 1) := by decide +kernel
theorem dX8_telling_103 : decode cX8_telling 103 = .ok (.aload_n 0, 1) := by decide +kernel
theorem dX8_telling_104 : decode cX8_telling 104 = .ok (.getfield 51, 3) := by decide +kernel
theorem dX8_telling_107 : decode cX8_telling 107 = .ok (.iload_n 1, 1) := by decide +kernel
theorem dX8_telling_108 : decode cX8_telling 108 = .ok (.iaload, 1) := by decide +kernel
theorem dX8_telling_109 : decode cX8_telling 109 = .ok (.ireturn, 1) := by decide +kernel
theorem dX8_telling_110 : decode cX8_telling 110 = .ok (.aload_n 0, 1) := by decide +kernel
theorem dX8_telling_111 : decode cX8_telling 111 = .ok (.getfield 54, 3) := by decide +kernel
theorem dX8_telling_114 : decode cX8_telling 114 = .ok (.iload_n 1, 1) := by decide +kernel
theorem dX8_telling_115 : decode cX8_telling 115 = .ok (.iaload, 1) := by decide +kernel
theorem dX8_telling_116 : decode cX8_telling 116 = .ok (.ireturn, 1) := by decide +kernel
theorem dX8_telling_117 : decode cX8_telling 117 = .ok (.iload_n 2, 1) := by decide +kernel
theorem dX8_telling_118 : decode cX8_telling 118 = .ok (.bipush 7, 2) := by decide +kernel
theorem dX8_telling_120 : decode cX8_telling 120 = .ok (.if_icmp .ne 12, 3) := by decide +kernel
theorem dX8_telling_123 : decode cX8_telling 123 = .ok (.aload_n 0, 1) := by decide +kernel
theorem dX8_telling_124 : decode cX8_telling 124 = .ok (.getfield 57, 3) := by decide +kernel
theorem dX8_telling_127 : decode cX8_telling 127 = .ok (.iload_n 1, 1) := by decide +kernel
theorem dX8_telling_128 : decode cX8_telling 128 = .ok (.iaload, 1) := by decide +kernel
theorem dX8_telling_129 : decode cX8_telling 129 = .ok (.goto 5, 3) := by decide +kernel
theorem dX8_telling_132 : decode cX8_telling 132 = .ok (.bipush (-9), 2) := by decide +kernel
theorem dX8_telling_134 : decode cX8_telling 134 = .ok (.ireturn, 1) := by decide +kernel
theorem dX8_pairOf_0 : decode cX8_pairOf 0 = .ok (.iload_n 1, 1) := by decide +kernel
theorem dX8_pairOf_1 : decode cX8_pairOf 1 = .ok (.iconst 0, 1) := by decide +kernel
theorem dX8_pairOf_2 : decode cX8_pairOf 2 = .ok (.aload_n 0, 1) := by decide +kernel
theorem dX8_pairOf_3 : decode cX8_pairOf 3 = .ok (.getfield 176, 3) := by decide +kernel
theorem dX8_pairOf_6 : decode cX8_pairOf 6 = .ok (.iconst 1, 1) := by decide +kernel
theorem dX8_pairOf_7 : decode cX8_pairOf 7 = .ok (.isub, 1) := by decide +kernel
theorem dX8_pairOf_8 : decode cX8_pairOf 8 = .ok (.invokestatic 119, 3) := by decide +kernel
theorem dX8_pairOf_11 : decode cX8_pairOf 11 = .ok (.ifCond .ne 6, 3) := by decide +kernel
theorem dX8_pairOf_14 : decode cX8_pairOf 14 = .ok (.bipush (-9), 2) := by decide +kernel
theorem dX8_pairOf_16 : decode cX8_pairOf 16 = .ok (.ireturn, 1) := by decide +kernel
theorem dX8_pairOf_17 : decode cX8_pairOf 17 = .ok (.iload_n 2, 1) := by decide +kernel
theorem dX8_pairOf_18 : decode cX8_pairOf 18 = .ok (.tableswitch 81 0 4 #[34, 41, 48, 60, 74], 34) := by decide +kernel
theorem dX8_pairOf_52 : decode cX8_pairOf 52 = .ok (.aload_n 0, 1) := by decide +kernel
theorem dX8_pairOf_53 : decode cX8_pairOf 53 = .ok (.getfield 60, 3) := by decide +kernel
theorem dX8_pairOf_56 : decode cX8_pairOf 56 = .ok (.iload_n 1, 1) := by decide +kernel
theorem dX8_pairOf_57 : decode cX8_pairOf 57 = .ok (.iaload, 1) := by decide +kernel
theorem dX8_pairOf_58 : decode cX8_pairOf 58 = .ok (.ireturn, 1) := by decide +kernel
theorem dX8_pairOf_59 : decode cX8_pairOf 59 = .ok (.aload_n 0, 1) := by decide +kernel
theorem dX8_pairOf_60 : decode cX8_pairOf 60 = .ok (.getfield 63, 3) := by decide +kernel
theorem dX8_pairOf_63 : decode cX8_pairOf 63 = .ok (.iload_n 1, 1) := by decide +kernel
theorem dX8_pairOf_64 : decode cX8_pairOf 64 = .ok (.iaload, 1) := by decide +kernel
theorem dX8_pairOf_65 : decode cX8_pairOf 65 = .ok (.ireturn, 1) := by decide +kernel
theorem dX8_pairOf_66 : decode cX8_pairOf 66 = .ok (.aload_n 0, 1) := by decide +kernel
theorem dX8_pairOf_67 : decode cX8_pairOf 67 = .ok (.getfield 51, 3) := by decide +kernel
theorem dX8_pairOf_70 : decode cX8_pairOf 70 = .ok (.aload_n 0, 1) := by decide +kernel
theorem dX8_pairOf_71 : decode cX8_pairOf 71 = .ok (.getfield 63, 3) := by decide +kernel
theorem dX8_pairOf_74 : decode cX8_pairOf 74 = .ok (.iload_n 1, 1) := by decide +kernel
theorem dX8_pairOf_75 : decode cX8_pairOf 75 = .ok (.iaload, 1) := by decide +kernel
theorem dX8_pairOf_76 : decode cX8_pairOf 76 = .ok (.iaload, 1) := by decide +kernel
theorem dX8_pairOf_77 : decode cX8_pairOf 77 = .ok (.ireturn, 1) := by decide +kernel
theorem dX8_pairOf_78 : decode cX8_pairOf 78 = .ok (.aload_n 0, 1) := by decide +kernel
theorem dX8_pairOf_79 : decode cX8_pairOf 79 = .ok (.iload_n 1, 1) := by decide +kernel
theorem dX8_pairOf_80 : decode cX8_pairOf 80 = .ok (.invokevirtual 183, 3) := by decide +kernel
theorem dX8_pairOf_83 : decode cX8_pairOf 83 = .ok (.ifCond .eq 7, 3) := by decide +kernel
theorem dX8_pairOf_86 : decode cX8_pairOf 86 = .ok (.iconst 1, 1) := by decide +kernel
theorem dX8_pairOf_87 : decode cX8_pairOf 87 = .ok (.goto 4, 3) := by decide +kernel
theorem dX8_pairOf_90 : decode cX8_pairOf 90 = .ok (.iconst 0, 1) := by decide +kernel
theorem dX8_pairOf_91 : decode cX8_pairOf 91 = .ok (.ireturn, 1) := by decide +kernel
theorem dX8_pairOf_92 : decode cX8_pairOf 92 = .ok (.aload_n 0, 1) := by decide +kernel
theorem dX8_pairOf_93 : decode cX8_pairOf 93 = .ok (.getfield 66, 3) := by decide +kernel
theorem dX8_pairOf_96 : decode cX8_pairOf 96 = .ok (.iload_n 1, 1) := by decide +kernel
theorem dX8_pairOf_97 : decode cX8_pairOf 97 = .ok (.iaload, 1) := by decide +kernel
theorem dX8_pairOf_98 : decode cX8_pairOf 98 = .ok (.ireturn, 1) := by decide +kernel
theorem dX8_pairOf_99 : decode cX8_pairOf 99 = .ok (.iload_n 2, 1) := by decide +kernel
theorem dX8_pairOf_100 : decode cX8_pairOf 100 = .ok (.iconst 5, 1) := by decide +kernel
theorem dX8_pairOf_101 : decode cX8_pairOf 101 = .ok (.if_icmp .ne 20, 3) := by decide +kernel
theorem dX8_pairOf_104 : decode cX8_pairOf 104 = .ok (.aload_n 0, 1) := by decide +kernel
theorem dX8_pairOf_105 : decode cX8_pairOf 105 = .ok (.getfield 69, 3) := by decide +kernel
theorem dX8_pairOf_108 : decode cX8_pairOf 108 = .ok (.iload_n 1, 1) := by decide +kernel
theorem dX8_pairOf_109 : decode cX8_pairOf 109 = .ok (.baload, 1) := by decide +kernel
theorem dX8_pairOf_110 : decode cX8_pairOf 110 = .ok (.ifCond .eq 7, 3) := by decide +kernel
theorem dX8_pairOf_113 : decode cX8_pairOf 113 = .ok (.iconst 1, 1) := by decide +kernel
theorem dX8_pairOf_114 : decode cX8_pairOf 114 = .ok (.goto 9, 3) := by decide +kernel
theorem dX8_pairOf_117 : decode cX8_pairOf 117 = .ok (.iconst 0, 1) := by decide +kernel
theorem dX8_pairOf_118 : decode cX8_pairOf 118 = .ok (.goto 5, 3) := by decide +kernel
theorem dX8_pairOf_121 : decode cX8_pairOf 121 = .ok (.bipush (-9), 2) := by decide +kernel
theorem dX8_pairOf_123 : decode cX8_pairOf 123 = .ok (.ireturn, 1) := by decide +kernel
theorem dX8_debt_0 : decode cX8_debt 0 = .ok (.aload_n 0, 1) := by decide +kernel
theorem dX8_debt_1 : decode cX8_debt 1 = .ok (.getfield 75, 3) := by decide +kernel
theorem dX8_debt_4 : decode cX8_debt 4 = .ok (.bipush 100, 2) := by decide +kernel
theorem dX8_debt_6 : decode cX8_debt 6 = .ok (.iload_n 1, 1) := by decide +kernel
theorem dX8_debt_7 : decode cX8_debt 7 = .ok (.imul, 1) := by decide +kernel
theorem dX8_debt_8 : decode cX8_debt 8 = .ok (.bipush 10, 2) := by decide +kernel
theorem dX8_debt_10 : decode cX8_debt 10 = .ok (.iload_n 2, 1) := by decide +kernel
theorem dX8_debt_11 : decode cX8_debt 11 = .ok (.imul, 1) := by decide +kernel
theorem dX8_debt_12 : decode cX8_debt 12 = .ok (.iadd, 1) := by decide +kernel
theorem dX8_debt_13 : decode cX8_debt 13 = .ok (.iload_n 3, 1) := by decide +kernel
theorem dX8_debt_14 : decode cX8_debt 14 = .ok (.iadd, 1) := by decide +kernel
theorem dX8_debt_15 : decode cX8_debt 15 = .ok (.iaload, 1) := by decide +kernel
theorem dX8_debt_16 : decode cX8_debt 16 = .ok (.ireturn, 1) := by decide +kernel
theorem dX8_owe_0 : decode cX8_owe 0 = .ok (.aload_n 0, 1) := by decide +kernel
theorem dX8_owe_1 : decode cX8_owe 1 = .ok (.iload_n 1, 1) := by decide +kernel
theorem dX8_owe_2 : decode cX8_owe 2 = .ok (.invokevirtual 139, 3) := by decide +kernel
theorem dX8_owe_5 : decode cX8_owe 5 = .ok (.ifCond .eq 24, 3) := by decide +kernel
theorem dX8_owe_8 : decode cX8_owe 8 = .ok (.aload_n 0, 1) := by decide +kernel
theorem dX8_owe_9 : decode cX8_owe 9 = .ok (.iload_n 2, 1) := by decide +kernel
theorem dX8_owe_10 : decode cX8_owe 10 = .ok (.invokevirtual 139, 3) := by decide +kernel
theorem dX8_owe_13 : decode cX8_owe 13 = .ok (.ifCond .eq 16, 3) := by decide +kernel
theorem dX8_owe_16 : decode cX8_owe 16 = .ok (.iload_n 1, 1) := by decide +kernel
theorem dX8_owe_17 : decode cX8_owe 17 = .ok (.iload_n 2, 1) := by decide +kernel
theorem dX8_owe_18 : decode cX8_owe 18 = .ok (.if_icmp .eq 11, 3) := by decide +kernel
theorem dX8_owe_21 : decode cX8_owe 21 = .ok (.aload_n 0, 1) := by decide +kernel
theorem dX8_owe_22 : decode cX8_owe 22 = .ok (.iload_n 3, 1) := by decide +kernel
theorem dX8_owe_23 : decode cX8_owe 23 = .ok (.invokevirtual 143, 3) := by decide +kernel
theorem dX8_owe_26 : decode cX8_owe 26 = .ok (.ifCond .ne 9, 3) := by decide +kernel
theorem dX8_owe_29 : decode cX8_owe 29 = .ok (.aload_n 0, 1) := by decide +kernel
theorem dX8_owe_30 : decode cX8_owe 30 = .ok (.iconst (-1), 1) := by decide +kernel
theorem dX8_owe_31 : decode cX8_owe 31 = .ok (.invokevirtual 126, 3) := by decide +kernel
theorem dX8_owe_34 : decode cX8_owe 34 = .ok (.ireturn, 1) := by decide +kernel
theorem dX8_owe_35 : decode cX8_owe 35 = .ok (.iload 4, 2) := by decide +kernel
theorem dX8_owe_37 : decode cX8_owe 37 = .ok (.iconst 1, 1) := by decide +kernel
theorem dX8_owe_38 : decode cX8_owe 38 = .ok (.if_icmp .ge 10, 3) := by decide +kernel
theorem dX8_owe_41 : decode cX8_owe 41 = .ok (.aload_n 0, 1) := by decide +kernel
theorem dX8_owe_42 : decode cX8_owe 42 = .ok (.bipush (-4), 2) := by decide +kernel
theorem dX8_owe_44 : decode cX8_owe 44 = .ok (.invokevirtual 126, 3) := by decide +kernel
theorem dX8_owe_47 : decode cX8_owe 47 = .ok (.ireturn, 1) := by decide +kernel
theorem dX8_owe_48 : decode cX8_owe 48 = .ok (.iload 4, 2) := by decide +kernel
theorem dX8_owe_50 : decode cX8_owe 50 = .ok (.ldc 157, 2) := by decide +kernel
theorem dX8_owe_52 : decode cX8_owe 52 = .ok (.aload_n 0, 1) := by decide +kernel
theorem dX8_owe_53 : decode cX8_owe 53 = .ok (.iload_n 3, 1) := by decide +kernel
theorem dX8_owe_54 : decode cX8_owe 54 = .ok (.iload_n 1, 1) := by decide +kernel
theorem dX8_owe_55 : decode cX8_owe 55 = .ok (.iload_n 2, 1) := by decide +kernel
theorem dX8_owe_56 : decode cX8_owe 56 = .ok (.invokevirtual 196, 3) := by decide +kernel
theorem dX8_owe_59 : decode cX8_owe 59 = .ok (.isub, 1) := by decide +kernel
theorem dX8_owe_60 : decode cX8_owe 60 = .ok (.if_icmp .le 10, 3) := by decide +kernel
theorem dX8_owe_63 : decode cX8_owe 63 = .ok (.aload_n 0, 1) := by decide +kernel
theorem dX8_owe_64 : decode cX8_owe 64 = .ok (.bipush (-6), 2) := by decide +kernel
theorem dX8_owe_66 : decode cX8_owe 66 = .ok (.invokevirtual 126, 3) := by decide +kernel
theorem dX8_owe_69 : decode cX8_owe 69 = .ok (.ireturn, 1) := by decide +kernel
theorem dX8_owe_70 : decode cX8_owe 70 = .ok (.aload_n 0, 1) := by decide +kernel
theorem dX8_owe_71 : decode cX8_owe 71 = .ok (.getfield 75, 3) := by decide +kernel
theorem dX8_owe_74 : decode cX8_owe 74 = .ok (.bipush 100, 2) := by decide +kernel
theorem dX8_owe_76 : decode cX8_owe 76 = .ok (.iload_n 3, 1) := by decide +kernel
theorem dX8_owe_77 : decode cX8_owe 77 = .ok (.imul, 1) := by decide +kernel
theorem dX8_owe_78 : decode cX8_owe 78 = .ok (.bipush 10, 2) := by decide +kernel
theorem dX8_owe_80 : decode cX8_owe 80 = .ok (.iload_n 1, 1) := by decide +kernel
theorem dX8_owe_81 : decode cX8_owe 81 = .ok (.imul, 1) := by decide +kernel
theorem dX8_owe_82 : decode cX8_owe 82 = .ok (.iadd, 1) := by decide +kernel
theorem dX8_owe_83 : decode cX8_owe 83 = .ok (.iload_n 2, 1) := by decide +kernel
theorem dX8_owe_84 : decode cX8_owe 84 = .ok (.iadd, 1) := by decide +kernel
theorem dX8_owe_85 : decode cX8_owe 85 = .ok (.dup2, 1) := by decide +kernel
theorem dX8_owe_86 : decode cX8_owe 86 = .ok (.iaload, 1) := by decide +kernel
theorem dX8_owe_87 : decode cX8_owe 87 = .ok (.iload 4, 2) := by decide +kernel
theorem dX8_owe_89 : decode cX8_owe 89 = .ok (.iadd, 1) := by decide +kernel
theorem dX8_owe_90 : decode cX8_owe 90 = .ok (.iastore, 1) := by decide +kernel
theorem dX8_owe_91 : decode cX8_owe 91 = .ok (.aload_n 0, 1) := by decide +kernel
theorem dX8_owe_92 : decode cX8_owe 92 = .ok (.iload_n 3, 1) := by decide +kernel
theorem dX8_owe_93 : decode cX8_owe 93 = .ok (.iload_n 1, 1) := by decide +kernel
theorem dX8_owe_94 : decode cX8_owe 94 = .ok (.iload_n 2, 1) := by decide +kernel
theorem dX8_owe_95 : decode cX8_owe 95 = .ok (.invokevirtual 196, 3) := by decide +kernel
theorem dX8_owe_98 : decode cX8_owe 98 = .ok (.ireturn, 1) := by decide +kernel
theorem dX8_owes_0 : decode cX8_owes 0 = .ok (.aload_n 0, 1) := by decide +kernel
theorem dX8_owes_1 : decode cX8_owes 1 = .ok (.iload_n 1, 1) := by decide +kernel
theorem dX8_owes_2 : decode cX8_owes 2 = .ok (.invokevirtual 139, 3) := by decide +kernel
theorem dX8_owes_5 : decode cX8_owes 5 = .ok (.ifCond .eq 29, 3) := by decide +kernel
theorem dX8_owes_8 : decode cX8_owes 8 = .ok (.aload_n 0, 1) := by decide +kernel
theorem dX8_owes_9 : decode cX8_owes 9 = .ok (.iload_n 2, 1) := by decide +kernel
theorem dX8_owes_10 : decode cX8_owes 10 = .ok (.invokevirtual 139, 3) := by decide +kernel
theorem dX8_owes_13 : decode cX8_owes 13 = .ok (.ifCond .eq 21, 3) := by decide +kernel
theorem dX8_owes_16 : decode cX8_owes 16 = .ok (.aload_n 0, 1) := by decide +kernel
theorem dX8_owes_17 : decode cX8_owes 17 = .ok (.iload_n 3, 1) := by decide +kernel
theorem dX8_owes_18 : decode cX8_owes 18 = .ok (.invokevirtual 143, 3) := by decide +kernel
theorem dX8_owes_21 : decode cX8_owes 21 = .ok (.ifCond .eq 13, 3) := by decide +kernel
theorem dX8_owes_24 : decode cX8_owes 24 = .ok (.aload_n 0, 1) := by decide +kernel
theorem dX8_owes_25 : decode cX8_owes 25 = .ok (.iload_n 3, 1) := by decide +kernel
theorem dX8_owes_26 : decode cX8_owes 26 = .ok (.iload_n 1, 1) := by decide +kernel
theorem dX8_owes_27 : decode cX8_owes 27 = .ok (.iload_n 2, 1) := by decide +kernel
theorem dX8_owes_28 : decode cX8_owes 28 = .ok (.invokevirtual 196, 3) := by decide +kernel
theorem dX8_owes_31 : decode cX8_owes 31 = .ok (.goto 8, 3) := by decide +kernel
theorem dX8_owes_34 : decode cX8_owes 34 = .ok (.aload_n 0, 1) := by decide +kernel
theorem dX8_owes_35 : decode cX8_owes 35 = .ok (.iconst (-1), 1) := by decide +kernel
theorem dX8_owes_36 : decode cX8_owes 36 = .ok (.invokevirtual 126, 3) := by decide +kernel
theorem dX8_owes_39 : decode cX8_owes 39 = .ok (.ireturn, 1) := by decide +kernel
theorem dX8_stepsTo_0 : decode cX8_stepsTo 0 = .ok (.iconst 0, 1) := by decide +kernel
theorem dX8_stepsTo_1 : decode cX8_stepsTo 1 = .ok (.istore_n 3, 1) := by decide +kernel
theorem dX8_stepsTo_2 : decode cX8_stepsTo 2 = .ok (.iload_n 3, 1) := by decide +kernel
theorem dX8_stepsTo_3 : decode cX8_stepsTo 3 = .ok (.bipush 10, 2) := by decide +kernel
theorem dX8_stepsTo_5 : decode cX8_stepsTo 5 = .ok (.if_icmp .ge 17, 3) := by decide +kernel
theorem dX8_stepsTo_8 : decode cX8_stepsTo 8 = .ok (.aload_n 0, 1) := by decide +kernel
theorem dX8_stepsTo_9 : decode cX8_stepsTo 9 = .ok (.getfield 102, 3) := by decide +kernel
theorem dX8_stepsTo_12 : decode cX8_stepsTo 12 = .ok (.iload_n 3, 1) := by decide +kernel
theorem dX8_stepsTo_13 : decode cX8_stepsTo 13 = .ok (.bipush 99, 2) := by decide +kernel
theorem dX8_stepsTo_15 : decode cX8_stepsTo 15 = .ok (.iastore, 1) := by decide +kernel
theorem dX8_stepsTo_16 : decode cX8_stepsTo 16 = .ok (.iinc 3 1, 3) := by decide +kernel
theorem dX8_stepsTo_19 : decode cX8_stepsTo 19 = .ok (.goto (-17), 3) := by decide +kernel
theorem dX8_stepsTo_22 : decode cX8_stepsTo 22 = .ok (.aload_n 0, 1) := by decide +kernel
theorem dX8_stepsTo_23 : decode cX8_stepsTo 23 = .ok (.getfield 102, 3) := by decide +kernel
theorem dX8_stepsTo_26 : decode cX8_stepsTo 26 = .ok (.iload_n 2, 1) := by decide +kernel
theorem dX8_stepsTo_27 : decode cX8_stepsTo 27 = .ok (.iconst 0, 1) := by decide +kernel
theorem dX8_stepsTo_28 : decode cX8_stepsTo 28 = .ok (.iastore, 1) := by decide +kernel
theorem dX8_stepsTo_29 : decode cX8_stepsTo 29 = .ok (.iconst 0, 1) := by decide +kernel
theorem dX8_stepsTo_30 : decode cX8_stepsTo 30 = .ok (.istore_n 3, 1) := by decide +kernel
theorem dX8_stepsTo_31 : decode cX8_stepsTo 31 = .ok (.iload_n 3, 1) := by decide +kernel
theorem dX8_stepsTo_32 : decode cX8_stepsTo 32 = .ok (.bipush 10, 2) := by decide +kernel
theorem dX8_stepsTo_34 : decode cX8_stepsTo 34 = .ok (.if_icmp .ge 98, 3) := by decide +kernel
theorem dX8_stepsTo_37 : decode cX8_stepsTo 37 = .ok (.iload_n 2, 1) := by decide +kernel
theorem dX8_stepsTo_38 : decode cX8_stepsTo 38 = .ok (.istore 4, 2) := by decide +kernel
theorem dX8_stepsTo_40 : decode cX8_stepsTo 40 = .ok (.iload 4, 2) := by decide +kernel
theorem dX8_stepsTo_42 : decode cX8_stepsTo 42 = .ok (.aload_n 0, 1) := by decide +kernel
theorem dX8_stepsTo_43 : decode cX8_stepsTo 43 = .ok (.getfield 115, 3) := by decide +kernel
theorem dX8_stepsTo_46 : decode cX8_stepsTo 46 = .ok (.if_icmp .ge 80, 3) := by decide +kernel
theorem dX8_stepsTo_49 : decode cX8_stepsTo 49 = .ok (.iload_n 2, 1) := by decide +kernel
theorem dX8_stepsTo_50 : decode cX8_stepsTo 50 = .ok (.istore 5, 2) := by decide +kernel
theorem dX8_stepsTo_52 : decode cX8_stepsTo 52 = .ok (.iload 5, 2) := by decide +kernel
theorem dX8_stepsTo_54 : decode cX8_stepsTo 54 = .ok (.aload_n 0, 1) := by decide +kernel
theorem dX8_stepsTo_55 : decode cX8_stepsTo 55 = .ok (.getfield 115, 3) := by decide +kernel
theorem dX8_stepsTo_58 : decode cX8_stepsTo 58 = .ok (.if_icmp .ge 62, 3) := by decide +kernel
theorem dX8_stepsTo_61 : decode cX8_stepsTo 61 = .ok (.aload_n 0, 1) := by decide +kernel
theorem dX8_stepsTo_62 : decode cX8_stepsTo 62 = .ok (.iload_n 1, 1) := by decide +kernel
theorem dX8_stepsTo_63 : decode cX8_stepsTo 63 = .ok (.iload 4, 2) := by decide +kernel
theorem dX8_stepsTo_65 : decode cX8_stepsTo 65 = .ok (.iload 5, 2) := by decide +kernel
theorem dX8_stepsTo_67 : decode cX8_stepsTo 67 = .ok (.invokevirtual 196, 3) := by decide +kernel
theorem dX8_stepsTo_70 : decode cX8_stepsTo 70 = .ok (.ifCond .le 44, 3) := by decide +kernel
theorem dX8_stepsTo_73 : decode cX8_stepsTo 73 = .ok (.iload 4, 2) := by decide +kernel
theorem dX8_stepsTo_75 : decode cX8_stepsTo 75 = .ok (.iload_n 2, 1) := by decide +kernel
theorem dX8_stepsTo_76 : decode cX8_stepsTo 76 = .ok (.if_icmp .eq 38, 3) := by decide +kernel
theorem dX8_stepsTo_79 : decode cX8_stepsTo 79 = .ok (.aload_n 0, 1) := by decide +kernel
theorem dX8_stepsTo_80 : decode cX8_stepsTo 80 = .ok (.getfield 102, 3) := by decide +kernel
theorem dX8_stepsTo_83 : decode cX8_stepsTo 83 = .ok (.iload 5, 2) := by decide +kernel
theorem dX8_stepsTo_85 : decode cX8_stepsTo 85 = .ok (.iaload, 1) := by decide +kernel
theorem dX8_stepsTo_86 : decode cX8_stepsTo 86 = .ok (.iconst 1, 1) := by decide +kernel
theorem dX8_stepsTo_87 : decode cX8_stepsTo 87 = .ok (.iadd, 1) := by decide +kernel
theorem dX8_stepsTo_88 : decode cX8_stepsTo 88 = .ok (.aload_n 0, 1) := by decide +kernel
theorem dX8_stepsTo_89 : decode cX8_stepsTo 89 = .ok (.getfield 102, 3) := by decide +kernel
theorem dX8_stepsTo_92 : decode cX8_stepsTo 92 = .ok (.iload 4, 2) := by decide +kernel
theorem dX8_stepsTo_94 : decode cX8_stepsTo 94 = .ok (.iaload, 1) := by decide +kernel
theorem dX8_stepsTo_95 : decode cX8_stepsTo 95 = .ok (.if_icmp .ge 19, 3) := by decide +kernel
theorem dX8_stepsTo_98 : decode cX8_stepsTo 98 = .ok (.aload_n 0, 1) := by decide +kernel
theorem dX8_stepsTo_99 : decode cX8_stepsTo 99 = .ok (.getfield 102, 3) := by decide +kernel
theorem dX8_stepsTo_102 : decode cX8_stepsTo 102 = .ok (.iload 4, 2) := by decide +kernel
theorem dX8_stepsTo_104 : decode cX8_stepsTo 104 = .ok (.aload_n 0, 1) := by decide +kernel
theorem dX8_stepsTo_105 : decode cX8_stepsTo 105 = .ok (.getfield 102, 3) := by decide +kernel
theorem dX8_stepsTo_108 : decode cX8_stepsTo 108 = .ok (.iload 5, 2) := by decide +kernel
theorem dX8_stepsTo_110 : decode cX8_stepsTo 110 = .ok (.iaload, 1) := by decide +kernel
theorem dX8_stepsTo_111 : decode cX8_stepsTo 111 = .ok (.iconst 1, 1) := by decide +kernel
theorem dX8_stepsTo_112 : decode cX8_stepsTo 112 = .ok (.iadd, 1) := by decide +kernel
theorem dX8_stepsTo_113 : decode cX8_stepsTo 113 = .ok (.iastore, 1) := by decide +kernel
theorem dX8_stepsTo_114 : decode cX8_stepsTo 114 = .ok (.iinc 5 1, 3) := by decide +kernel
theorem dX8_stepsTo_117 : decode cX8_stepsTo 117 = .ok (.goto (-65), 3) := by decide +kernel
theorem dX8_stepsTo_120 : decode cX8_stepsTo 120 = .ok (.iinc 4 1, 3) := by decide +kernel
theorem dX8_stepsTo_123 : decode cX8_stepsTo 123 = .ok (.goto (-83), 3) := by decide +kernel
theorem dX8_stepsTo_126 : decode cX8_stepsTo 126 = .ok (.iinc 3 1, 3) := by decide +kernel
theorem dX8_stepsTo_129 : decode cX8_stepsTo 129 = .ok (.goto (-98), 3) := by decide +kernel
theorem dX8_stepsTo_132 : decode cX8_stepsTo 132 = .ok (.return_, 1) := by decide +kernel
theorem dX8_findRing_0 : decode cX8_findRing 0 = .ok (.aload_n 0, 1) := by decide +kernel
theorem dX8_findRing_1 : decode cX8_findRing 1 = .ok (.iconst 0, 1) := by decide +kernel
theorem dX8_findRing_2 : decode cX8_findRing 2 = .ok (.putfield 199, 3) := by decide +kernel
theorem dX8_findRing_5 : decode cX8_findRing 5 = .ok (.bipush (-9), 2) := by decide +kernel
theorem dX8_findRing_7 : decode cX8_findRing 7 = .ok (.istore_n 2, 1) := by decide +kernel
theorem dX8_findRing_8 : decode cX8_findRing 8 = .ok (.aload_n 0, 1) := by decide +kernel
theorem dX8_findRing_9 : decode cX8_findRing 9 = .ok (.getfield 115, 3) := by decide +kernel
theorem dX8_findRing_12 : decode cX8_findRing 12 = .ok (.iconst 1, 1) := by decide +kernel
theorem dX8_findRing_13 : decode cX8_findRing 13 = .ok (.isub, 1) := by decide +kernel
theorem dX8_findRing_14 : decode cX8_findRing 14 = .ok (.istore_n 3, 1) := by decide +kernel
theorem dX8_findRing_15 : decode cX8_findRing 15 = .ok (.iload_n 3, 1) := by decide +kernel
theorem dX8_findRing_16 : decode cX8_findRing 16 = .ok (.ifCond .lt 96, 3) := by decide +kernel
theorem dX8_findRing_19 : decode cX8_findRing 19 = .ok (.aload_n 0, 1) := by decide +kernel
theorem dX8_findRing_20 : decode cX8_findRing 20 = .ok (.iload_n 1, 1) := by decide +kernel
theorem dX8_findRing_21 : decode cX8_findRing 21 = .ok (.iload_n 3, 1) := by decide +kernel
theorem dX8_findRing_22 : decode cX8_findRing 22 = .ok (.invokevirtual 202, 3) := by decide +kernel
theorem dX8_findRing_25 : decode cX8_findRing 25 = .ok (.iload_n 3, 1) := by decide +kernel
theorem dX8_findRing_26 : decode cX8_findRing 26 = .ok (.iconst 1, 1) := by decide +kernel
theorem dX8_findRing_27 : decode cX8_findRing 27 = .ok (.iadd, 1) := by decide +kernel
theorem dX8_findRing_28 : decode cX8_findRing 28 = .ok (.istore 4, 2) := by decide +kernel
theorem dX8_findRing_30 : decode cX8_findRing 30 = .ok (.iload 4, 2) := by decide +kernel
theorem dX8_findRing_32 : decode cX8_findRing 32 = .ok (.aload_n 0, 1) := by decide +kernel
theorem dX8_findRing_33 : decode cX8_findRing 33 = .ok (.getfield 115, 3) := by decide +kernel
theorem dX8_findRing_36 : decode cX8_findRing 36 = .ok (.if_icmp .ge 70, 3) := by decide +kernel
theorem dX8_findRing_39 : decode cX8_findRing 39 = .ok (.aload_n 0, 1) := by decide +kernel
theorem dX8_findRing_40 : decode cX8_findRing 40 = .ok (.iload_n 1, 1) := by decide +kernel
theorem dX8_findRing_41 : decode cX8_findRing 41 = .ok (.iload_n 3, 1) := by decide +kernel
theorem dX8_findRing_42 : decode cX8_findRing 42 = .ok (.iload 4, 2) := by decide +kernel
theorem dX8_findRing_44 : decode cX8_findRing 44 = .ok (.invokevirtual 196, 3) := by decide +kernel
theorem dX8_findRing_47 : decode cX8_findRing 47 = .ok (.ifCond .le 53, 3) := by decide +kernel
theorem dX8_findRing_50 : decode cX8_findRing 50 = .ok (.aload_n 0, 1) := by decide +kernel
theorem dX8_findRing_51 : decode cX8_findRing 51 = .ok (.getfield 102, 3) := by decide +kernel
theorem dX8_findRing_54 : decode cX8_findRing 54 = .ok (.iload 4, 2) := by decide +kernel
theorem dX8_findRing_56 : decode cX8_findRing 56 = .ok (.iaload, 1) := by decide +kernel
theorem dX8_findRing_57 : decode cX8_findRing 57 = .ok (.bipush 99, 2) := by decide +kernel
theorem dX8_findRing_59 : decode cX8_findRing 59 = .ok (.if_icmp .ge 41, 3) := by decide +kernel
theorem dX8_findRing_62 : decode cX8_findRing 62 = .ok (.aload_n 0, 1) := by decide +kernel
theorem dX8_findRing_63 : decode cX8_findRing 63 = .ok (.getfield 199, 3) := by decide +kernel
theorem dX8_findRing_66 : decode cX8_findRing 66 = .ok (.ifCond .eq 19, 3) := by decide +kernel
theorem dX8_findRing_69 : decode cX8_findRing 69 = .ok (.aload_n 0, 1) := by decide +kernel
theorem dX8_findRing_70 : decode cX8_findRing 70 = .ok (.getfield 102, 3) := by decide +kernel
theorem dX8_findRing_73 : decode cX8_findRing 73 = .ok (.iload 4, 2) := by decide +kernel
theorem dX8_findRing_75 : decode cX8_findRing 75 = .ok (.iaload, 1) := by decide +kernel
theorem dX8_findRing_76 : decode cX8_findRing 76 = .ok (.iconst 1, 1) := by decide +kernel
theorem dX8_findRing_77 : decode cX8_findRing 77 = .ok (.iadd, 1) := by decide +kernel
theorem dX8_findRing_78 : decode cX8_findRing 78 = .ok (.aload_n 0, 1) := by decide +kernel
theorem dX8_findRing_79 : decode cX8_findRing 79 = .ok (.getfield 199, 3) := by decide +kernel
theorem dX8_findRing_82 : decode cX8_findRing 82 = .ok (.if_icmp .gt 18, 3) := by decide +kernel
theorem dX8_findRing_85 : decode cX8_findRing 85 = .ok (.aload_n 0, 1) := by decide +kernel
theorem dX8_findRing_86 : decode cX8_findRing 86 = .ok (.aload_n 0, 1) := by decide +kernel
theorem dX8_findRing_87 : decode cX8_findRing 87 = .ok (.getfield 102, 3) := by decide +kernel
theorem dX8_findRing_90 : decode cX8_findRing 90 = .ok (.iload 4, 2) := by decide +kernel
theorem dX8_findRing_92 : decode cX8_findRing 92 = .ok (.iaload, 1) := by decide +kernel
theorem dX8_findRing_93 : decode cX8_findRing 93 = .ok (.iconst 1, 1) := by decide +kernel
theorem dX8_findRing_94 : decode cX8_findRing 94 = .ok (.iadd, 1) := by decide +kernel
theorem dX8_findRing_95 : decode cX8_findRing 95 = .ok (.putfield 199, 3) := by decide +kernel
theorem dX8_findRing_98 : decode cX8_findRing 98 = .ok (.iload_n 3, 1) := by decide +kernel
theorem dX8_findRing_99 : decode cX8_findRing 99 = .ok (.istore_n 2, 1) := by decide +kernel
theorem dX8_findRing_100 : decode cX8_findRing 100 = .ok (.iinc 4 1, 3) := by decide +kernel
theorem dX8_findRing_103 : decode cX8_findRing 103 = .ok (.goto (-73), 3) := by decide +kernel
theorem dX8_findRing_106 : decode cX8_findRing 106 = .ok (.iinc 3 (-1), 3) := by decide +kernel
theorem dX8_findRing_109 : decode cX8_findRing 109 = .ok (.goto (-94), 3) := by decide +kernel
theorem dX8_findRing_112 : decode cX8_findRing 112 = .ok (.aload_n 0, 1) := by decide +kernel
theorem dX8_findRing_113 : decode cX8_findRing 113 = .ok (.getfield 199, 3) := by decide +kernel
theorem dX8_findRing_116 : decode cX8_findRing 116 = .ok (.ifCond .ne 4, 3) := by decide +kernel
theorem dX8_findRing_119 : decode cX8_findRing 119 = .ok (.return_, 1) := by decide +kernel
theorem dX8_findRing_120 : decode cX8_findRing 120 = .ok (.aload_n 0, 1) := by decide +kernel
theorem dX8_findRing_121 : decode cX8_findRing 121 = .ok (.iload_n 1, 1) := by decide +kernel
theorem dX8_findRing_122 : decode cX8_findRing 122 = .ok (.iload_n 2, 1) := by decide +kernel
theorem dX8_findRing_123 : decode cX8_findRing 123 = .ok (.invokevirtual 202, 3) := by decide +kernel
theorem dX8_findRing_126 : decode cX8_findRing 126 = .ok (.aload_n 0, 1) := by decide +kernel
theorem dX8_findRing_127 : decode cX8_findRing 127 = .ok (.getfield 99, 3) := by decide +kernel
theorem dX8_findRing_130 : decode cX8_findRing 130 = .ok (.iconst 0, 1) := by decide +kernel
theorem dX8_findRing_131 : decode cX8_findRing 131 = .ok (.iload_n 2, 1) := by decide +kernel
theorem dX8_findRing_132 : decode cX8_findRing 132 = .ok (.iastore, 1) := by decide +kernel
theorem dX8_findRing_133 : decode cX8_findRing 133 = .ok (.iconst 1, 1) := by decide +kernel
theorem dX8_findRing_134 : decode cX8_findRing 134 = .ok (.istore_n 3, 1) := by decide +kernel
theorem dX8_findRing_135 : decode cX8_findRing 135 = .ok (.iload_n 3, 1) := by decide +kernel
theorem dX8_findRing_136 : decode cX8_findRing 136 = .ok (.aload_n 0, 1) := by decide +kernel
theorem dX8_findRing_137 : decode cX8_findRing 137 = .ok (.getfield 199, 3) := by decide +kernel
theorem dX8_findRing_140 : decode cX8_findRing 140 = .ok (.if_icmp .ge 60, 3) := by decide +kernel
theorem dX8_findRing_143 : decode cX8_findRing 143 = .ok (.iload_n 2, 1) := by decide +kernel
theorem dX8_findRing_144 : decode cX8_findRing 144 = .ok (.istore 4, 2) := by decide +kernel
theorem dX8_findRing_146 : decode cX8_findRing 146 = .ok (.aload_n 0, 1) := by decide +kernel
theorem dX8_findRing_147 : decode cX8_findRing 147 = .ok (.iload_n 1, 1) := by decide +kernel
theorem dX8_findRing_148 : decode cX8_findRing 148 = .ok (.aload_n 0, 1) := by decide +kernel
theorem dX8_findRing_149 : decode cX8_findRing 149 = .ok (.getfield 99, 3) := by decide +kernel
theorem dX8_findRing_152 : decode cX8_findRing 152 = .ok (.iload_n 3, 1) := by decide +kernel
theorem dX8_findRing_153 : decode cX8_findRing 153 = .ok (.iconst 1, 1) := by decide +kernel
theorem dX8_findRing_154 : decode cX8_findRing 154 = .ok (.isub, 1) := by decide +kernel
theorem dX8_findRing_155 : decode cX8_findRing 155 = .ok (.iaload, 1) := by decide +kernel
theorem dX8_findRing_156 : decode cX8_findRing 156 = .ok (.iload 4, 2) := by decide +kernel
theorem dX8_findRing_158 : decode cX8_findRing 158 = .ok (.invokevirtual 196, 3) := by decide +kernel
theorem dX8_findRing_161 : decode cX8_findRing 161 = .ok (.ifCond .eq 19, 3) := by decide +kernel
theorem dX8_findRing_164 : decode cX8_findRing 164 = .ok (.aload_n 0, 1) := by decide +kernel
theorem dX8_findRing_165 : decode cX8_findRing 165 = .ok (.getfield 102, 3) := by decide +kernel
theorem dX8_findRing_168 : decode cX8_findRing 168 = .ok (.iload 4, 2) := by decide +kernel
theorem dX8_findRing_170 : decode cX8_findRing 170 = .ok (.iaload, 1) := by decide +kernel
theorem dX8_findRing_171 : decode cX8_findRing 171 = .ok (.aload_n 0, 1) := by decide +kernel
theorem dX8_findRing_172 : decode cX8_findRing 172 = .ok (.getfield 199, 3) := by decide +kernel
theorem dX8_findRing_175 : decode cX8_findRing 175 = .ok (.iload_n 3, 1) := by decide +kernel
theorem dX8_findRing_176 : decode cX8_findRing 176 = .ok (.isub, 1) := by decide +kernel
theorem dX8_findRing_177 : decode cX8_findRing 177 = .ok (.if_icmp .eq 9, 3) := by decide +kernel
theorem dX8_findRing_180 : decode cX8_findRing 180 = .ok (.iinc 4 1, 3) := by decide +kernel
theorem dX8_findRing_183 : decode cX8_findRing 183 = .ok (.goto (-37), 3) := by decide +kernel
theorem dX8_findRing_186 : decode cX8_findRing 186 = .ok (.aload_n 0, 1) := by decide +kernel
theorem dX8_findRing_187 : decode cX8_findRing 187 = .ok (.getfield 99, 3) := by decide +kernel
theorem dX8_findRing_190 : decode cX8_findRing 190 = .ok (.iload_n 3, 1) := by decide +kernel
theorem dX8_findRing_191 : decode cX8_findRing 191 = .ok (.iload 4, 2) := by decide +kernel
theorem dX8_findRing_193 : decode cX8_findRing 193 = .ok (.iastore, 1) := by decide +kernel
theorem dX8_findRing_194 : decode cX8_findRing 194 = .ok (.iinc 3 1, 3) := by decide +kernel
theorem dX8_findRing_197 : decode cX8_findRing 197 = .ok (.goto (-62), 3) := by decide +kernel
theorem dX8_findRing_200 : decode cX8_findRing 200 = .ok (.return_, 1) := by decide +kernel
theorem dX8_ring_0 : decode cX8_ring 0 = .ok (.aload_n 0, 1) := by decide +kernel
theorem dX8_ring_1 : decode cX8_ring 1 = .ok (.iload_n 1, 1) := by decide +kernel
theorem dX8_ring_2 : decode cX8_ring 2 = .ok (.invokevirtual 143, 3) := by decide +kernel
theorem dX8_ring_5 : decode cX8_ring 5 = .ok (.ifCond .ne 9, 3) := by decide +kernel
theorem dX8_ring_8 : decode cX8_ring 8 = .ok (.aload_n 0, 1) := by decide +kernel
theorem dX8_ring_9 : decode cX8_ring 9 = .ok (.iconst (-1), 1) := by decide +kernel
theorem dX8_ring_10 : decode cX8_ring 10 = .ok (.invokevirtual 126, 3) := by decide +kernel
theorem dX8_ring_13 : decode cX8_ring 13 = .ok (.ireturn, 1) := by decide +kernel
theorem dX8_ring_14 : decode cX8_ring 14 = .ok (.aload_n 0, 1) := by decide +kernel
theorem dX8_ring_15 : decode cX8_ring 15 = .ok (.iload_n 1, 1) := by decide +kernel
theorem dX8_ring_16 : decode cX8_ring 16 = .ok (.invokevirtual 205, 3) := by decide +kernel
theorem dX8_ring_19 : decode cX8_ring 19 = .ok (.iload_n 2, 1) := by decide +kernel
theorem dX8_ring_20 : decode cX8_ring 20 = .ok (.iconst 0, 1) := by decide +kernel
theorem dX8_ring_21 : decode cX8_ring 21 = .ok (.aload_n 0, 1) := by decide +kernel
theorem dX8_ring_22 : decode cX8_ring 22 = .ok (.getfield 199, 3) := by decide +kernel
theorem dX8_ring_25 : decode cX8_ring 25 = .ok (.iconst 1, 1) := by decide +kernel
theorem dX8_ring_26 : decode cX8_ring 26 = .ok (.isub, 1) := by decide +kernel
theorem dX8_ring_27 : decode cX8_ring 27 = .ok (.invokestatic 119, 3) := by decide +kernel
theorem dX8_ring_30 : decode cX8_ring 30 = .ok (.ifCond .eq 12, 3) := by decide +kernel
theorem dX8_ring_33 : decode cX8_ring 33 = .ok (.aload_n 0, 1) := by decide +kernel
theorem dX8_ring_34 : decode cX8_ring 34 = .ok (.getfield 99, 3) := by decide +kernel
theorem dX8_ring_37 : decode cX8_ring 37 = .ok (.iload_n 2, 1) := by decide +kernel
theorem dX8_ring_38 : decode cX8_ring 38 = .ok (.iaload, 1) := by decide +kernel
theorem dX8_ring_39 : decode cX8_ring 39 = .ok (.goto 5, 3) := by decide +kernel
theorem dX8_ring_42 : decode cX8_ring 42 = .ok (.bipush (-9), 2) := by decide +kernel
theorem dX8_ring_44 : decode cX8_ring 44 = .ok (.ireturn, 1) := by decide +kernel
theorem dX8_off_0 : decode cX8_off 0 = .ok (.aload_n 0, 1) := by decide +kernel
theorem dX8_off_1 : decode cX8_off 1 = .ok (.iload_n 1, 1) := by decide +kernel
theorem dX8_off_2 : decode cX8_off 2 = .ok (.invokevirtual 143, 3) := by decide +kernel
theorem dX8_off_5 : decode cX8_off 5 = .ok (.ifCond .ne 9, 3) := by decide +kernel
theorem dX8_off_8 : decode cX8_off 8 = .ok (.aload_n 0, 1) := by decide +kernel
theorem dX8_off_9 : decode cX8_off 9 = .ok (.iconst (-1), 1) := by decide +kernel
theorem dX8_off_10 : decode cX8_off 10 = .ok (.invokevirtual 126, 3) := by decide +kernel
theorem dX8_off_13 : decode cX8_off 13 = .ok (.ireturn, 1) := by decide +kernel
theorem dX8_off_14 : decode cX8_off 14 = .ok (.iconst 0, 1) := by decide +kernel
theorem dX8_off_15 : decode cX8_off 15 = .ok (.istore_n 2, 1) := by decide +kernel
theorem dX8_off_16 : decode cX8_off 16 = .ok (.aload_n 0, 1) := by decide +kernel
theorem dX8_off_17 : decode cX8_off 17 = .ok (.iload_n 1, 1) := by decide +kernel
theorem dX8_off_18 : decode cX8_off 18 = .ok (.invokevirtual 205, 3) := by decide +kernel
theorem dX8_off_21 : decode cX8_off 21 = .ok (.aload_n 0, 1) := by decide +kernel
theorem dX8_off_22 : decode cX8_off 22 = .ok (.getfield 199, 3) := by decide +kernel
theorem dX8_off_25 : decode cX8_off 25 = .ok (.ifCond .le 133, 3) := by decide +kernel
theorem dX8_off_28 : decode cX8_off 28 = .ok (.ldc 157, 2) := by decide +kernel
theorem dX8_off_30 : decode cX8_off 30 = .ok (.istore_n 3, 1) := by decide +kernel
theorem dX8_off_31 : decode cX8_off 31 = .ok (.iconst 0, 1) := by decide +kernel
theorem dX8_off_32 : decode cX8_off 32 = .ok (.istore 4, 2) := by decide +kernel
theorem dX8_off_34 : decode cX8_off 34 = .ok (.iload 4, 2) := by decide +kernel
theorem dX8_off_36 : decode cX8_off 36 = .ok (.aload_n 0, 1) := by decide +kernel
theorem dX8_off_37 : decode cX8_off 37 = .ok (.getfield 199, 3) := by decide +kernel
theorem dX8_off_40 : decode cX8_off 40 = .ok (.if_icmp .ge 50, 3) := by decide +kernel
theorem dX8_off_43 : decode cX8_off 43 = .ok (.aload_n 0, 1) := by decide +kernel
theorem dX8_off_44 : decode cX8_off 44 = .ok (.iload_n 1, 1) := by decide +kernel
theorem dX8_off_45 : decode cX8_off 45 = .ok (.aload_n 0, 1) := by decide +kernel
theorem dX8_off_46 : decode cX8_off 46 = .ok (.getfield 99, 3) := by decide +kernel
theorem dX8_off_49 : decode cX8_off 49 = .ok (.iload 4, 2) := by decide +kernel
theorem dX8_off_51 : decode cX8_off 51 = .ok (.iaload, 1) := by decide +kernel
theorem dX8_off_52 : decode cX8_off 52 = .ok (.aload_n 0, 1) := by decide +kernel
theorem dX8_off_53 : decode cX8_off 53 = .ok (.getfield 99, 3) := by decide +kernel
theorem dX8_off_56 : decode cX8_off 56 = .ok (.iload 4, 2) := by decide +kernel
theorem dX8_off_58 : decode cX8_off 58 = .ok (.iconst 1, 1) := by decide +kernel
theorem dX8_off_59 : decode cX8_off 59 = .ok (.iadd, 1) := by decide +kernel
theorem dX8_off_60 : decode cX8_off 60 = .ok (.aload_n 0, 1) := by decide +kernel
theorem dX8_off_61 : decode cX8_off 61 = .ok (.getfield 199, 3) := by decide +kernel
theorem dX8_off_64 : decode cX8_off 64 = .ok (.irem, 1) := by decide +kernel
theorem dX8_off_65 : decode cX8_off 65 = .ok (.iaload, 1) := by decide +kernel
theorem dX8_off_66 : decode cX8_off 66 = .ok (.invokevirtual 196, 3) := by decide +kernel
theorem dX8_off_69 : decode cX8_off 69 = .ok (.istore 5, 2) := by decide +kernel
theorem dX8_off_71 : decode cX8_off 71 = .ok (.iload 5, 2) := by decide +kernel
theorem dX8_off_73 : decode cX8_off 73 = .ok (.iload_n 3, 1) := by decide +kernel
theorem dX8_off_74 : decode cX8_off 74 = .ok (.if_icmp .ge 8, 3) := by decide +kernel
theorem dX8_off_77 : decode cX8_off 77 = .ok (.iload 5, 2) := by decide +kernel
theorem dX8_off_79 : decode cX8_off 79 = .ok (.goto 4, 3) := by decide +kernel
theorem dX8_off_82 : decode cX8_off 82 = .ok (.iload_n 3, 1) := by decide +kernel
theorem dX8_off_83 : decode cX8_off 83 = .ok (.istore_n 3, 1) := by decide +kernel
theorem dX8_off_84 : decode cX8_off 84 = .ok (.iinc 4 1, 3) := by decide +kernel
theorem dX8_off_87 : decode cX8_off 87 = .ok (.goto (-53), 3) := by decide +kernel
theorem dX8_off_90 : decode cX8_off 90 = .ok (.iconst 0, 1) := by decide +kernel
theorem dX8_off_91 : decode cX8_off 91 = .ok (.istore 4, 2) := by decide +kernel
theorem dX8_off_93 : decode cX8_off 93 = .ok (.iload 4, 2) := by decide +kernel
theorem dX8_off_95 : decode cX8_off 95 = .ok (.aload_n 0, 1) := by decide +kernel
theorem dX8_off_96 : decode cX8_off 96 = .ok (.getfield 199, 3) := by decide +kernel
theorem dX8_off_99 : decode cX8_off 99 = .ok (.if_icmp .ge 48, 3) := by decide +kernel
theorem dX8_off_102 : decode cX8_off 102 = .ok (.aload_n 0, 1) := by decide +kernel
theorem dX8_off_103 : decode cX8_off 103 = .ok (.getfield 75, 3) := by decide +kernel
theorem dX8_off_106 : decode cX8_off 106 = .ok (.bipush 100, 2) := by decide +kernel
theorem dX8_off_108 : decode cX8_off 108 = .ok (.iload_n 1, 1) := by decide +kernel
theorem dX8_off_109 : decode cX8_off 109 = .ok (.imul, 1) := by decide +kernel
theorem dX8_off_110 : decode cX8_off 110 = .ok (.bipush 10, 2) := by decide +kernel
theorem dX8_off_112 : decode cX8_off 112 = .ok (.aload_n 0, 1) := by decide +kernel
theorem dX8_off_113 : decode cX8_off 113 = .ok (.getfield 99, 3) := by decide +kernel
theorem dX8_off_116 : decode cX8_off 116 = .ok (.iload 4, 2) := by decide +kernel
theorem dX8_off_118 : decode cX8_off 118 = .ok (.iaload, 1) := by decide +kernel
theorem dX8_off_119 : decode cX8_off 119 = .ok (.imul, 1) := by decide +kernel
theorem dX8_off_120 : decode cX8_off 120 = .ok (.iadd, 1) := by decide +kernel
theorem dX8_off_121 : decode cX8_off 121 = .ok (.aload_n 0, 1) := by decide +kernel
theorem dX8_off_122 : decode cX8_off 122 = .ok (.getfield 99, 3) := by decide +kernel
theorem dX8_off_125 : decode cX8_off 125 = .ok (.iload 4, 2) := by decide +kernel
theorem dX8_off_127 : decode cX8_off 127 = .ok (.iconst 1, 1) := by decide +kernel
theorem dX8_off_128 : decode cX8_off 128 = .ok (.iadd, 1) := by decide +kernel
theorem dX8_off_129 : decode cX8_off 129 = .ok (.aload_n 0, 1) := by decide +kernel
theorem dX8_off_130 : decode cX8_off 130 = .ok (.getfield 199, 3) := by decide +kernel
theorem dX8_off_133 : decode cX8_off 133 = .ok (.irem, 1) := by decide +kernel
theorem dX8_off_134 : decode cX8_off 134 = .ok (.iaload, 1) := by decide +kernel
theorem dX8_off_135 : decode cX8_off 135 = .ok (.iadd, 1) := by decide +kernel
theorem dX8_off_136 : decode cX8_off 136 = .ok (.dup2, 1) := by decide +kernel
theorem dX8_off_137 : decode cX8_off 137 = .ok (.iaload, 1) := by decide +kernel
theorem dX8_off_138 : decode cX8_off 138 = .ok (.iload_n 3, 1) := by decide +kernel
theorem dX8_off_139 : decode cX8_off 139 = .ok (.isub, 1) := by decide +kernel
theorem dX8_off_140 : decode cX8_off 140 = .ok (.iastore, 1) := by decide +kernel
theorem dX8_off_141 : decode cX8_off 141 = .ok (.iinc 4 1, 3) := by decide +kernel
theorem dX8_off_144 : decode cX8_off 144 = .ok (.goto (-51), 3) := by decide +kernel
theorem dX8_off_147 : decode cX8_off 147 = .ok (.iinc 2 1, 3) := by decide +kernel
theorem dX8_off_150 : decode cX8_off 150 = .ok (.aload_n 0, 1) := by decide +kernel
theorem dX8_off_151 : decode cX8_off 151 = .ok (.iload_n 1, 1) := by decide +kernel
theorem dX8_off_152 : decode cX8_off 152 = .ok (.invokevirtual 205, 3) := by decide +kernel
theorem dX8_off_155 : decode cX8_off 155 = .ok (.goto (-134), 3) := by decide +kernel
theorem dX8_off_158 : decode cX8_off 158 = .ok (.iload_n 2, 1) := by decide +kernel
theorem dX8_off_159 : decode cX8_off 159 = .ok (.ireturn, 1) := by decide +kernel
theorem dX8_want_0 : decode cX8_want 0 = .ok (.aload_n 0, 1) := by decide +kernel
theorem dX8_want_1 : decode cX8_want 1 = .ok (.iload_n 1, 1) := by decide +kernel
theorem dX8_want_2 : decode cX8_want 2 = .ok (.invokevirtual 139, 3) := by decide +kernel
theorem dX8_want_5 : decode cX8_want 5 = .ok (.ifCond .ne 9, 3) := by decide +kernel
theorem dX8_want_8 : decode cX8_want 8 = .ok (.aload_n 0, 1) := by decide +kernel
theorem dX8_want_9 : decode cX8_want 9 = .ok (.iconst (-1), 1) := by decide +kernel
theorem dX8_want_10 : decode cX8_want 10 = .ok (.invokevirtual 126, 3) := by decide +kernel
theorem dX8_want_13 : decode cX8_want 13 = .ok (.ireturn, 1) := by decide +kernel
theorem dX8_want_14 : decode cX8_want 14 = .ok (.iload_n 2, 1) := by decide +kernel
theorem dX8_want_15 : decode cX8_want 15 = .ok (.ifCond .lt 7, 3) := by decide +kernel
theorem dX8_want_18 : decode cX8_want 18 = .ok (.iload_n 3, 1) := by decide +kernel
theorem dX8_want_19 : decode cX8_want 19 = .ok (.ifCond .ge 10, 3) := by decide +kernel
theorem dX8_want_22 : decode cX8_want 22 = .ok (.aload_n 0, 1) := by decide +kernel
theorem dX8_want_23 : decode cX8_want 23 = .ok (.bipush (-4), 2) := by decide +kernel
theorem dX8_want_25 : decode cX8_want 25 = .ok (.invokevirtual 126, 3) := by decide +kernel
