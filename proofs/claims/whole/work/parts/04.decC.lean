theorem dX9_init_0 : decode cX9_init 0 = .ok (.aload_n 0, 1) := by decide +kernel
theorem dX9_init_1 : decode cX9_init 1 = .ok (.invokespecial 1, 3) := by decide +kernel
theorem dX9_init_4 : decode cX9_init 4 = .ok (.aload_n 0, 1) := by decide +kernel
theorem dX9_init_5 : decode cX9_init 5 = .ok (.iconst 4, 1) := by decide +kernel
theorem dX9_init_6 : decode cX9_init 6 = .ok (.newarray .int, 2) := by decide +kernel
theorem dX9_init_8 : decode cX9_init 8 = .ok (.putfield 7, 3) := by decide +kernel
theorem dX9_init_11 : decode cX9_init 11 = .ok (.aload_n 0, 1) := by decide +kernel
theorem dX9_init_12 : decode cX9_init 12 = .ok (.iconst 4, 1) := by decide +kernel
theorem dX9_init_13 : decode cX9_init 13 = .ok (.newarray .int, 2) := by decide +kernel
theorem dX9_init_15 : decode cX9_init 15 = .ok (.putfield 13, 3) := by decide +kernel
theorem dX9_init_18 : decode cX9_init 18 = .ok (.aload_n 0, 1) := by decide +kernel
theorem dX9_init_19 : decode cX9_init 19 = .ok (.sipush 240, 3) := by decide +kernel
theorem dX9_init_22 : decode cX9_init 22 = .ok (.newarray .int, 2) := by decide +kernel
theorem dX9_init_24 : decode cX9_init 24 = .ok (.putfield 16, 3) := by decide +kernel
theorem dX9_init_27 : decode cX9_init 27 = .ok (.aload_n 0, 1) := by decide +kernel
theorem dX9_init_28 : decode cX9_init 28 = .ok (.bipush 60, 2) := by decide +kernel
theorem dX9_init_30 : decode cX9_init 30 = .ok (.newarray .int, 2) := by decide +kernel
theorem dX9_init_32 : decode cX9_init 32 = .ok (.putfield 19, 3) := by decide +kernel
theorem dX9_init_35 : decode cX9_init 35 = .ok (.aload_n 0, 1) := by decide +kernel
theorem dX9_init_36 : decode cX9_init 36 = .ok (.bipush 44, 2) := by decide +kernel
theorem dX9_init_38 : decode cX9_init 38 = .ok (.newarray .int, 2) := by decide +kernel
theorem dX9_init_40 : decode cX9_init 40 = .ok (.putfield 22, 3) := by decide +kernel
theorem dX9_init_43 : decode cX9_init 43 = .ok (.aload_n 0, 1) := by decide +kernel
theorem dX9_init_44 : decode cX9_init 44 = .ok (.iconst 2, 1) := by decide +kernel
theorem dX9_init_45 : decode cX9_init 45 = .ok (.newarray .int, 2) := by decide +kernel
theorem dX9_init_47 : decode cX9_init 47 = .ok (.putfield 25, 3) := by decide +kernel
theorem dX9_init_50 : decode cX9_init 50 = .ok (.aload_n 0, 1) := by decide +kernel
theorem dX9_init_51 : decode cX9_init 51 = .ok (.bipush 12, 2) := by decide +kernel
theorem dX9_init_53 : decode cX9_init 53 = .ok (.newarray .int, 2) := by decide +kernel
theorem dX9_init_55 : decode cX9_init 55 = .ok (.putfield 28, 3) := by decide +kernel
theorem dX9_init_58 : decode cX9_init 58 = .ok (.aload_n 0, 1) := by decide +kernel
theorem dX9_init_59 : decode cX9_init 59 = .ok (.bipush 16, 2) := by decide +kernel
theorem dX9_init_61 : decode cX9_init 61 = .ok (.newarray .int, 2) := by decide +kernel
theorem dX9_init_63 : decode cX9_init 63 = .ok (.putfield 31, 3) := by decide +kernel
theorem dX9_init_66 : decode cX9_init 66 = .ok (.aload_n 0, 1) := by decide +kernel
theorem dX9_init_67 : decode cX9_init 67 = .ok (.bipush 16, 2) := by decide +kernel
theorem dX9_init_69 : decode cX9_init 69 = .ok (.newarray .boolean, 2) := by decide +kernel
theorem dX9_init_71 : decode cX9_init 71 = .ok (.putfield 34, 3) := by decide +kernel
theorem dX9_init_74 : decode cX9_init 74 = .ok (.aload_n 0, 1) := by decide +kernel
theorem dX9_init_75 : decode cX9_init 75 = .ok (.bipush 6, 2) := by decide +kernel
theorem dX9_init_77 : decode cX9_init 77 = .ok (.newarray .int, 2) := by decide +kernel
theorem dX9_init_79 : decode cX9_init 79 = .ok (.putfield 38, 3) := by decide +kernel
theorem dX9_init_82 : decode cX9_init 82 = .ok (.aload_n 0, 1) := by decide +kernel
theorem dX9_init_83 : decode cX9_init 83 = .ok (.iconst 5, 1) := by decide +kernel
theorem dX9_init_84 : decode cX9_init 84 = .ok (.newarray .int, 2) := by decide +kernel
theorem dX9_init_86 : decode cX9_init 86 = .ok (.putfield 41, 3) := by decide +kernel
theorem dX9_init_89 : decode cX9_init 89 = .ok (.aload_n 0, 1) := by decide +kernel
theorem dX9_init_90 : decode cX9_init 90 = .ok (.bipush 80, 2) := by decide +kernel
theorem dX9_init_92 : decode cX9_init 92 = .ok (.newarray .int, 2) := by decide +kernel
theorem dX9_init_94 : decode cX9_init 94 = .ok (.putfield 44, 3) := by decide +kernel
theorem dX9_init_97 : decode cX9_init 97 = .ok (.aload_n 0, 1) := by decide +kernel
theorem dX9_init_98 : decode cX9_init 98 = .ok (.bipush 40, 2) := by decide +kernel
theorem dX9_init_100 : decode cX9_init 100 = .ok (.newarray .int, 2) := by decide +kernel
theorem dX9_init_102 : decode cX9_init 102 = .ok (.putfield 47, 3) := by decide +kernel
theorem dX9_init_105 : decode cX9_init 105 = .ok (.aload_n 0, 1) := by decide +kernel
theorem dX9_init_106 : decode cX9_init 106 = .ok (.bipush 40, 2) := by decide +kernel
theorem dX9_init_108 : decode cX9_init 108 = .ok (.newarray .int, 2) := by decide +kernel
theorem dX9_init_110 : decode cX9_init 110 = .ok (.putfield 50, 3) := by decide +kernel
theorem dX9_init_113 : decode cX9_init 113 = .ok (.aload_n 0, 1) := by decide +kernel
theorem dX9_init_114 : decode cX9_init 114 = .ok (.bipush 40, 2) := by decide +kernel
theorem dX9_init_116 : decode cX9_init 116 = .ok (.newarray .int, 2) := by decide +kernel
theorem dX9_init_118 : decode cX9_init 118 = .ok (.putfield 53, 3) := by decide +kernel
theorem dX9_init_121 : decode cX9_init 121 = .ok (.aload_n 0, 1) := by decide +kernel
theorem dX9_init_122 : decode cX9_init 122 = .ok (.bipush 6, 2) := by decide +kernel
theorem dX9_init_124 : decode cX9_init 124 = .ok (.newarray .int, 2) := by decide +kernel
theorem dX9_init_126 : decode cX9_init 126 = .ok (.putfield 56, 3) := by decide +kernel
theorem dX9_init_129 : decode cX9_init 129 = .ok (.aload_n 0, 1) := by decide +kernel
theorem dX9_init_130 : decode cX9_init 130 = .ok (.bipush 6, 2) := by decide +kernel
theorem dX9_init_132 : decode cX9_init 132 = .ok (.newarray .int, 2) := by decide +kernel
theorem dX9_init_134 : decode cX9_init 134 = .ok (.putfield 59, 3) := by decide +kernel
theorem dX9_init_137 : decode cX9_init 137 = .ok (.aload_n 0, 1) := by decide +kernel
theorem dX9_init_138 : decode cX9_init 138 = .ok (.bipush 12, 2) := by decide +kernel
theorem dX9_init_140 : decode cX9_init 140 = .ok (.newarray .int, 2) := by decide +kernel
theorem dX9_init_142 : decode cX9_init 142 = .ok (.putfield 62, 3) := by decide +kernel
theorem dX9_init_145 : decode cX9_init 145 = .ok (.aload_n 0, 1) := by decide +kernel
theorem dX9_init_146 : decode cX9_init 146 = .ok (.bipush 12, 2) := by decide +kernel
theorem dX9_init_148 : decode cX9_init 148 = .ok (.newarray .int, 2) := by decide +kernel
theorem dX9_init_150 : decode cX9_init 150 = .ok (.putfield 65, 3) := by decide +kernel
theorem dX9_init_153 : decode cX9_init 153 = .ok (.aload_n 0, 1) := by decide +kernel
theorem dX9_init_154 : decode cX9_init 154 = .ok (.bipush 6, 2) := by decide +kernel
theorem dX9_init_156 : decode cX9_init 156 = .ok (.newarray .int, 2) := by decide +kernel
theorem dX9_init_158 : decode cX9_init 158 = .ok (.putfield 68, 3) := by decide +kernel
theorem dX9_init_161 : decode cX9_init 161 = .ok (.iconst 0, 1) := by decide +kernel
theorem dX9_init_162 : decode cX9_init 162 = .ok (.istore_n 1, 1) := by decide +kernel
theorem dX9_init_163 : decode cX9_init 163 = .ok (.iload_n 1, 1) := by decide +kernel
theorem dX9_init_164 : decode cX9_init 164 = .ok (.iconst 4, 1) := by decide +kernel
theorem dX9_init_165 : decode cX9_init 165 = .ok (.if_icmp .ge 16, 3) := by decide +kernel
theorem dX9_init_168 : decode cX9_init 168 = .ok (.aload_n 0, 1) := by decide +kernel
theorem dX9_init_169 : decode cX9_init 169 = .ok (.getfield 7, 3) := by decide +kernel
theorem dX9_init_172 : decode cX9_init 172 = .ok (.iload_n 1, 1) := by decide +kernel
theorem dX9_init_173 : decode cX9_init 173 = .ok (.iconst (-1), 1) := by decide +kernel
theorem dX9_init_174 : decode cX9_init 174 = .ok (.iastore, 1) := by decide +kernel
theorem dX9_init_175 : decode cX9_init 175 = .ok (.iinc 1 1, 3) := by decide +kernel
theorem dX9_init_178 : decode cX9_init 178 = .ok (.goto (-15), 3) := by decide +kernel
theorem dX9_init_181 : decode cX9_init 181 = .ok (.iconst 0, 1) := by decide +kernel
theorem dX9_init_182 : decode cX9_init 182 = .ok (.istore_n 1, 1) := by decide +kernel
theorem dX9_init_183 : decode cX9_init 183 = .ok (.iload_n 1, 1) := by decide +kernel
theorem dX9_init_184 : decode cX9_init 184 = .ok (.iconst 2, 1) := by decide +kernel
theorem dX9_init_185 : decode cX9_init 185 = .ok (.if_icmp .ge 30, 3) := by decide +kernel
theorem dX9_init_188 : decode cX9_init 188 = .ok (.aload_n 0, 1) := by decide +kernel
theorem dX9_init_189 : decode cX9_init 189 = .ok (.getfield 38, 3) := by decide +kernel
theorem dX9_init_192 : decode cX9_init 192 = .ok (.iconst 3, 1) := by decide +kernel
theorem dX9_init_193 : decode cX9_init 193 = .ok (.iload_n 1, 1) := by decide +kernel
theorem dX9_init_194 : decode cX9_init 194 = .ok (.imul, 1) := by decide +kernel
theorem dX9_init_195 : decode cX9_init 195 = .ok (.bipush 100, 2) := by decide +kernel
theorem dX9_init_197 : decode cX9_init 197 = .ok (.iastore, 1) := by decide +kernel
theorem dX9_init_198 : decode cX9_init 198 = .ok (.aload_n 0, 1) := by decide +kernel
theorem dX9_init_199 : decode cX9_init 199 = .ok (.getfield 38, 3) := by decide +kernel
theorem dX9_init_202 : decode cX9_init 202 = .ok (.iconst 3, 1) := by decide +kernel
theorem dX9_init_203 : decode cX9_init 203 = .ok (.iload_n 1, 1) := by decide +kernel
theorem dX9_init_204 : decode cX9_init 204 = .ok (.imul, 1) := by decide +kernel
theorem dX9_init_205 : decode cX9_init 205 = .ok (.iconst 2, 1) := by decide +kernel
theorem dX9_init_206 : decode cX9_init 206 = .ok (.iadd, 1) := by decide +kernel
theorem dX9_init_207 : decode cX9_init 207 = .ok (.iconst 1, 1) := by decide +kernel
theorem dX9_init_208 : decode cX9_init 208 = .ok (.iastore, 1) := by decide +kernel
theorem dX9_init_209 : decode cX9_init 209 = .ok (.iinc 1 1, 3) := by decide +kernel
theorem dX9_init_212 : decode cX9_init 212 = .ok (.goto (-29), 3) := by decide +kernel
theorem dX9_init_215 : decode cX9_init 215 = .ok (.aload_n 0, 1) := by decide +kernel
theorem dX9_init_216 : decode cX9_init 216 = .ok (.getfield 41, 3) := by decide +kernel
theorem dX9_init_219 : decode cX9_init 219 = .ok (.iconst 0, 1) := by decide +kernel
theorem dX9_init_220 : decode cX9_init 220 = .ok (.sipush 300, 3) := by decide +kernel
theorem dX9_init_223 : decode cX9_init 223 = .ok (.iastore, 1) := by decide +kernel
theorem dX9_init_224 : decode cX9_init 224 = .ok (.aload_n 0, 1) := by decide +kernel
theorem dX9_init_225 : decode cX9_init 225 = .ok (.getfield 41, 3) := by decide +kernel
theorem dX9_init_228 : decode cX9_init 228 = .ok (.iconst 1, 1) := by decide +kernel
theorem dX9_init_229 : decode cX9_init 229 = .ok (.bipush 20, 2) := by decide +kernel
theorem dX9_init_231 : decode cX9_init 231 = .ok (.iastore, 1) := by decide +kernel
theorem dX9_init_232 : decode cX9_init 232 = .ok (.aload_n 0, 1) := by decide +kernel
theorem dX9_init_233 : decode cX9_init 233 = .ok (.getfield 41, 3) := by decide +kernel
theorem dX9_init_236 : decode cX9_init 236 = .ok (.iconst 2, 1) := by decide +kernel
theorem dX9_init_237 : decode cX9_init 237 = .ok (.bipush 10, 2) := by decide +kernel
theorem dX9_init_239 : decode cX9_init 239 = .ok (.iastore, 1) := by decide +kernel
theorem dX9_init_240 : decode cX9_init 240 = .ok (.aload_n 0, 1) := by decide +kernel
theorem dX9_init_241 : decode cX9_init 241 = .ok (.getfield 41, 3) := by decide +kernel
theorem dX9_init_244 : decode cX9_init 244 = .ok (.iconst 3, 1) := by decide +kernel
theorem dX9_init_245 : decode cX9_init 245 = .ok (.iconst 5, 1) := by decide +kernel
theorem dX9_init_246 : decode cX9_init 246 = .ok (.iastore, 1) := by decide +kernel
theorem dX9_init_247 : decode cX9_init 247 = .ok (.aload_n 0, 1) := by decide +kernel
theorem dX9_init_248 : decode cX9_init 248 = .ok (.getfield 41, 3) := by decide +kernel
theorem dX9_init_251 : decode cX9_init 251 = .ok (.iconst 4, 1) := by decide +kernel
theorem dX9_init_252 : decode cX9_init 252 = .ok (.iconst 5, 1) := by decide +kernel
theorem dX9_init_253 : decode cX9_init 253 = .ok (.iastore, 1) := by decide +kernel
theorem dX9_init_254 : decode cX9_init 254 = .ok (.return_, 1) := by decide +kernel
theorem dX9_in_0 : decode cX9_in 0 = .ok (.lload_n 0, 1) := by decide +kernel
theorem dX9_in_1 : decode cX9_in 1 = .ok (.lload_n 2, 1) := by decide +kernel
theorem dX9_in_2 : decode cX9_in 2 = .ok (.lcmp, 1) := by decide +kernel
theorem dX9_in_3 : decode cX9_in 3 = .ok (.ifCond .lt 14, 3) := by decide +kernel
theorem dX9_in_6 : decode cX9_in 6 = .ok (.lload_n 0, 1) := by decide +kernel
theorem dX9_in_7 : decode cX9_in 7 = .ok (.lload 4, 2) := by decide +kernel
theorem dX9_in_9 : decode cX9_in 9 = .ok (.lcmp, 1) := by decide +kernel
theorem dX9_in_10 : decode cX9_in 10 = .ok (.ifCond .gt 7, 3) := by decide +kernel
theorem dX9_in_13 : decode cX9_in 13 = .ok (.iconst 1, 1) := by decide +kernel
theorem dX9_in_14 : decode cX9_in 14 = .ok (.goto 4, 3) := by decide +kernel
theorem dX9_in_17 : decode cX9_in 17 = .ok (.iconst 0, 1) := by decide +kernel
theorem dX9_in_18 : decode cX9_in 18 = .ok (.ireturn, 1) := by decide +kernel
theorem dX9_no_0 : decode cX9_no 0 = .ok (.ldc2_w 71, 3) := by decide +kernel
theorem dX9_no_3 : decode cX9_no 3 = .ok (.iload_n 0, 1) := by decide +kernel
theorem dX9_no_4 : decode cX9_no 4 = .ok (.i2l, 1) := by decide +kernel
theorem dX9_no_5 : decode cX9_no 5 = .ok (.lsub, 1) := by decide +kernel
theorem dX9_no_6 : decode cX9_no 6 = .ok (.lreturn, 1) := by decide +kernel
theorem dX9_isTwo_0 : decode cX9_isTwo 0 = .ok (.iload_n 0, 1) := by decide +kernel
theorem dX9_isTwo_1 : decode cX9_isTwo 1 = .ok (.i2l, 1) := by decide +kernel
theorem dX9_isTwo_2 : decode cX9_isTwo 2 = .ok (.lconst 0, 1) := by decide +kernel
theorem dX9_isTwo_3 : decode cX9_isTwo 3 = .ok (.lconst 1, 1) := by decide +kernel
theorem dX9_isTwo_4 : decode cX9_isTwo 4 = .ok (.invokestatic 73, 3) := by decide +kernel
theorem dX9_isTwo_7 : decode cX9_isTwo 7 = .ok (.ireturn, 1) := by decide +kernel
theorem dX9_lesser_0 : decode cX9_lesser 0 = .ok (.iload_n 0, 1) := by decide +kernel
theorem dX9_lesser_1 : decode cX9_lesser 1 = .ok (.iload_n 1, 1) := by decide +kernel
theorem dX9_lesser_2 : decode cX9_lesser 2 = .ok (.if_icmp .ge 7, 3) := by decide +kernel
theorem dX9_lesser_5 : decode cX9_lesser 5 = .ok (.iload_n 0, 1) := by decide +kernel
theorem dX9_lesser_6 : decode cX9_lesser 6 = .ok (.goto 4, 3) := by decide +kernel
theorem dX9_lesser_9 : decode cX9_lesser 9 = .ok (.iload_n 1, 1) := by decide +kernel
theorem dX9_lesser_10 : decode cX9_lesser 10 = .ok (.ireturn, 1) := by decide +kernel
theorem dX9_greater_0 : decode cX9_greater 0 = .ok (.iload_n 0, 1) := by decide +kernel
theorem dX9_greater_1 : decode cX9_greater 1 = .ok (.iload_n 1, 1) := by decide +kernel
theorem dX9_greater_2 : decode cX9_greater 2 = .ok (.if_icmp .le 7, 3) := by decide +kernel
theorem dX9_greater_5 : decode cX9_greater 5 = .ok (.iload_n 0, 1) := by decide +kernel
theorem dX9_greater_6 : decode cX9_greater 6 = .ok (.goto 4, 3) := by decide +kernel
theorem dX9_greater_9 : decode cX9_greater 9 = .ok (.iload_n 1, 1) := by decide +kernel
theorem dX9_greater_10 : decode cX9_greater 10 = .ok (.ireturn, 1) := by decide +kernel
theorem dX9_within_0 : decode cX9_within 0 = .ok (.iload_n 0, 1) := by decide +kernel
theorem dX9_within_1 : decode cX9_within 1 = .ok (.ifCond .ge 7, 3) := by decide +kernel
theorem dX9_within_4 : decode cX9_within 4 = .ok (.iconst 0, 1) := by decide +kernel
theorem dX9_within_5 : decode cX9_within 5 = .ok (.goto 8, 3) := by decide +kernel
theorem dX9_within_8 : decode cX9_within 8 = .ok (.iload_n 0, 1) := by decide +kernel
theorem dX9_within_9 : decode cX9_within 9 = .ok (.iload_n 1, 1) := by decide +kernel
theorem dX9_within_10 : decode cX9_within 10 = .ok (.invokestatic 77, 3) := by decide +kernel
theorem dX9_within_13 : decode cX9_within 13 = .ok (.ireturn, 1) := by decide +kernel
theorem dX9_part_0 : decode cX9_part 0 = .ok (.lload_n 0, 1) := by decide +kernel
theorem dX9_part_1 : decode cX9_part 1 = .ok (.lconst 0, 1) := by decide +kernel
theorem dX9_part_2 : decode cX9_part 2 = .ok (.lcmp, 1) := by decide +kernel
theorem dX9_part_3 : decode cX9_part 3 = .ok (.ifCond .ge 8, 3) := by decide +kernel
theorem dX9_part_6 : decode cX9_part 6 = .ok (.lload_n 0, 1) := by decide +kernel
theorem dX9_part_7 : decode cX9_part 7 = .ok (.lneg, 1) := by decide +kernel
theorem dX9_part_8 : decode cX9_part 8 = .ok (.goto 4, 3) := by decide +kernel
theorem dX9_part_11 : decode cX9_part 11 = .ok (.lload_n 0, 1) := by decide +kernel
theorem dX9_part_12 : decode cX9_part 12 = .ok (.lstore 5, 2) := by decide +kernel
theorem dX9_part_14 : decode cX9_part 14 = .ok (.lload_n 2, 1) := by decide +kernel
theorem dX9_part_15 : decode cX9_part 15 = .ok (.lstore 7, 2) := by decide +kernel
theorem dX9_part_17 : decode cX9_part 17 = .ok (.lload 7, 2) := by decide +kernel
theorem dX9_part_19 : decode cX9_part 19 = .ok (.lconst 0, 1) := by decide +kernel
theorem dX9_part_20 : decode cX9_part 20 = .ok (.lcmp, 1) := by decide +kernel
theorem dX9_part_21 : decode cX9_part 21 = .ok (.ifCond .eq 21, 3) := by decide +kernel
theorem dX9_part_24 : decode cX9_part 24 = .ok (.lload 5, 2) := by decide +kernel
theorem dX9_part_26 : decode cX9_part 26 = .ok (.lload 7, 2) := by decide +kernel
theorem dX9_part_28 : decode cX9_part 28 = .ok (.lrem, 1) := by decide +kernel
theorem dX9_part_29 : decode cX9_part 29 = .ok (.lstore 9, 2) := by decide +kernel
theorem dX9_part_31 : decode cX9_part 31 = .ok (.lload 7, 2) := by decide +kernel
theorem dX9_part_33 : decode cX9_part 33 = .ok (.lstore 5, 2) := by decide +kernel
theorem dX9_part_35 : decode cX9_part 35 = .ok (.lload 9, 2) := by decide +kernel
theorem dX9_part_37 : decode cX9_part 37 = .ok (.lstore 7, 2) := by decide +kernel
theorem dX9_part_39 : decode cX9_part 39 = .ok (.goto (-22), 3) := by decide +kernel
theorem dX9_part_42 : decode cX9_part 42 = .ok (.iload 4, 2) := by decide +kernel
theorem dX9_part_44 : decode cX9_part 44 = .ok (.ifCond .ne 7, 3) := by decide +kernel
theorem dX9_part_47 : decode cX9_part 47 = .ok (.lload_n 0, 1) := by decide +kernel
theorem dX9_part_48 : decode cX9_part 48 = .ok (.goto 4, 3) := by decide +kernel
theorem dX9_part_51 : decode cX9_part 51 = .ok (.lload_n 2, 1) := by decide +kernel
theorem dX9_part_52 : decode cX9_part 52 = .ok (.lload 5, 2) := by decide +kernel
theorem dX9_part_54 : decode cX9_part 54 = .ok (.ldiv, 1) := by decide +kernel
theorem dX9_part_55 : decode cX9_part 55 = .ok (.lreturn, 1) := by decide +kernel
theorem dX9_met_0 : decode cX9_met 0 = .ok (.aload_n 0, 1) := by decide +kernel
theorem dX9_met_1 : decode cX9_met 1 = .ok (.iload_n 1, 1) := by decide +kernel
theorem dX9_met_2 : decode cX9_met 2 = .ok (.putfield 81, 3) := by decide +kernel
theorem dX9_met_5 : decode cX9_met 5 = .ok (.bipush (-10), 2) := by decide +kernel
theorem dX9_met_7 : decode cX9_met 7 = .ok (.iload_n 1, 1) := by decide +kernel
theorem dX9_met_8 : decode cX9_met 8 = .ok (.isub, 1) := by decide +kernel
theorem dX9_met_9 : decode cX9_met 9 = .ok (.ireturn, 1) := by decide +kernel
theorem dX9_isSheet_0 : decode cX9_isSheet 0 = .ok (.iload_n 0, 1) := by decide +kernel
theorem dX9_isSheet_1 : decode cX9_isSheet 1 = .ok (.i2l, 1) := by decide +kernel
theorem dX9_isSheet_2 : decode cX9_isSheet 2 = .ok (.lconst 0, 1) := by decide +kernel
theorem dX9_isSheet_3 : decode cX9_isSheet 3 = .ok (.ldc2_w 85, 3) := by decide +kernel
theorem dX9_isSheet_6 : decode cX9_isSheet 6 = .ok (.invokestatic 73, 3) := by decide +kernel
theorem dX9_isSheet_9 : decode cX9_isSheet 9 = .ok (.ireturn, 1) := by decide +kernel
theorem dX9_sheet_0 : decode cX9_sheet 0 = .ok (.iload_n 1, 1) := by decide +kernel
theorem dX9_sheet_1 : decode cX9_sheet 1 = .ok (.invokestatic 87, 3) := by decide +kernel
theorem dX9_sheet_4 : decode cX9_sheet 4 = .ok (.ifCond .eq 21, 3) := by decide +kernel
theorem dX9_sheet_7 : decode cX9_sheet 7 = .ok (.iload_n 2, 1) := by decide +kernel
theorem dX9_sheet_8 : decode cX9_sheet 8 = .ok (.i2l, 1) := by decide +kernel
theorem dX9_sheet_9 : decode cX9_sheet 9 = .ok (.lconst 0, 1) := by decide +kernel
theorem dX9_sheet_10 : decode cX9_sheet 10 = .ok (.ldc2_w 91, 3) := by decide +kernel
theorem dX9_sheet_13 : decode cX9_sheet 13 = .ok (.invokestatic 73, 3) := by decide +kernel
theorem dX9_sheet_16 : decode cX9_sheet 16 = .ok (.ifCond .eq 9, 3) := by decide +kernel
theorem dX9_sheet_19 : decode cX9_sheet 19 = .ok (.iload_n 3, 1) := by decide +kernel
theorem dX9_sheet_20 : decode cX9_sheet 20 = .ok (.bipush 60, 2) := by decide +kernel
theorem dX9_sheet_22 : decode cX9_sheet 22 = .ok (.if_icmp .le 6, 3) := by decide +kernel
theorem dX9_sheet_25 : decode cX9_sheet 25 = .ok (.bipush (-2), 2) := by decide +kernel
theorem dX9_sheet_27 : decode cX9_sheet 27 = .ok (.ireturn, 1) := by decide +kernel
theorem dX9_sheet_28 : decode cX9_sheet 28 = .ok (.iload_n 3, 1) := by decide +kernel
theorem dX9_sheet_29 : decode cX9_sheet 29 = .ok (.ifCond .ge 9, 3) := by decide +kernel
theorem dX9_sheet_32 : decode cX9_sheet 32 = .ok (.aload_n 0, 1) := by decide +kernel
theorem dX9_sheet_33 : decode cX9_sheet 33 = .ok (.iconst 5, 1) := by decide +kernel
theorem dX9_sheet_34 : decode cX9_sheet 34 = .ok (.invokevirtual 93, 3) := by decide +kernel
theorem dX9_sheet_37 : decode cX9_sheet 37 = .ok (.ireturn, 1) := by decide +kernel
theorem dX9_sheet_38 : decode cX9_sheet 38 = .ok (.aload_n 0, 1) := by decide +kernel
theorem dX9_sheet_39 : decode cX9_sheet 39 = .ok (.getfield 7, 3) := by decide +kernel
theorem dX9_sheet_42 : decode cX9_sheet 42 = .ok (.iload_n 1, 1) := by decide +kernel
theorem dX9_sheet_43 : decode cX9_sheet 43 = .ok (.iload_n 2, 1) := by decide +kernel
theorem dX9_sheet_44 : decode cX9_sheet 44 = .ok (.iastore, 1) := by decide +kernel
theorem dX9_sheet_45 : decode cX9_sheet 45 = .ok (.aload_n 0, 1) := by decide +kernel
theorem dX9_sheet_46 : decode cX9_sheet 46 = .ok (.getfield 13, 3) := by decide +kernel
theorem dX9_sheet_49 : decode cX9_sheet 49 = .ok (.iload_n 1, 1) := by decide +kernel
theorem dX9_sheet_50 : decode cX9_sheet 50 = .ok (.iload_n 3, 1) := by decide +kernel
theorem dX9_sheet_51 : decode cX9_sheet 51 = .ok (.iastore, 1) := by decide +kernel
theorem dX9_sheet_52 : decode cX9_sheet 52 = .ok (.iconst 0, 1) := by decide +kernel
theorem dX9_sheet_53 : decode cX9_sheet 53 = .ok (.istore 4, 2) := by decide +kernel
theorem dX9_sheet_55 : decode cX9_sheet 55 = .ok (.iload 4, 2) := by decide +kernel
theorem dX9_sheet_57 : decode cX9_sheet 57 = .ok (.iload_n 3, 1) := by decide +kernel
theorem dX9_sheet_58 : decode cX9_sheet 58 = .ok (.if_icmp .ge 22, 3) := by decide +kernel
theorem dX9_sheet_61 : decode cX9_sheet 61 = .ok (.aload_n 0, 1) := by decide +kernel
theorem dX9_sheet_62 : decode cX9_sheet 62 = .ok (.getfield 16, 3) := by decide +kernel
theorem dX9_sheet_65 : decode cX9_sheet 65 = .ok (.bipush 60, 2) := by decide +kernel
theorem dX9_sheet_67 : decode cX9_sheet 67 = .ok (.iload_n 1, 1) := by decide +kernel
theorem dX9_sheet_68 : decode cX9_sheet 68 = .ok (.imul, 1) := by decide +kernel
theorem dX9_sheet_69 : decode cX9_sheet 69 = .ok (.iload 4, 2) := by decide +kernel
theorem dX9_sheet_71 : decode cX9_sheet 71 = .ok (.iadd, 1) := by decide +kernel
theorem dX9_sheet_72 : decode cX9_sheet 72 = .ok (.iconst 0, 1) := by decide +kernel
theorem dX9_sheet_73 : decode cX9_sheet 73 = .ok (.iastore, 1) := by decide +kernel
theorem dX9_sheet_74 : decode cX9_sheet 74 = .ok (.iinc 4 1, 3) := by decide +kernel
theorem dX9_sheet_77 : decode cX9_sheet 77 = .ok (.goto (-22), 3) := by decide +kernel
theorem dX9_sheet_80 : decode cX9_sheet 80 = .ok (.iload_n 3, 1) := by decide +kernel
theorem dX9_sheet_81 : decode cX9_sheet 81 = .ok (.ireturn, 1) := by decide +kernel
theorem dX9_lose_0 : decode cX9_lose 0 = .ok (.iload_n 1, 1) := by decide +kernel
theorem dX9_lose_1 : decode cX9_lose 1 = .ok (.invokestatic 87, 3) := by decide +kernel
theorem dX9_lose_4 : decode cX9_lose 4 = .ok (.ifCond .ne 6, 3) := by decide +kernel
theorem dX9_lose_7 : decode cX9_lose 7 = .ok (.bipush (-2), 2) := by decide +kernel
theorem dX9_lose_9 : decode cX9_lose 9 = .ok (.ireturn, 1) := by decide +kernel
theorem dX9_lose_10 : decode cX9_lose 10 = .ok (.aload_n 0, 1) := by decide +kernel
theorem dX9_lose_11 : decode cX9_lose 11 = .ok (.getfield 7, 3) := by decide +kernel
theorem dX9_lose_14 : decode cX9_lose 14 = .ok (.iload_n 1, 1) := by decide +kernel
theorem dX9_lose_15 : decode cX9_lose 15 = .ok (.iaload, 1) := by decide +kernel
theorem dX9_lose_16 : decode cX9_lose 16 = .ok (.ifCond .ge 9, 3) := by decide +kernel
theorem dX9_lose_19 : decode cX9_lose 19 = .ok (.aload_n 0, 1) := by decide +kernel
theorem dX9_lose_20 : decode cX9_lose 20 = .ok (.iconst 1, 1) := by decide +kernel
theorem dX9_lose_21 : decode cX9_lose 21 = .ok (.invokevirtual 93, 3) := by decide +kernel
theorem dX9_lose_24 : decode cX9_lose 24 = .ok (.ireturn, 1) := by decide +kernel
theorem dX9_lose_25 : decode cX9_lose 25 = .ok (.aload_n 0, 1) := by decide +kernel
theorem dX9_lose_26 : decode cX9_lose 26 = .ok (.getfield 7, 3) := by decide +kernel
theorem dX9_lose_29 : decode cX9_lose 29 = .ok (.iload_n 1, 1) := by decide +kernel
theorem dX9_lose_30 : decode cX9_lose 30 = .ok (.iconst (-1), 1) := by decide +kernel
theorem dX9_lose_31 : decode cX9_lose 31 = .ok (.iastore, 1) := by decide +kernel
theorem dX9_lose_32 : decode cX9_lose 32 = .ok (.aload_n 0, 1) := by decide +kernel
theorem dX9_lose_33 : decode cX9_lose 33 = .ok (.getfield 13, 3) := by decide +kernel
theorem dX9_lose_36 : decode cX9_lose 36 = .ok (.iload_n 1, 1) := by decide +kernel
theorem dX9_lose_37 : decode cX9_lose 37 = .ok (.iaload, 1) := by decide +kernel
theorem dX9_lose_38 : decode cX9_lose 38 = .ok (.ireturn, 1) := by decide +kernel
theorem dX9_lacks_0 : decode cX9_lacks 0 = .ok (.aload_n 0, 1) := by decide +kernel
theorem dX9_lacks_1 : decode cX9_lacks 1 = .ok (.getfield 7, 3) := by decide +kernel
theorem dX9_lacks_4 : decode cX9_lacks 4 = .ok (.iload_n 1, 1) := by decide +kernel
theorem dX9_lacks_5 : decode cX9_lacks 5 = .ok (.iaload, 1) := by decide +kernel
theorem dX9_lacks_6 : decode cX9_lacks 6 = .ok (.ifCond .ge 9, 3) := by decide +kernel
theorem dX9_lacks_9 : decode cX9_lacks 9 = .ok (.aload_n 0, 1) := by decide +kernel
theorem dX9_lacks_10 : decode cX9_lacks 10 = .ok (.iconst 1, 1) := by decide +kernel
theorem dX9_lacks_11 : decode cX9_lacks 11 = .ok (.invokevirtual 93, 3) := by decide +kernel
theorem dX9_lacks_14 : decode cX9_lacks 14 = .ok (.ireturn, 1) := by decide +kernel
theorem dX9_lacks_15 : decode cX9_lacks 15 = .ok (.aload_n 0, 1) := by decide +kernel
theorem dX9_lacks_16 : decode cX9_lacks 16 = .ok (.getfield 7, 3) := by decide +kernel
theorem dX9_lacks_19 : decode cX9_lacks 19 = .ok (.iload_n 1, 1) := by decide +kernel
theorem dX9_lacks_20 : decode cX9_lacks 20 = .ok (.iaload, 1) := by decide +kernel
theorem dX9_lacks_21 : decode cX9_lacks 21 = .ok (.iload_n 2, 1) := by decide +kernel
theorem dX9_lacks_22 : decode cX9_lacks 22 = .ok (.if_icmp .eq 9, 3) := by decide +kernel
theorem dX9_lacks_25 : decode cX9_lacks 25 = .ok (.aload_n 0, 1) := by decide +kernel
theorem dX9_lacks_26 : decode cX9_lacks 26 = .ok (.iconst 3, 1) := by decide +kernel
theorem dX9_lacks_27 : decode cX9_lacks 27 = .ok (.invokevirtual 93, 3) := by decide +kernel
theorem dX9_lacks_30 : decode cX9_lacks 30 = .ok (.ireturn, 1) := by decide +kernel
theorem dX9_lacks_31 : decode cX9_lacks 31 = .ok (.iload_n 3, 1) := by decide +kernel
theorem dX9_lacks_32 : decode cX9_lacks 32 = .ok (.i2l, 1) := by decide +kernel
theorem dX9_lacks_33 : decode cX9_lacks 33 = .ok (.lconst 0, 1) := by decide +kernel
theorem dX9_lacks_34 : decode cX9_lacks 34 = .ok (.aload_n 0, 1) := by decide +kernel
theorem dX9_lacks_35 : decode cX9_lacks 35 = .ok (.getfield 13, 3) := by decide +kernel
theorem dX9_lacks_38 : decode cX9_lacks 38 = .ok (.iload_n 1, 1) := by decide +kernel
theorem dX9_lacks_39 : decode cX9_lacks 39 = .ok (.iaload, 1) := by decide +kernel
theorem dX9_lacks_40 : decode cX9_lacks 40 = .ok (.iconst 1, 1) := by decide +kernel
theorem dX9_lacks_41 : decode cX9_lacks 41 = .ok (.isub, 1) := by decide +kernel
theorem dX9_lacks_42 : decode cX9_lacks 42 = .ok (.i2l, 1) := by decide +kernel
theorem dX9_lacks_43 : decode cX9_lacks 43 = .ok (.invokestatic 73, 3) := by decide +kernel
theorem dX9_lacks_46 : decode cX9_lacks 46 = .ok (.ifCond .eq 7, 3) := by decide +kernel
theorem dX9_lacks_49 : decode cX9_lacks 49 = .ok (.iconst 0, 1) := by decide +kernel
theorem dX9_lacks_50 : decode cX9_lacks 50 = .ok (.goto 8, 3) := by decide +kernel
theorem dX9_lacks_53 : decode cX9_lacks 53 = .ok (.aload_n 0, 1) := by decide +kernel
theorem dX9_lacks_54 : decode cX9_lacks 54 = .ok (.iconst 2, 1) := by decide +kernel
theorem dX9_lacks_55 : decode cX9_lacks 55 = .ok (.invokevirtual 93, 3) := by decide +kernel
theorem dX9_lacks_58 : decode cX9_lacks 58 = .ok (.ireturn, 1) := by decide +kernel
theorem dX9_cut_0 : decode cX9_cut 0 = .ok (.iload_n 0, 1) := by decide +kernel
theorem dX9_cut_1 : decode cX9_cut 1 = .ok (.ifCond .ne 8, 3) := by decide +kernel
theorem dX9_cut_4 : decode cX9_cut 4 = .ok (.iload_n 1, 1) := by decide +kernel
theorem dX9_cut_5 : decode cX9_cut 5 = .ok (.i2b, 1) := by decide +kernel
theorem dX9_cut_6 : decode cX9_cut 6 = .ok (.goto 14, 3) := by decide +kernel
theorem dX9_cut_9 : decode cX9_cut 9 = .ok (.iload_n 0, 1) := by decide +kernel
theorem dX9_cut_10 : decode cX9_cut 10 = .ok (.iconst 1, 1) := by decide +kernel
theorem dX9_cut_11 : decode cX9_cut 11 = .ok (.if_icmp .ne 8, 3) := by decide +kernel
theorem dX9_cut_14 : decode cX9_cut 14 = .ok (.iload_n 1, 1) := by decide +kernel
theorem dX9_cut_15 : decode cX9_cut 15 = .ok (.i2s, 1) := by decide +kernel
theorem dX9_cut_16 : decode cX9_cut 16 = .ok (.goto 4, 3) := by decide +kernel
theorem dX9_cut_19 : decode cX9_cut 19 = .ok (.iload_n 1, 1) := by decide +kernel
theorem dX9_cut_20 : decode cX9_cut 20 = .ok (.ireturn, 1) := by decide +kernel
theorem dX9_lay_0 : decode cX9_lay 0 = .ok (.iload_n 1, 1) := by decide +kernel
theorem dX9_lay_1 : decode cX9_lay 1 = .ok (.invokestatic 87, 3) := by decide +kernel
theorem dX9_lay_4 : decode cX9_lay 4 = .ok (.ifCond .eq 15, 3) := by decide +kernel
theorem dX9_lay_7 : decode cX9_lay 7 = .ok (.iload_n 2, 1) := by decide +kernel
theorem dX9_lay_8 : decode cX9_lay 8 = .ok (.i2l, 1) := by decide +kernel
theorem dX9_lay_9 : decode cX9_lay 9 = .ok (.lconst 0, 1) := by decide +kernel
theorem dX9_lay_10 : decode cX9_lay 10 = .ok (.ldc2_w 91, 3) := by decide +kernel
theorem dX9_lay_13 : decode cX9_lay 13 = .ok (.invokestatic 73, 3) := by decide +kernel
theorem dX9_lay_16 : decode cX9_lay 16 = .ok (.ifCond .ne 6, 3) := by decide +kernel
theorem dX9_lay_19 : decode cX9_lay 19 = .ok (.bipush (-2), 2) := by decide +kernel
theorem dX9_lay_21 : decode cX9_lay 21 = .ok (.ireturn, 1) := by decide +kernel
theorem dX9_lay_22 : decode cX9_lay 22 = .ok (.aload_n 0, 1) := by decide +kernel
theorem dX9_lay_23 : decode cX9_lay 23 = .ok (.iload_n 1, 1) := by decide +kernel
theorem dX9_lay_24 : decode cX9_lay 24 = .ok (.iload_n 2, 1) := by decide +kernel
theorem dX9_lay_25 : decode cX9_lay 25 = .ok (.iload_n 3, 1) := by decide +kernel
theorem dX9_lay_26 : decode cX9_lay 26 = .ok (.invokevirtual 97, 3) := by decide +kernel
theorem dX9_lay_29 : decode cX9_lay 29 = .ok (.istore 5, 2) := by decide +kernel
theorem dX9_lay_31 : decode cX9_lay 31 = .ok (.iload 5, 2) := by decide +kernel
theorem dX9_lay_33 : decode cX9_lay 33 = .ok (.ifCond .eq 6, 3) := by decide +kernel
theorem dX9_lay_36 : decode cX9_lay 36 = .ok (.iload 5, 2) := by decide +kernel
theorem dX9_lay_38 : decode cX9_lay 38 = .ok (.ireturn, 1) := by decide +kernel
theorem dX9_lay_39 : decode cX9_lay 39 = .ok (.aload_n 0, 1) := by decide +kernel
theorem dX9_lay_40 : decode cX9_lay 40 = .ok (.getfield 16, 3) := by decide +kernel
theorem dX9_lay_43 : decode cX9_lay 43 = .ok (.bipush 60, 2) := by decide +kernel
theorem dX9_lay_45 : decode cX9_lay 45 = .ok (.iload_n 1, 1) := by decide +kernel
theorem dX9_lay_46 : decode cX9_lay 46 = .ok (.imul, 1) := by decide +kernel
theorem dX9_lay_47 : decode cX9_lay 47 = .ok (.iload_n 3, 1) := by decide +kernel
theorem dX9_lay_48 : decode cX9_lay 48 = .ok (.iadd, 1) := by decide +kernel
theorem dX9_lay_49 : decode cX9_lay 49 = .ok (.iload_n 2, 1) := by decide +kernel
theorem dX9_lay_50 : decode cX9_lay 50 = .ok (.iload 4, 2) := by decide +kernel
theorem dX9_lay_52 : decode cX9_lay 52 = .ok (.invokestatic 101, 3) := by decide +kernel
theorem dX9_lay_55 : decode cX9_lay 55 = .ok (.iastore, 1) := by decide +kernel
theorem dX9_lay_56 : decode cX9_lay 56 = .ok (.iconst 1, 1) := by decide +kernel
theorem dX9_lay_57 : decode cX9_lay 57 = .ok (.ireturn, 1) := by decide +kernel
theorem dX9_get_0 : decode cX9_get 0 = .ok (.iload_n 1, 1) := by decide +kernel
theorem dX9_get_1 : decode cX9_get 1 = .ok (.invokestatic 87, 3) := by decide +kernel
theorem dX9_get_4 : decode cX9_get 4 = .ok (.ifCond .eq 25, 3) := by decide +kernel
theorem dX9_get_7 : decode cX9_get 7 = .ok (.iload_n 2, 1) := by decide +kernel
theorem dX9_get_8 : decode cX9_get 8 = .ok (.i2l, 1) := by decide +kernel
theorem dX9_get_9 : decode cX9_get 9 = .ok (.lconst 0, 1) := by decide +kernel
theorem dX9_get_10 : decode cX9_get 10 = .ok (.ldc2_w 91, 3) := by decide +kernel
theorem dX9_get_13 : decode cX9_get 13 = .ok (.invokestatic 73, 3) := by decide +kernel
theorem dX9_get_16 : decode cX9_get 16 = .ok (.ifCond .eq 13, 3) := by decide +kernel
theorem dX9_get_19 : decode cX9_get 19 = .ok (.aload_n 0, 1) := by decide +kernel
theorem dX9_get_20 : decode cX9_get 20 = .ok (.iload_n 1, 1) := by decide +kernel
theorem dX9_get_21 : decode cX9_get 21 = .ok (.iload_n 2, 1) := by decide +kernel
theorem dX9_get_22 : decode cX9_get 22 = .ok (.iload_n 3, 1) := by decide +kernel
theorem dX9_get_23 : decode cX9_get 23 = .ok (.invokevirtual 97, 3) := by decide +kernel
theorem dX9_get_26 : decode cX9_get 26 = .ok (.ifCond .eq 6, 3) := by decide +kernel
theorem dX9_get_29 : decode cX9_get 29 = .ok (.ldc 104, 2) := by decide +kernel
theorem dX9_get_31 : decode cX9_get 31 = .ok (.ireturn, 1) := by decide +kernel
theorem dX9_get_32 : decode cX9_get 32 = .ok (.aload_n 0, 1) := by decide +kernel
theorem dX9_get_33 : decode cX9_get 33 = .ok (.getfield 16, 3) := by decide +kernel
theorem dX9_get_36 : decode cX9_get 36 = .ok (.bipush 60, 2) := by decide +kernel
theorem dX9_get_38 : decode cX9_get 38 = .ok (.iload_n 1, 1) := by decide +kernel
theorem dX9_get_39 : decode cX9_get 39 = .ok (.imul, 1) := by decide +kernel
theorem dX9_get_40 : decode cX9_get 40 = .ok (.iload_n 3, 1) := by decide +kernel
theorem dX9_get_41 : decode cX9_get 41 = .ok (.iadd, 1) := by decide +kernel
theorem dX9_get_42 : decode cX9_get 42 = .ok (.iaload, 1) := by decide +kernel
theorem dX9_get_43 : decode cX9_get 43 = .ok (.ireturn, 1) := by decide +kernel
theorem dX9_copy_0 : decode cX9_copy 0 = .ok (.iload_n 1, 1) := by decide +kernel
theorem dX9_copy_1 : decode cX9_copy 1 = .ok (.invokestatic 87, 3) := by decide +kernel
theorem dX9_copy_4 : decode cX9_copy 4 = .ok (.ifCond .eq 10, 3) := by decide +kernel
theorem dX9_copy_7 : decode cX9_copy 7 = .ok (.iload_n 3, 1) := by decide +kernel
theorem dX9_copy_8 : decode cX9_copy 8 = .ok (.invokestatic 87, 3) := by decide +kernel
theorem dX9_copy_11 : decode cX9_copy 11 = .ok (.ifCond .ne 6, 3) := by decide +kernel
theorem dX9_copy_14 : decode cX9_copy 14 = .ok (.bipush (-2), 2) := by decide +kernel
theorem dX9_copy_16 : decode cX9_copy 16 = .ok (.ireturn, 1) := by decide +kernel
theorem dX9_copy_17 : decode cX9_copy 17 = .ok (.aload_n 0, 1) := by decide +kernel
theorem dX9_copy_18 : decode cX9_copy 18 = .ok (.getfield 7, 3) := by decide +kernel
theorem dX9_copy_21 : decode cX9_copy 21 = .ok (.iload_n 1, 1) := by decide +kernel
theorem dX9_copy_22 : decode cX9_copy 22 = .ok (.iaload, 1) := by decide +kernel
theorem dX9_copy_23 : decode cX9_copy 23 = .ok (.ifCond .lt 12, 3) := by decide +kernel
theorem dX9_copy_26 : decode cX9_copy 26 = .ok (.aload_n 0, 1) := by decide +kernel
theorem dX9_copy_27 : decode cX9_copy 27 = .ok (.getfield 7, 3) := by decide +kernel
theorem dX9_copy_30 : decode cX9_copy 30 = .ok (.iload_n 3, 1) := by decide +kernel
theorem dX9_copy_31 : decode cX9_copy 31 = .ok (.iaload, 1) := by decide +kernel
theorem dX9_copy_32 : decode cX9_copy 32 = .ok (.ifCond .ge 9, 3) := by decide +kernel
theorem dX9_copy_35 : decode cX9_copy 35 = .ok (.aload_n 0, 1) := by decide +kernel
theorem dX9_copy_36 : decode cX9_copy 36 = .ok (.iconst 1, 1) := by decide +kernel
theorem dX9_copy_37 : decode cX9_copy 37 = .ok (.invokevirtual 93, 3) := by decide +kernel
theorem dX9_copy_40 : decode cX9_copy 40 = .ok (.ireturn, 1) := by decide +kernel
theorem dX9_copy_41 : decode cX9_copy 41 = .ok (.aload_n 0, 1) := by decide +kernel
theorem dX9_copy_42 : decode cX9_copy 42 = .ok (.getfield 7, 3) := by decide +kernel
theorem dX9_copy_45 : decode cX9_copy 45 = .ok (.iload_n 1, 1) := by decide +kernel
theorem dX9_copy_46 : decode cX9_copy 46 = .ok (.iaload, 1) := by decide +kernel
theorem dX9_copy_47 : decode cX9_copy 47 = .ok (.aload_n 0, 1) := by decide +kernel
theorem dX9_copy_48 : decode cX9_copy 48 = .ok (.getfield 7, 3) := by decide +kernel
theorem dX9_copy_51 : decode cX9_copy 51 = .ok (.iload_n 3, 1) := by decide +kernel
theorem dX9_copy_52 : decode cX9_copy 52 = .ok (.iaload, 1) := by decide +kernel
theorem dX9_copy_53 : decode cX9_copy 53 = .ok (.if_icmp .eq 9, 3) := by decide +kernel
theorem dX9_copy_56 : decode cX9_copy 56 = .ok (.aload_n 0, 1) := by decide +kernel
theorem dX9_copy_57 : decode cX9_copy 57 = .ok (.iconst 4, 1) := by decide +kernel
theorem dX9_copy_58 : decode cX9_copy 58 = .ok (.invokevirtual 93, 3) := by decide +kernel
theorem dX9_copy_61 : decode cX9_copy 61 = .ok (.ireturn, 1) := by decide +kernel
theorem dX9_copy_62 : decode cX9_copy 62 = .ok (.iload_n 2, 1) := by decide +kernel
theorem dX9_copy_63 : decode cX9_copy 63 = .ok (.ifCond .lt 48, 3) := by decide +kernel
theorem dX9_copy_66 : decode cX9_copy 66 = .ok (.iload 4, 2) := by decide +kernel
theorem dX9_copy_68 : decode cX9_copy 68 = .ok (.ifCond .lt 43, 3) := by decide +kernel
theorem dX9_copy_71 : decode cX9_copy 71 = .ok (.iload 5, 2) := by decide +kernel
theorem dX9_copy_73 : decode cX9_copy 73 = .ok (.ifCond .lt 38, 3) := by decide +kernel
theorem dX9_copy_76 : decode cX9_copy 76 = .ok (.iload_n 2, 1) := by decide +kernel
theorem dX9_copy_77 : decode cX9_copy 77 = .ok (.i2l, 1) := by decide +kernel
theorem dX9_copy_78 : decode cX9_copy 78 = .ok (.iload 5, 2) := by decide +kernel
theorem dX9_copy_80 : decode cX9_copy 80 = .ok (.i2l, 1) := by decide +kernel
theorem dX9_copy_81 : decode cX9_copy 81 = .ok (.ladd, 1) := by decide +kernel
theorem dX9_copy_82 : decode cX9_copy 82 = .ok (.aload_n 0, 1) := by decide +kernel
theorem dX9_copy_83 : decode cX9_copy 83 = .ok (.getfield 13, 3) := by decide +kernel
theorem dX9_copy_86 : decode cX9_copy 86 = .ok (.iload_n 1, 1) := by decide +kernel
theorem dX9_copy_87 : decode cX9_copy 87 = .ok (.iaload, 1) := by decide +kernel
theorem dX9_copy_88 : decode cX9_copy 88 = .ok (.i2l, 1) := by decide +kernel
theorem dX9_copy_89 : decode cX9_copy 89 = .ok (.lcmp, 1) := by decide +kernel
theorem dX9_copy_90 : decode cX9_copy 90 = .ok (.ifCond .gt 21, 3) := by decide +kernel
theorem dX9_copy_93 : decode cX9_copy 93 = .ok (.iload 4, 2) := by decide +kernel
theorem dX9_copy_95 : decode cX9_copy 95 = .ok (.i2l, 1) := by decide +kernel
theorem dX9_copy_96 : decode cX9_copy 96 = .ok (.iload 5, 2) := by decide +kernel
theorem dX9_copy_98 : decode cX9_copy 98 = .ok (.i2l, 1) := by decide +kernel
theorem dX9_copy_99 : decode cX9_copy 99 = .ok (.ladd, 1) := by decide +kernel
theorem dX9_copy_100 : decode cX9_copy 100 = .ok (.aload_n 0, 1) := by decide +kernel
theorem dX9_copy_101 : decode cX9_copy 101 = .ok (.getfield 13, 3) := by decide +kernel
theorem dX9_copy_104 : decode cX9_copy 104 = .ok (.iload_n 3, 1) := by decide +kernel
theorem dX9_copy_105 : decode cX9_copy 105 = .ok (.iaload, 1) := by decide +kernel
theorem dX9_copy_106 : decode cX9_copy 106 = .ok (.i2l, 1) := by decide +kernel
theorem dX9_copy_107 : decode cX9_copy 107 = .ok (.lcmp, 1) := by decide +kernel
theorem dX9_copy_108 : decode cX9_copy 108 = .ok (.ifCond .le 9, 3) := by decide +kernel
theorem dX9_copy_111 : decode cX9_copy 111 = .ok (.aload_n 0, 1) := by decide +kernel
theorem dX9_copy_112 : decode cX9_copy 112 = .ok (.iconst 2, 1) := by decide +kernel
theorem dX9_copy_113 : decode cX9_copy 113 = .ok (.invokevirtual 93, 3) := by decide +kernel
theorem dX9_copy_116 : decode cX9_copy 116 = .ok (.ireturn, 1) := by decide +kernel
theorem dX9_copy_117 : decode cX9_copy 117 = .ok (.iconst 0, 1) := by decide +kernel
theorem dX9_copy_118 : decode cX9_copy 118 = .ok (.istore 6, 2) := by decide +kernel
theorem dX9_copy_120 : decode cX9_copy 120 = .ok (.iload 6, 2) := by decide +kernel
theorem dX9_copy_122 : decode cX9_copy 122 = .ok (.iload 5, 2) := by decide +kernel
theorem dX9_copy_124 : decode cX9_copy 124 = .ok (.if_icmp .ge 30, 3) := by decide +kernel
theorem dX9_copy_127 : decode cX9_copy 127 = .ok (.aload_n 0, 1) := by decide +kernel
theorem dX9_copy_128 : decode cX9_copy 128 = .ok (.getfield 19, 3) := by decide +kernel
theorem dX9_copy_131 : decode cX9_copy 131 = .ok (.iload 6, 2) := by decide +kernel
theorem dX9_copy_133 : decode cX9_copy 133 = .ok (.aload_n 0, 1) := by decide +kernel
theorem dX9_copy_134 : decode cX9_copy 134 = .ok (.getfield 16, 3) := by decide +kernel
theorem dX9_copy_137 : decode cX9_copy 137 = .ok (.bipush 60, 2) := by decide +kernel
theorem dX9_copy_139 : decode cX9_copy 139 = .ok (.iload_n 1, 1) := by decide +kernel
theorem dX9_copy_140 : decode cX9_copy 140 = .ok (.imul, 1) := by decide +kernel
theorem dX9_copy_141 : decode cX9_copy 141 = .ok (.iload_n 2, 1) := by decide +kernel
theorem dX9_copy_142 : decode cX9_copy 142 = .ok (.iadd, 1) := by decide +kernel
theorem dX9_copy_143 : decode cX9_copy 143 = .ok (.iload 6, 2) := by decide +kernel
theorem dX9_copy_145 : decode cX9_copy 145 = .ok (.iadd, 1) := by decide +kernel
theorem dX9_copy_146 : decode cX9_copy 146 = .ok (.iaload, 1) := by decide +kernel
theorem dX9_copy_147 : decode cX9_copy 147 = .ok (.iastore, 1) := by decide +kernel
theorem dX9_copy_148 : decode cX9_copy 148 = .ok (.iinc 6 1, 3) := by decide +kernel
theorem dX9_copy_151 : decode cX9_copy 151 = .ok (.goto (-31), 3) := by decide +kernel
theorem dX9_copy_154 : decode cX9_copy 154 = .ok (.iconst 0, 1) := by decide +kernel
theorem dX9_copy_155 : decode cX9_copy 155 = .ok (.istore 6, 2) := by decide +kernel
theorem dX9_copy_157 : decode cX9_copy 157 = .ok (.iload 6, 2) := by decide +kernel
theorem dX9_copy_159 : decode cX9_copy 159 = .ok (.iload 5, 2) := by decide +kernel
theorem dX9_copy_161 : decode cX9_copy 161 = .ok (.if_icmp .ge 31, 3) := by decide +kernel
theorem dX9_copy_164 : decode cX9_copy 164 = .ok (.aload_n 0, 1) := by decide +kernel
theorem dX9_copy_165 : decode cX9_copy 165 = .ok (.getfield 16, 3) := by decide +kernel
theorem dX9_copy_168 : decode cX9_copy 168 = .ok (.bipush 60, 2) := by decide +kernel
theorem dX9_copy_170 : decode cX9_copy 170 = .ok (.iload_n 3, 1) := by decide +kernel
theorem dX9_copy_171 : decode cX9_copy 171 = .ok (.imul, 1) := by decide +kernel
theorem dX9_copy_172 : decode cX9_copy 172 = .ok (.iload 4, 2) := by decide +kernel
theorem dX9_copy_174 : decode cX9_copy 174 = .ok (.iadd, 1) := by decide +kernel
theorem dX9_copy_175 : decode cX9_copy 175 = .ok (.iload 6, 2) := by decide +kernel
theorem dX9_copy_177 : decode cX9_copy 177 = .ok (.iadd, 1) := by decide +kernel
theorem dX9_copy_178 : decode cX9_copy 178 = .ok (.aload_n 0, 1) := by decide +kernel
theorem dX9_copy_179 : decode cX9_copy 179 = .ok (.getfield 19, 3) := by decide +kernel
theorem dX9_copy_182 : decode cX9_copy 182 = .ok (.iload 6, 2) := by decide +kernel
theorem dX9_copy_184 : decode cX9_copy 184 = .ok (.iaload, 1) := by decide +kernel
theorem dX9_copy_185 : decode cX9_copy 185 = .ok (.iastore, 1) := by decide +kernel
theorem dX9_copy_186 : decode cX9_copy 186 = .ok (.iinc 6 1, 3) := by decide +kernel
theorem dX9_copy_189 : decode cX9_copy 189 = .ok (.goto (-32), 3) := by decide +kernel
theorem dX9_copy_192 : decode cX9_copy 192 = .ok (.iconst 1, 1) := by decide +kernel
theorem dX9_copy_193 : decode cX9_copy 193 = .ok (.ireturn, 1) := by decide +kernel
theorem dX9_type_0 : decode cX9_type 0 = .ok (.iload_n 1, 1) := by decide +kernel
theorem dX9_type_1 : decode cX9_type 1 = .ok (.invokestatic 105, 3) := by decide +kernel
theorem dX9_type_4 : decode cX9_type 4 = .ok (.ifCond .eq 15, 3) := by decide +kernel
theorem dX9_type_7 : decode cX9_type 7 = .ok (.iload_n 2, 1) := by decide +kernel
theorem dX9_type_8 : decode cX9_type 8 = .ok (.i2l, 1) := by decide +kernel
theorem dX9_type_9 : decode cX9_type 9 = .ok (.lconst 0, 1) := by decide +kernel
theorem dX9_type_10 : decode cX9_type 10 = .ok (.ldc2_w 108, 3) := by decide +kernel
theorem dX9_type_13 : decode cX9_type 13 = .ok (.invokestatic 73, 3) := by decide +kernel
theorem dX9_type_16 : decode cX9_type 16 = .ok (.ifCond .ne 6, 3) := by decide +kernel
theorem dX9_type_19 : decode cX9_type 19 = .ok (.bipush (-2), 2) := by decide +kernel
theorem dX9_type_21 : decode cX9_type 21 = .ok (.ireturn, 1) := by decide +kernel
theorem dX9_type_22 : decode cX9_type 22 = .ok (.aload_n 0, 1) := by decide +kernel
theorem dX9_type_23 : decode cX9_type 23 = .ok (.getfield 25, 3) := by decide +kernel
theorem dX9_type_26 : decode cX9_type 26 = .ok (.iload_n 1, 1) := by decide +kernel
theorem dX9_type_27 : decode cX9_type 27 = .ok (.iaload, 1) := by decide +kernel
theorem dX9_type_28 : decode cX9_type 28 = .ok (.iload_n 1, 1) := by decide +kernel
theorem dX9_type_29 : decode cX9_type 29 = .ok (.ifCond .ne 8, 3) := by decide +kernel
theorem dX9_type_32 : decode cX9_type 32 = .ok (.bipush 12, 2) := by decide +kernel
theorem dX9_type_34 : decode cX9_type 34 = .ok (.goto 5, 3) := by decide +kernel
theorem dX9_type_37 : decode cX9_type 37 = .ok (.bipush 32, 2) := by decide +kernel
theorem dX9_type_39 : decode cX9_type 39 = .ok (.if_icmp .ne 6, 3) := by decide +kernel
theorem dX9_type_42 : decode cX9_type 42 = .ok (.bipush (-4), 2) := by decide +kernel
theorem dX9_type_44 : decode cX9_type 44 = .ok (.ireturn, 1) := by decide +kernel
theorem dX9_type_45 : decode cX9_type 45 = .ok (.aload_n 0, 1) := by decide +kernel
theorem dX9_type_46 : decode cX9_type 46 = .ok (.getfield 22, 3) := by decide +kernel
theorem dX9_type_49 : decode cX9_type 49 = .ok (.bipush 12, 2) := by decide +kernel
theorem dX9_type_51 : decode cX9_type 51 = .ok (.iload_n 1, 1) := by decide +kernel
theorem dX9_type_52 : decode cX9_type 52 = .ok (.imul, 1) := by decide +kernel
theorem dX9_type_53 : decode cX9_type 53 = .ok (.aload_n 0, 1) := by decide +kernel
theorem dX9_type_54 : decode cX9_type 54 = .ok (.getfield 25, 3) := by decide +kernel
theorem dX9_type_57 : decode cX9_type 57 = .ok (.iload_n 1, 1) := by decide +kernel
theorem dX9_type_58 : decode cX9_type 58 = .ok (.iaload, 1) := by decide +kernel
theorem dX9_type_59 : decode cX9_type 59 = .ok (.iadd, 1) := by decide +kernel
theorem dX9_type_60 : decode cX9_type 60 = .ok (.iload_n 2, 1) := by decide +kernel
theorem dX9_type_61 : decode cX9_type 61 = .ok (.iastore, 1) := by decide +kernel
theorem dX9_type_62 : decode cX9_type 62 = .ok (.aload_n 0, 1) := by decide +kernel
theorem dX9_type_63 : decode cX9_type 63 = .ok (.getfield 25, 3) := by decide +kernel
theorem dX9_type_66 : decode cX9_type 66 = .ok (.iload_n 1, 1) := by decide +kernel
theorem dX9_type_67 : decode cX9_type 67 = .ok (.dup2, 1) := by decide +kernel
theorem dX9_type_68 : decode cX9_type 68 = .ok (.iaload, 1) := by decide +kernel
theorem dX9_type_69 : decode cX9_type 69 = .ok (.iconst 1, 1) := by decide +kernel
theorem dX9_type_70 : decode cX9_type 70 = .ok (.iadd, 1) := by decide +kernel
theorem dX9_type_71 : decode cX9_type 71 = .ok (.iastore, 1) := by decide +kernel
theorem dX9_type_72 : decode cX9_type 72 = .ok (.aload_n 0, 1) := by decide +kernel
theorem dX9_type_73 : decode cX9_type 73 = .ok (.getfield 25, 3) := by decide +kernel
theorem dX9_type_76 : decode cX9_type 76 = .ok (.iload_n 1, 1) := by decide +kernel
theorem dX9_type_77 : decode cX9_type 77 = .ok (.iaload, 1) := by decide +kernel
theorem dX9_type_78 : decode cX9_type 78 = .ok (.ireturn, 1) := by decide +kernel
theorem dX9_wipe_0 : decode cX9_wipe 0 = .ok (.iload_n 1, 1) := by decide +kernel
theorem dX9_wipe_1 : decode cX9_wipe 1 = .ok (.invokestatic 105, 3) := by decide +kernel
theorem dX9_wipe_4 : decode cX9_wipe 4 = .ok (.ifCond .ne 6, 3) := by decide +kernel
theorem dX9_wipe_7 : decode cX9_wipe 7 = .ok (.bipush (-2), 2) := by decide +kernel
theorem dX9_wipe_9 : decode cX9_wipe 9 = .ok (.ireturn, 1) := by decide +kernel
theorem dX9_wipe_10 : decode cX9_wipe 10 = .ok (.aload_n 0, 1) := by decide +kernel
theorem dX9_wipe_11 : decode cX9_wipe 11 = .ok (.getfield 25, 3) := by decide +kernel
theorem dX9_wipe_14 : decode cX9_wipe 14 = .ok (.iload_n 1, 1) := by decide +kernel
theorem dX9_wipe_15 : decode cX9_wipe 15 = .ok (.iaload, 1) := by decide +kernel
theorem dX9_wipe_16 : decode cX9_wipe 16 = .ok (.istore_n 2, 1) := by decide +kernel
theorem dX9_wipe_17 : decode cX9_wipe 17 = .ok (.aload_n 0, 1) := by decide +kernel
theorem dX9_wipe_18 : decode cX9_wipe 18 = .ok (.getfield 25, 3) := by decide +kernel
theorem dX9_wipe_21 : decode cX9_wipe 21 = .ok (.iload_n 1, 1) := by decide +kernel
theorem dX9_wipe_22 : decode cX9_wipe 22 = .ok (.iconst 0, 1) := by decide +kernel
theorem dX9_wipe_23 : decode cX9_wipe 23 = .ok (.iastore, 1) := by decide +kernel
theorem dX9_wipe_24 : decode cX9_wipe 24 = .ok (.iload_n 2, 1) := by decide +kernel
theorem dX9_wipe_25 : decode cX9_wipe 25 = .ok (.ireturn, 1) := by decide +kernel
theorem dX9_undo_0 : decode cX9_undo 0 = .ok (.iload_n 1, 1) := by decide +kernel
theorem dX9_undo_1 : decode cX9_undo 1 = .ok (.invokestatic 105, 3) := by decide +kernel
theorem dX9_undo_4 : decode cX9_undo 4 = .ok (.ifCond .ne 6, 3) := by decide +kernel
theorem dX9_undo_7 : decode cX9_undo 7 = .ok (.bipush (-2), 2) := by decide +kernel
theorem dX9_undo_9 : decode cX9_undo 9 = .ok (.ireturn, 1) := by decide +kernel
theorem dX9_undo_10 : decode cX9_undo 10 = .ok (.aload_n 0, 1) := by decide +kernel
theorem dX9_undo_11 : decode cX9_undo 11 = .ok (.getfield 25, 3) := by decide +kernel
theorem dX9_undo_14 : decode cX9_undo 14 = .ok (.iload_n 1, 1) := by decide +kernel
theorem dX9_undo_15 : decode cX9_undo 15 = .ok (.iaload, 1) := by decide +kernel
theorem dX9_undo_16 : decode cX9_undo 16 = .ok (.ifCond .ne 6, 3) := by decide +kernel
theorem dX9_undo_19 : decode cX9_undo 19 = .ok (.bipush (-3), 2) := by decide +kernel
theorem dX9_undo_21 : decode cX9_undo 21 = .ok (.ireturn, 1) := by decide +kernel
theorem dX9_undo_22 : decode cX9_undo 22 = .ok (.aload_n 0, 1) := by decide +kernel
theorem dX9_undo_23 : decode cX9_undo 23 = .ok (.getfield 25, 3) := by decide +kernel
theorem dX9_undo_26 : decode cX9_undo 26 = .ok (.iload_n 1, 1) := by decide +kernel
theorem dX9_undo_27 : decode cX9_undo 27 = .ok (.dup2, 1) := by decide +kernel
theorem dX9_undo_28 : decode cX9_undo 28 = .ok (.iaload, 1) := by decide +kernel
theorem dX9_undo_29 : decode cX9_undo 29 = .ok (.iconst 1, 1) := by decide +kernel
theorem dX9_undo_30 : decode cX9_undo 30 = .ok (.isub, 1) := by decide +kernel
theorem dX9_undo_31 : decode cX9_undo 31 = .ok (.iastore, 1) := by decide +kernel
theorem dX9_undo_32 : decode cX9_undo 32 = .ok (.aload_n 0, 1) := by decide +kernel
theorem dX9_undo_33 : decode cX9_undo 33 = .ok (.getfield 25, 3) := by decide +kernel
theorem dX9_undo_36 : decode cX9_undo 36 = .ok (.iload_n 1, 1) := by decide +kernel
theorem dX9_undo_37 : decode cX9_undo 37 = .ok (.iaload, 1) := by decide +kernel
theorem dX9_undo_38 : decode cX9_undo 38 = .ok (.ireturn, 1) := by decide +kernel
theorem dX9_readsTrain_0 : decode cX9_readsTrain 0 = .ok (.aload_n 0, 1) := by decide +kernel
theorem dX9_readsTrain_1 : decode cX9_readsTrain 1 = .ok (.iconst 0, 1) := by decide +kernel
theorem dX9_readsTrain_2 : decode cX9_readsTrain 2 = .ok (.putfield 110, 3) := by decide +kernel
theorem dX9_readsTrain_5 : decode cX9_readsTrain 5 = .ok (.aload_n 0, 1) := by decide +kernel
theorem dX9_readsTrain_6 : decode cX9_readsTrain 6 = .ok (.iconst 0, 1) := by decide +kernel
theorem dX9_readsTrain_7 : decode cX9_readsTrain 7 = .ok (.putfield 113, 3) := by decide +kernel
theorem dX9_readsTrain_10 : decode cX9_readsTrain 10 = .ok (.iconst 0, 1) := by decide +kernel
theorem dX9_readsTrain_11 : decode cX9_readsTrain 11 = .ok (.istore_n 1, 1) := by decide +kernel
theorem dX9_readsTrain_12 : decode cX9_readsTrain 12 = .ok (.iload_n 1, 1) := by decide +kernel
theorem dX9_readsTrain_13 : decode cX9_readsTrain 13 = .ok (.aload_n 0, 1) := by decide +kernel
theorem dX9_readsTrain_14 : decode cX9_readsTrain 14 = .ok (.getfield 25, 3) := by decide +kernel
theorem dX9_readsTrain_17 : decode cX9_readsTrain 17 = .ok (.iconst 0, 1) := by decide +kernel
theorem dX9_readsTrain_18 : decode cX9_readsTrain 18 = .ok (.iaload, 1) := by decide +kernel
theorem dX9_readsTrain_19 : decode cX9_readsTrain 19 = .ok (.if_icmp .ge 70, 3) := by decide +kernel
theorem dX9_readsTrain_22 : decode cX9_readsTrain 22 = .ok (.aload_n 0, 1) := by decide +kernel
theorem dX9_readsTrain_23 : decode cX9_readsTrain 23 = .ok (.getfield 22, 3) := by decide +kernel
theorem dX9_readsTrain_26 : decode cX9_readsTrain 26 = .ok (.iload_n 1, 1) := by decide +kernel
theorem dX9_readsTrain_27 : decode cX9_readsTrain 27 = .ok (.iaload, 1) := by decide +kernel
theorem dX9_readsTrain_28 : decode cX9_readsTrain 28 = .ok (.bipush 48, 2) := by decide +kernel
theorem dX9_readsTrain_30 : decode cX9_readsTrain 30 = .ok (.isub, 1) := by decide +kernel
theorem dX9_readsTrain_31 : decode cX9_readsTrain 31 = .ok (.istore_n 2, 1) := by decide +kernel
theorem dX9_readsTrain_32 : decode cX9_readsTrain 32 = .ok (.iload_n 2, 1) := by decide +kernel
theorem dX9_readsTrain_33 : decode cX9_readsTrain 33 = .ok (.i2l, 1) := by decide +kernel
theorem dX9_readsTrain_34 : decode cX9_readsTrain 34 = .ok (.lconst 1, 1) := by decide +kernel
theorem dX9_readsTrain_35 : decode cX9_readsTrain 35 = .ok (.ldc2_w 116, 3) := by decide +kernel
theorem dX9_readsTrain_38 : decode cX9_readsTrain 38 = .ok (.invokestatic 73, 3) := by decide +kernel
theorem dX9_readsTrain_41 : decode cX9_readsTrain 41 = .ok (.ifCond .ne 15, 3) := by decide +kernel
theorem dX9_readsTrain_44 : decode cX9_readsTrain 44 = .ok (.aload_n 0, 1) := by decide +kernel
theorem dX9_readsTrain_45 : decode cX9_readsTrain 45 = .ok (.iconst 0, 1) := by decide +kernel
theorem dX9_readsTrain_46 : decode cX9_readsTrain 46 = .ok (.putfield 110, 3) := by decide +kernel
theorem dX9_readsTrain_49 : decode cX9_readsTrain 49 = .ok (.aload_n 0, 1) := by decide +kernel
theorem dX9_readsTrain_50 : decode cX9_readsTrain 50 = .ok (.iconst 0, 1) := by decide +kernel
theorem dX9_readsTrain_51 : decode cX9_readsTrain 51 = .ok (.putfield 113, 3) := by decide +kernel
theorem dX9_readsTrain_54 : decode cX9_readsTrain 54 = .ok (.iload_n 1, 1) := by decide +kernel
theorem dX9_readsTrain_55 : decode cX9_readsTrain 55 = .ok (.ireturn, 1) := by decide +kernel
theorem dX9_readsTrain_56 : decode cX9_readsTrain 56 = .ok (.aload_n 0, 1) := by decide +kernel
theorem dX9_readsTrain_57 : decode cX9_readsTrain 57 = .ok (.getfield 28, 3) := by decide +kernel
theorem dX9_readsTrain_60 : decode cX9_readsTrain 60 = .ok (.iload_n 1, 1) := by decide +kernel
theorem dX9_readsTrain_61 : decode cX9_readsTrain 61 = .ok (.iload_n 2, 1) := by decide +kernel
theorem dX9_readsTrain_62 : decode cX9_readsTrain 62 = .ok (.iastore, 1) := by decide +kernel
theorem dX9_readsTrain_63 : decode cX9_readsTrain 63 = .ok (.aload_n 0, 1) := by decide +kernel
theorem dX9_readsTrain_64 : decode cX9_readsTrain 64 = .ok (.dup, 1) := by decide +kernel
theorem dX9_readsTrain_65 : decode cX9_readsTrain 65 = .ok (.getfield 113, 3) := by decide +kernel
theorem dX9_readsTrain_68 : decode cX9_readsTrain 68 = .ok (.iload_n 2, 1) := by decide +kernel
theorem dX9_readsTrain_69 : decode cX9_readsTrain 69 = .ok (.iadd, 1) := by decide +kernel
theorem dX9_readsTrain_70 : decode cX9_readsTrain 70 = .ok (.putfield 113, 3) := by decide +kernel
theorem dX9_readsTrain_73 : decode cX9_readsTrain 73 = .ok (.aload_n 0, 1) := by decide +kernel
theorem dX9_readsTrain_74 : decode cX9_readsTrain 74 = .ok (.dup, 1) := by decide +kernel
theorem dX9_readsTrain_75 : decode cX9_readsTrain 75 = .ok (.getfield 110, 3) := by decide +kernel
theorem dX9_readsTrain_78 : decode cX9_readsTrain 78 = .ok (.iconst 1, 1) := by decide +kernel
theorem dX9_readsTrain_79 : decode cX9_readsTrain 79 = .ok (.iadd, 1) := by decide +kernel
theorem dX9_readsTrain_80 : decode cX9_readsTrain 80 = .ok (.putfield 110, 3) := by decide +kernel
theorem dX9_readsTrain_83 : decode cX9_readsTrain 83 = .ok (.iinc 1 1, 3) := by decide +kernel
theorem dX9_readsTrain_86 : decode cX9_readsTrain 86 = .ok (.goto (-74), 3) := by decide +kernel
theorem dX9_readsTrain_89 : decode cX9_readsTrain 89 = .ok (.iconst (-1), 1) := by decide +kernel
theorem dX9_readsTrain_90 : decode cX9_readsTrain 90 = .ok (.ireturn, 1) := by decide +kernel
theorem dX9_readsHill_0 : decode cX9_readsHill 0 = .ok (.aload_n 0, 1) := by decide +kernel
theorem dX9_readsHill_1 : decode cX9_readsHill 1 = .ok (.iconst 0, 1) := by decide +kernel
theorem dX9_readsHill_2 : decode cX9_readsHill 2 = .ok (.putfield 118, 3) := by decide +kernel
theorem dX9_readsHill_5 : decode cX9_readsHill 5 = .ok (.iconst 0, 1) := by decide +kernel
theorem dX9_readsHill_6 : decode cX9_readsHill 6 = .ok (.istore_n 1, 1) := by decide +kernel
theorem dX9_readsHill_7 : decode cX9_readsHill 7 = .ok (.iload_n 1, 1) := by decide +kernel
theorem dX9_readsHill_8 : decode cX9_readsHill 8 = .ok (.aload_n 0, 1) := by decide +kernel
theorem dX9_readsHill_9 : decode cX9_readsHill 9 = .ok (.getfield 25, 3) := by decide +kernel
theorem dX9_readsHill_12 : decode cX9_readsHill 12 = .ok (.iconst 1, 1) := by decide +kernel
theorem dX9_readsHill_13 : decode cX9_readsHill 13 = .ok (.iaload, 1) := by decide +kernel
theorem dX9_readsHill_14 : decode cX9_readsHill 14 = .ok (.if_icmp .ge 144, 3) := by decide +kernel
theorem dX9_readsHill_17 : decode cX9_readsHill 17 = .ok (.aload_n 0, 1) := by decide +kernel
theorem dX9_readsHill_18 : decode cX9_readsHill 18 = .ok (.getfield 22, 3) := by decide +kernel
theorem dX9_readsHill_21 : decode cX9_readsHill 21 = .ok (.bipush 12, 2) := by decide +kernel
theorem dX9_readsHill_23 : decode cX9_readsHill 23 = .ok (.iload_n 1, 1) := by decide +kernel
theorem dX9_readsHill_24 : decode cX9_readsHill 24 = .ok (.iadd, 1) := by decide +kernel
theorem dX9_readsHill_25 : decode cX9_readsHill 25 = .ok (.iaload, 1) := by decide +kernel
theorem dX9_readsHill_26 : decode cX9_readsHill 26 = .ok (.bipush 48, 2) := by decide +kernel
theorem dX9_readsHill_28 : decode cX9_readsHill 28 = .ok (.isub, 1) := by decide +kernel
theorem dX9_readsHill_29 : decode cX9_readsHill 29 = .ok (.istore_n 2, 1) := by decide +kernel
theorem dX9_readsHill_30 : decode cX9_readsHill 30 = .ok (.aload_n 0, 1) := by decide +kernel
theorem dX9_readsHill_31 : decode cX9_readsHill 31 = .ok (.getfield 22, 3) := by decide +kernel
theorem dX9_readsHill_34 : decode cX9_readsHill 34 = .ok (.bipush 12, 2) := by decide +kernel
theorem dX9_readsHill_36 : decode cX9_readsHill 36 = .ok (.iload_n 1, 1) := by decide +kernel
theorem dX9_readsHill_37 : decode cX9_readsHill 37 = .ok (.iadd, 1) := by decide +kernel
theorem dX9_readsHill_38 : decode cX9_readsHill 38 = .ok (.iaload, 1) := by decide +kernel
theorem dX9_readsHill_39 : decode cX9_readsHill 39 = .ok (.bipush 98, 2) := by decide +kernel
theorem dX9_readsHill_41 : decode cX9_readsHill 41 = .ok (.if_icmp .ne 28, 3) := by decide +kernel
theorem dX9_readsHill_44 : decode cX9_readsHill 44 = .ok (.aload_n 0, 1) := by decide +kernel
theorem dX9_readsHill_45 : decode cX9_readsHill 45 = .ok (.getfield 118, 3) := by decide +kernel
theorem dX9_readsHill_48 : decode cX9_readsHill 48 = .ok (.ifCond .le 21, 3) := by decide +kernel
theorem dX9_readsHill_51 : decode cX9_readsHill 51 = .ok (.aload_n 0, 1) := by decide +kernel
theorem dX9_readsHill_52 : decode cX9_readsHill 52 = .ok (.getfield 34, 3) := by decide +kernel
theorem dX9_readsHill_55 : decode cX9_readsHill 55 = .ok (.aload_n 0, 1) := by decide +kernel
theorem dX9_readsHill_56 : decode cX9_readsHill 56 = .ok (.getfield 118, 3) := by decide +kernel
theorem dX9_readsHill_59 : decode cX9_readsHill 59 = .ok (.iconst 1, 1) := by decide +kernel
theorem dX9_readsHill_60 : decode cX9_readsHill 60 = .ok (.isub, 1) := by decide +kernel
theorem dX9_readsHill_61 : decode cX9_readsHill 61 = .ok (.baload, 1) := by decide +kernel
theorem dX9_readsHill_62 : decode cX9_readsHill 62 = .ok (.ifCond .ne 7, 3) := by decide +kernel
theorem dX9_readsHill_65 : decode cX9_readsHill 65 = .ok (.iconst 1, 1) := by decide +kernel
theorem dX9_readsHill_66 : decode cX9_readsHill 66 = .ok (.goto 4, 3) := by decide +kernel
theorem dX9_readsHill_69 : decode cX9_readsHill 69 = .ok (.iconst 0, 1) := by decide +kernel
theorem dX9_readsHill_70 : decode cX9_readsHill 70 = .ok (.istore_n 3, 1) := by decide +kernel
theorem dX9_readsHill_71 : decode cX9_readsHill 71 = .ok (.iload_n 3, 1) := by decide +kernel
theorem dX9_readsHill_72 : decode cX9_readsHill 72 = .ok (.ifCond .ne 31, 3) := by decide +kernel
theorem dX9_readsHill_75 : decode cX9_readsHill 75 = .ok (.aload_n 0, 1) := by decide +kernel
theorem dX9_readsHill_76 : decode cX9_readsHill 76 = .ok (.getfield 118, 3) := by decide +kernel
theorem dX9_readsHill_79 : decode cX9_readsHill 79 = .ok (.bipush 16, 2) := by decide +kernel
theorem dX9_readsHill_81 : decode cX9_readsHill 81 = .ok (.if_icmp .eq 15, 3) := by decide +kernel
theorem dX9_readsHill_84 : decode cX9_readsHill 84 = .ok (.iload_n 2, 1) := by decide +kernel
theorem dX9_readsHill_85 : decode cX9_readsHill 85 = .ok (.i2l, 1) := by decide +kernel
theorem dX9_readsHill_86 : decode cX9_readsHill 86 = .ok (.lconst 0, 1) := by decide +kernel
theorem dX9_readsHill_87 : decode cX9_readsHill 87 = .ok (.ldc2_w 116, 3) := by decide +kernel
theorem dX9_readsHill_90 : decode cX9_readsHill 90 = .ok (.invokestatic 73, 3) := by decide +kernel
theorem dX9_readsHill_93 : decode cX9_readsHill 93 = .ok (.ifCond .ne 10, 3) := by decide +kernel
theorem dX9_readsHill_96 : decode cX9_readsHill 96 = .ok (.aload_n 0, 1) := by decide +kernel
theorem dX9_readsHill_97 : decode cX9_readsHill 97 = .ok (.iconst 0, 1) := by decide +kernel
theorem dX9_readsHill_98 : decode cX9_readsHill 98 = .ok (.putfield 118, 3) := by decide +kernel
theorem dX9_readsHill_101 : decode cX9_readsHill 101 = .ok (.iload_n 1, 1) := by decide +kernel
theorem dX9_readsHill_102 : decode cX9_readsHill 102 = .ok (.ireturn, 1) := by decide +kernel
theorem dX9_readsHill_103 : decode cX9_readsHill 103 = .ok (.iload_n 3, 1) := by decide +kernel
theorem dX9_readsHill_104 : decode cX9_readsHill 104 = .ok (.ifCond .eq 18, 3) := by decide +kernel
theorem dX9_readsHill_107 : decode cX9_readsHill 107 = .ok (.aload_n 0, 1) := by decide +kernel
theorem dX9_readsHill_108 : decode cX9_readsHill 108 = .ok (.getfield 34, 3) := by decide +kernel
theorem dX9_readsHill_111 : decode cX9_readsHill 111 = .ok (.aload_n 0, 1) := by decide +kernel
theorem dX9_readsHill_112 : decode cX9_readsHill 112 = .ok (.getfield 118, 3) := by decide +kernel
theorem dX9_readsHill_115 : decode cX9_readsHill 115 = .ok (.iconst 1, 1) := by decide +kernel
theorem dX9_readsHill_116 : decode cX9_readsHill 116 = .ok (.isub, 1) := by decide +kernel
theorem dX9_readsHill_117 : decode cX9_readsHill 117 = .ok (.iconst 1, 1) := by decide +kernel
theorem dX9_readsHill_118 : decode cX9_readsHill 118 = .ok (.bastore, 1) := by decide +kernel
theorem dX9_readsHill_119 : decode cX9_readsHill 119 = .ok (.goto 33, 3) := by decide +kernel
theorem dX9_readsHill_122 : decode cX9_readsHill 122 = .ok (.aload_n 0, 1) := by decide +kernel
theorem dX9_readsHill_123 : decode cX9_readsHill 123 = .ok (.getfield 31, 3) := by decide +kernel
theorem dX9_readsHill_126 : decode cX9_readsHill 126 = .ok (.aload_n 0, 1) := by decide +kernel
theorem dX9_readsHill_127 : decode cX9_readsHill 127 = .ok (.getfield 118, 3) := by decide +kernel
theorem dX9_readsHill_130 : decode cX9_readsHill 130 = .ok (.iload_n 2, 1) := by decide +kernel
theorem dX9_readsHill_131 : decode cX9_readsHill 131 = .ok (.iastore, 1) := by decide +kernel
theorem dX9_readsHill_132 : decode cX9_readsHill 132 = .ok (.aload_n 0, 1) := by decide +kernel
theorem dX9_readsHill_133 : decode cX9_readsHill 133 = .ok (.getfield 34, 3) := by decide +kernel
theorem dX9_readsHill_136 : decode cX9_readsHill 136 = .ok (.aload_n 0, 1) := by decide +kernel
theorem dX9_readsHill_137 : decode cX9_readsHill 137 = .ok (.getfield 118, 3) := by decide +kernel
theorem dX9_readsHill_140 : decode cX9_readsHill 140 = .ok (.iconst 0, 1) := by decide +kernel
theorem dX9_readsHill_141 : decode cX9_readsHill 141 = .ok (.bastore, 1) := by decide +kernel
theorem dX9_readsHill_142 : decode cX9_readsHill 142 = .ok (.aload_n 0, 1) := by decide +kernel
theorem dX9_readsHill_143 : decode cX9_readsHill 143 = .ok (.dup, 1) := by decide +kernel
theorem dX9_readsHill_144 : decode cX9_readsHill 144 = .ok (.getfield 118, 3) := by decide +kernel
theorem dX9_readsHill_147 : decode cX9_readsHill 147 = .ok (.iconst 1, 1) := by decide +kernel
theorem dX9_readsHill_148 : decode cX9_readsHill 148 = .ok (.iadd, 1) := by decide +kernel
theorem dX9_readsHill_149 : decode cX9_readsHill 149 = .ok (.putfield 118, 3) := by decide +kernel
theorem dX9_readsHill_152 : decode cX9_readsHill 152 = .ok (.iinc 1 1, 3) := by decide +kernel
theorem dX9_readsHill_155 : decode cX9_readsHill 155 = .ok (.goto (-148), 3) := by decide +kernel
theorem dX9_readsHill_158 : decode cX9_readsHill 158 = .ok (.iconst (-1), 1) := by decide +kernel
theorem dX9_readsHill_159 : decode cX9_readsHill 159 = .ok (.ireturn, 1) := by decide +kernel
theorem dX9_reads_0 : decode cX9_reads 0 = .ok (.aload_n 0, 1) := by decide +kernel
theorem dX9_reads_1 : decode cX9_reads 1 = .ok (.invokevirtual 121, 3) := by decide +kernel
theorem dX9_reads_4 : decode cX9_reads 4 = .ok (.pop, 1) := by decide +kernel
theorem dX9_reads_5 : decode cX9_reads 5 = .ok (.aload_n 0, 1) := by decide +kernel
theorem dX9_reads_6 : decode cX9_reads 6 = .ok (.invokevirtual 125, 3) := by decide +kernel
theorem dX9_reads_9 : decode cX9_reads 9 = .ok (.pop, 1) := by decide +kernel
theorem dX9_reads_10 : decode cX9_reads 10 = .ok (.return_, 1) := by decide +kernel
theorem dX9_fault_0 : decode cX9_fault 0 = .ok (.iload_n 1, 1) := by decide +kernel
theorem dX9_fault_1 : decode cX9_fault 1 = .ok (.invokestatic 105, 3) := by decide +kernel
theorem dX9_fault_4 : decode cX9_fault 4 = .ok (.ifCond .ne 8, 3) := by decide +kernel
theorem dX9_fault_7 : decode cX9_fault 7 = .ok (.bipush (-2), 2) := by decide +kernel
theorem dX9_fault_9 : decode cX9_fault 9 = .ok (.goto 18, 3) := by decide +kernel
theorem dX9_fault_12 : decode cX9_fault 12 = .ok (.iload_n 1, 1) := by decide +kernel
theorem dX9_fault_13 : decode cX9_fault 13 = .ok (.ifCond .ne 10, 3) := by decide +kernel
theorem dX9_fault_16 : decode cX9_fault 16 = .ok (.aload_n 0, 1) := by decide +kernel
theorem dX9_fault_17 : decode cX9_fault 17 = .ok (.invokevirtual 121, 3) := by decide +kernel
theorem dX9_fault_20 : decode cX9_fault 20 = .ok (.goto 7, 3) := by decide +kernel
theorem dX9_fault_23 : decode cX9_fault 23 = .ok (.aload_n 0, 1) := by decide +kernel
theorem dX9_fault_24 : decode cX9_fault 24 = .ok (.invokevirtual 125, 3) := by decide +kernel
theorem dX9_fault_27 : decode cX9_fault 27 = .ok (.ireturn, 1) := by decide +kernel
theorem dX9_wagon_0 : decode cX9_wagon 0 = .ok (.aload_n 0, 1) := by decide +kernel
theorem dX9_wagon_1 : decode cX9_wagon 1 = .ok (.invokevirtual 128, 3) := by decide +kernel
theorem dX9_wagon_4 : decode cX9_wagon 4 = .ok (.iload_n 1, 1) := by decide +kernel
theorem dX9_wagon_5 : decode cX9_wagon 5 = .ok (.i2l, 1) := by decide +kernel
theorem dX9_wagon_6 : decode cX9_wagon 6 = .ok (.lconst 0, 1) := by decide +kernel
theorem dX9_wagon_7 : decode cX9_wagon 7 = .ok (.aload_n 0, 1) := by decide +kernel
theorem dX9_wagon_8 : decode cX9_wagon 8 = .ok (.getfield 110, 3) := by decide +kernel
theorem dX9_wagon_11 : decode cX9_wagon 11 = .ok (.iconst 1, 1) := by decide +kernel
theorem dX9_wagon_12 : decode cX9_wagon 12 = .ok (.isub, 1) := by decide +kernel
theorem dX9_wagon_13 : decode cX9_wagon 13 = .ok (.i2l, 1) := by decide +kernel
theorem dX9_wagon_14 : decode cX9_wagon 14 = .ok (.invokestatic 73, 3) := by decide +kernel
theorem dX9_wagon_17 : decode cX9_wagon 17 = .ok (.ifCond .eq 12, 3) := by decide +kernel
theorem dX9_wagon_20 : decode cX9_wagon 20 = .ok (.aload_n 0, 1) := by decide +kernel
theorem dX9_wagon_21 : decode cX9_wagon 21 = .ok (.getfield 28, 3) := by decide +kernel
theorem dX9_wagon_24 : decode cX9_wagon 24 = .ok (.iload_n 1, 1) := by decide +kernel
theorem dX9_wagon_25 : decode cX9_wagon 25 = .ok (.iaload, 1) := by decide +kernel
theorem dX9_wagon_26 : decode cX9_wagon 26 = .ok (.goto 5, 3) := by decide +kernel
theorem dX9_wagon_29 : decode cX9_wagon 29 = .ok (.bipush (-2), 2) := by decide +kernel
theorem dX9_wagon_31 : decode cX9_wagon 31 = .ok (.ireturn, 1) := by decide +kernel
theorem dX9_hill_0 : decode cX9_hill 0 = .ok (.aload_n 0, 1) := by decide +kernel
theorem dX9_hill_1 : decode cX9_hill 1 = .ok (.invokevirtual 128, 3) := by decide +kernel
theorem dX9_hill_4 : decode cX9_hill 4 = .ok (.iload_n 1, 1) := by decide +kernel
theorem dX9_hill_5 : decode cX9_hill 5 = .ok (.i2l, 1) := by decide +kernel
theorem dX9_hill_6 : decode cX9_hill 6 = .ok (.lconst 0, 1) := by decide +kernel
theorem dX9_hill_7 : decode cX9_hill 7 = .ok (.aload_n 0, 1) := by decide +kernel
theorem dX9_hill_8 : decode cX9_hill 8 = .ok (.getfield 118, 3) := by decide +kernel
theorem dX9_hill_11 : decode cX9_hill 11 = .ok (.iconst 1, 1) := by decide +kernel
theorem dX9_hill_12 : decode cX9_hill 12 = .ok (.isub, 1) := by decide +kernel
theorem dX9_hill_13 : decode cX9_hill 13 = .ok (.i2l, 1) := by decide +kernel
theorem dX9_hill_14 : decode cX9_hill 14 = .ok (.invokestatic 73, 3) := by decide +kernel
theorem dX9_hill_17 : decode cX9_hill 17 = .ok (.ifCond .eq 10, 3) := by decide +kernel
theorem dX9_hill_20 : decode cX9_hill 20 = .ok (.iload_n 2, 1) := by decide +kernel
theorem dX9_hill_21 : decode cX9_hill 21 = .ok (.invokestatic 105, 3) := by decide +kernel
theorem dX9_hill_24 : decode cX9_hill 24 = .ok (.ifCond .ne 8, 3) := by decide +kernel
theorem dX9_hill_27 : decode cX9_hill 27 = .ok (.bipush (-2), 2) := by decide +kernel
theorem dX9_hill_29 : decode cX9_hill 29 = .ok (.goto 30, 3) := by decide +kernel
theorem dX9_hill_32 : decode cX9_hill 32 = .ok (.iload_n 2, 1) := by decide +kernel
theorem dX9_hill_33 : decode cX9_hill 33 = .ok (.ifCond .ne 12, 3) := by decide +kernel
theorem dX9_hill_36 : decode cX9_hill 36 = .ok (.aload_n 0, 1) := by decide +kernel
theorem dX9_hill_37 : decode cX9_hill 37 = .ok (.getfield 31, 3) := by decide +kernel
theorem dX9_hill_40 : decode cX9_hill 40 = .ok (.iload_n 1, 1) := by decide +kernel
theorem dX9_hill_41 : decode cX9_hill 41 = .ok (.iaload, 1) := by decide +kernel
theorem dX9_hill_42 : decode cX9_hill 42 = .ok (.goto 17, 3) := by decide +kernel
theorem dX9_hill_45 : decode cX9_hill 45 = .ok (.aload_n 0, 1) := by decide +kernel
theorem dX9_hill_46 : decode cX9_hill 46 = .ok (.getfield 34, 3) := by decide +kernel
theorem dX9_hill_49 : decode cX9_hill 49 = .ok (.iload_n 1, 1) := by decide +kernel
theorem dX9_hill_50 : decode cX9_hill 50 = .ok (.baload, 1) := by decide +kernel
theorem dX9_hill_51 : decode cX9_hill 51 = .ok (.ifCond .eq 7, 3) := by decide +kernel
theorem dX9_hill_54 : decode cX9_hill 54 = .ok (.iconst 1, 1) := by decide +kernel
theorem dX9_hill_55 : decode cX9_hill 55 = .ok (.goto 4, 3) := by decide +kernel
theorem dX9_hill_58 : decode cX9_hill 58 = .ok (.iconst 0, 1) := by decide +kernel
theorem dX9_hill_59 : decode cX9_hill 59 = .ok (.ireturn, 1) := by decide +kernel
theorem dX9_engine_0 : decode cX9_engine 0 = .ok (.iload_n 1, 1) := by decide +kernel
theorem dX9_engine_1 : decode cX9_engine 1 = .ok (.invokestatic 105, 3) := by decide +kernel
theorem dX9_engine_4 : decode cX9_engine 4 = .ok (.ifCond .eq 19, 3) := by decide +kernel
theorem dX9_engine_7 : decode cX9_engine 7 = .ok (.iload_n 2, 1) := by decide +kernel
theorem dX9_engine_8 : decode cX9_engine 8 = .ok (.i2l, 1) := by decide +kernel
theorem dX9_engine_9 : decode cX9_engine 9 = .ok (.lconst 0, 1) := by decide +kernel
theorem dX9_engine_10 : decode cX9_engine 10 = .ok (.ldc2_w 91, 3) := by decide +kernel
theorem dX9_engine_13 : decode cX9_engine 13 = .ok (.invokestatic 73, 3) := by decide +kernel
theorem dX9_engine_16 : decode cX9_engine 16 = .ok (.ifCond .eq 7, 3) := by decide +kernel
theorem dX9_engine_19 : decode cX9_engine 19 = .ok (.iconst 1, 1) := by decide +kernel
theorem dX9_engine_20 : decode cX9_engine 20 = .ok (.goto 4, 3) := by decide +kernel
theorem dX9_engine_23 : decode cX9_engine 23 = .ok (.iconst 0, 1) := by decide +kernel
theorem dX9_engine_24 : decode cX9_engine 24 = .ok (.istore 4, 2) := by decide +kernel
theorem dX9_engine_26 : decode cX9_engine 26 = .ok (.iload 4, 2) := by decide +kernel
theorem dX9_engine_28 : decode cX9_engine 28 = .ok (.ifCond .eq 45, 3) := by decide +kernel
theorem dX9_engine_31 : decode cX9_engine 31 = .ok (.iload_n 3, 1) := by decide +kernel
theorem dX9_engine_32 : decode cX9_engine 32 = .ok (.i2l, 1) := by decide +kernel
theorem dX9_engine_33 : decode cX9_engine 33 = .ok (.iload_n 2, 1) := by decide +kernel
theorem dX9_engine_34 : decode cX9_engine 34 = .ok (.iconst 2, 1) := by decide +kernel
theorem dX9_engine_35 : decode cX9_engine 35 = .ok (.if_icmp .ne 7, 3) := by decide +kernel
theorem dX9_engine_38 : decode cX9_engine 38 = .ok (.lconst 1, 1) := by decide +kernel
theorem dX9_engine_39 : decode cX9_engine 39 = .ok (.goto 4, 3) := by decide +kernel
theorem dX9_engine_42 : decode cX9_engine 42 = .ok (.lconst 0, 1) := by decide +kernel
theorem dX9_engine_43 : decode cX9_engine 43 = .ok (.iload_n 2, 1) := by decide +kernel
theorem dX9_engine_44 : decode cX9_engine 44 = .ok (.ifCond .ne 9, 3) := by decide +kernel
theorem dX9_engine_47 : decode cX9_engine 47 = .ok (.ldc2_w 131, 3) := by decide +kernel
theorem dX9_engine_50 : decode cX9_engine 50 = .ok (.goto 17, 3) := by decide +kernel
theorem dX9_engine_53 : decode cX9_engine 53 = .ok (.iload_n 2, 1) := by decide +kernel
theorem dX9_engine_54 : decode cX9_engine 54 = .ok (.iconst 1, 1) := by decide +kernel
theorem dX9_engine_55 : decode cX9_engine 55 = .ok (.if_icmp .ne 9, 3) := by decide +kernel
theorem dX9_engine_58 : decode cX9_engine 58 = .ok (.ldc2_w 85, 3) := by decide +kernel
theorem dX9_engine_61 : decode cX9_engine 61 = .ok (.goto 6, 3) := by decide +kernel
theorem dX9_engine_64 : decode cX9_engine 64 = .ok (.ldc2_w 133, 3) := by decide +kernel
theorem dX9_engine_67 : decode cX9_engine 67 = .ok (.invokestatic 73, 3) := by decide +kernel
theorem dX9_engine_70 : decode cX9_engine 70 = .ok (.ifCond .ne 6, 3) := by decide +kernel
theorem dX9_engine_73 : decode cX9_engine 73 = .ok (.bipush (-2), 2) := by decide +kernel
theorem dX9_engine_75 : decode cX9_engine 75 = .ok (.ireturn, 1) := by decide +kernel
theorem dX9_engine_76 : decode cX9_engine 76 = .ok (.aload_n 0, 1) := by decide +kernel
theorem dX9_engine_77 : decode cX9_engine 77 = .ok (.getfield 38, 3) := by decide +kernel
theorem dX9_engine_80 : decode cX9_engine 80 = .ok (.iconst 3, 1) := by decide +kernel
theorem dX9_engine_81 : decode cX9_engine 81 = .ok (.iload_n 1, 1) := by decide +kernel
theorem dX9_engine_82 : decode cX9_engine 82 = .ok (.imul, 1) := by decide +kernel
theorem dX9_engine_83 : decode cX9_engine 83 = .ok (.iload_n 2, 1) := by decide +kernel
theorem dX9_engine_84 : decode cX9_engine 84 = .ok (.iadd, 1) := by decide +kernel
theorem dX9_engine_85 : decode cX9_engine 85 = .ok (.iaload, 1) := by decide +kernel
theorem dX9_engine_86 : decode cX9_engine 86 = .ok (.istore 5, 2) := by decide +kernel
theorem dX9_engine_88 : decode cX9_engine 88 = .ok (.aload_n 0, 1) := by decide +kernel
theorem dX9_engine_89 : decode cX9_engine 89 = .ok (.getfield 38, 3) := by decide +kernel
theorem dX9_engine_92 : decode cX9_engine 92 = .ok (.iconst 3, 1) := by decide +kernel
theorem dX9_engine_93 : decode cX9_engine 93 = .ok (.iload_n 1, 1) := by decide +kernel
theorem dX9_engine_94 : decode cX9_engine 94 = .ok (.imul, 1) := by decide +kernel
theorem dX9_engine_95 : decode cX9_engine 95 = .ok (.iload_n 2, 1) := by decide +kernel
theorem dX9_engine_96 : decode cX9_engine 96 = .ok (.iadd, 1) := by decide +kernel
theorem dX9_engine_97 : decode cX9_engine 97 = .ok (.iload_n 3, 1) := by decide +kernel
theorem dX9_engine_98 : decode cX9_engine 98 = .ok (.iastore, 1) := by decide +kernel
theorem dX9_engine_99 : decode cX9_engine 99 = .ok (.iload 5, 2) := by decide +kernel
theorem dX9_engine_101 : decode cX9_engine 101 = .ok (.ireturn, 1) := by decide +kernel
theorem dX9_set_0 : decode cX9_set 0 = .ok (.iload_n 1, 1) := by decide +kernel
theorem dX9_set_1 : decode cX9_set 1 = .ok (.i2l, 1) := by decide +kernel
theorem dX9_set_2 : decode cX9_set 2 = .ok (.lconst 0, 1) := by decide +kernel
theorem dX9_set_3 : decode cX9_set 3 = .ok (.ldc2_w 135, 3) := by decide +kernel
theorem dX9_set_6 : decode cX9_set 6 = .ok (.invokestatic 73, 3) := by decide +kernel
theorem dX9_set_9 : decode cX9_set 9 = .ok (.ifCond .eq 45, 3) := by decide +kernel
theorem dX9_set_12 : decode cX9_set 12 = .ok (.iload_n 2, 1) := by decide +kernel
theorem dX9_set_13 : decode cX9_set 13 = .ok (.i2l, 1) := by decide +kernel
theorem dX9_set_14 : decode cX9_set 14 = .ok (.iload_n 1, 1) := by decide +kernel
theorem dX9_set_15 : decode cX9_set 15 = .ok (.iconst 4, 1) := by decide +kernel
theorem dX9_set_16 : decode cX9_set 16 = .ok (.if_icmp .ne 7, 3) := by decide +kernel
theorem dX9_set_19 : decode cX9_set 19 = .ok (.lconst 0, 1) := by decide +kernel
theorem dX9_set_20 : decode cX9_set 20 = .ok (.goto 4, 3) := by decide +kernel
theorem dX9_set_23 : decode cX9_set 23 = .ok (.lconst 1, 1) := by decide +kernel
theorem dX9_set_24 : decode cX9_set 24 = .ok (.iload_n 1, 1) := by decide +kernel
theorem dX9_set_25 : decode cX9_set 25 = .ok (.ifCond .ne 9, 3) := by decide +kernel
theorem dX9_set_28 : decode cX9_set 28 = .ok (.ldc2_w 131, 3) := by decide +kernel
theorem dX9_set_31 : decode cX9_set 31 = .ok (.goto 17, 3) := by decide +kernel
theorem dX9_set_34 : decode cX9_set 34 = .ok (.iload_n 1, 1) := by decide +kernel
theorem dX9_set_35 : decode cX9_set 35 = .ok (.iconst 4, 1) := by decide +kernel
theorem dX9_set_36 : decode cX9_set 36 = .ok (.if_icmp .ne 9, 3) := by decide +kernel
theorem dX9_set_39 : decode cX9_set 39 = .ok (.ldc2_w 137, 3) := by decide +kernel
theorem dX9_set_42 : decode cX9_set 42 = .ok (.goto 6, 3) := by decide +kernel
theorem dX9_set_45 : decode cX9_set 45 = .ok (.ldc2_w 139, 3) := by decide +kernel
theorem dX9_set_48 : decode cX9_set 48 = .ok (.invokestatic 73, 3) := by decide +kernel
theorem dX9_set_51 : decode cX9_set 51 = .ok (.ifCond .ne 6, 3) := by decide +kernel
theorem dX9_set_54 : decode cX9_set 54 = .ok (.bipush (-2), 2) := by decide +kernel
theorem dX9_set_56 : decode cX9_set 56 = .ok (.ireturn, 1) := by decide +kernel
theorem dX9_set_57 : decode cX9_set 57 = .ok (.aload_n 0, 1) := by decide +kernel
theorem dX9_set_58 : decode cX9_set 58 = .ok (.getfield 41, 3) := by decide +kernel
theorem dX9_set_61 : decode cX9_set 61 = .ok (.iload_n 1, 1) := by decide +kernel
theorem dX9_set_62 : decode cX9_set 62 = .ok (.iaload, 1) := by decide +kernel
theorem dX9_set_63 : decode cX9_set 63 = .ok (.istore_n 3, 1) := by decide +kernel
theorem dX9_set_64 : decode cX9_set 64 = .ok (.aload_n 0, 1) := by decide +kernel
theorem dX9_set_65 : decode cX9_set 65 = .ok (.getfield 41, 3) := by decide +kernel
theorem dX9_set_68 : decode cX9_set 68 = .ok (.iload_n 1, 1) := by decide +kernel
theorem dX9_set_69 : decode cX9_set 69 = .ok (.iload_n 2, 1) := by decide +kernel
theorem dX9_set_70 : decode cX9_set 70 = .ok (.iastore, 1) := by decide +kernel
theorem dX9_set_71 : decode cX9_set 71 = .ok (.iload_n 3, 1) := by decide +kernel
theorem dX9_set_72 : decode cX9_set 72 = .ok (.ireturn, 1) := by decide +kernel
theorem dX9_leans_0 : decode cX9_leans 0 = .ok (.aload_n 0, 1) := by decide +kernel
theorem dX9_leans_1 : decode cX9_leans 1 = .ok (.getfield 44, 3) := by decide +kernel
theorem dX9_leans_4 : decode cX9_leans 4 = .ok (.iconst 2, 1) := by decide +kernel
theorem dX9_leans_5 : decode cX9_leans 5 = .ok (.iload_n 1, 1) := by decide +kernel
theorem dX9_leans_6 : decode cX9_leans 6 = .ok (.aload_n 0, 1) := by decide +kernel
theorem dX9_leans_7 : decode cX9_leans 7 = .ok (.getfield 38, 3) := by decide +kernel
theorem dX9_leans_10 : decode cX9_leans 10 = .ok (.iconst 3, 1) := by decide +kernel
theorem dX9_leans_11 : decode cX9_leans 11 = .ok (.iload_n 2, 1) := by decide +kernel
theorem dX9_leans_12 : decode cX9_leans 12 = .ok (.imul, 1) := by decide +kernel
theorem dX9_leans_13 : decode cX9_leans 13 = .ok (.iconst 2, 1) := by decide +kernel
theorem dX9_leans_14 : decode cX9_leans 14 = .ok (.iadd, 1) := by decide +kernel
theorem dX9_leans_15 : decode cX9_leans 15 = .ok (.iaload, 1) := by decide +kernel
theorem dX9_leans_16 : decode cX9_leans 16 = .ok (.isub, 1) := by decide +kernel
theorem dX9_leans_17 : decode cX9_leans 17 = .ok (.imul, 1) := by decide +kernel
theorem dX9_leans_18 : decode cX9_leans 18 = .ok (.iconst 1, 1) := by decide +kernel
theorem dX9_leans_19 : decode cX9_leans 19 = .ok (.iadd, 1) := by decide +kernel
theorem dX9_leans_20 : decode cX9_leans 20 = .ok (.iload_n 2, 1) := by decide +kernel
theorem dX9_leans_21 : decode cX9_leans 21 = .ok (.isub, 1) := by decide +kernel
theorem dX9_leans_22 : decode cX9_leans 22 = .ok (.iaload, 1) := by decide +kernel
theorem dX9_leans_23 : decode cX9_leans 23 = .ok (.istore_n 3, 1) := by decide +kernel
theorem dX9_leans_24 : decode cX9_leans 24 = .ok (.aload_n 0, 1) := by decide +kernel
theorem dX9_leans_25 : decode cX9_leans 25 = .ok (.getfield 53, 3) := by decide +kernel
theorem dX9_leans_28 : decode cX9_leans 28 = .ok (.iload_n 1, 1) := by decide +kernel
theorem dX9_leans_29 : decode cX9_leans 29 = .ok (.iaload, 1) := by decide +kernel
theorem dX9_leans_30 : decode cX9_leans 30 = .ok (.iload_n 3, 1) := by decide +kernel
theorem dX9_leans_31 : decode cX9_leans 31 = .ok (.isub, 1) := by decide +kernel
theorem dX9_leans_32 : decode cX9_leans 32 = .ok (.sipush 999, 3) := by decide +kernel
theorem dX9_leans_35 : decode cX9_leans 35 = .ok (.invokestatic 141, 3) := by decide +kernel
theorem dX9_leans_38 : decode cX9_leans 38 = .ok (.ireturn, 1) := by decide +kernel
theorem dX9_givesOf_0 : decode cX9_givesOf 0 = .ok (.aload_n 0, 1) := by decide +kernel
theorem dX9_givesOf_1 : decode cX9_givesOf 1 = .ok (.getfield 38, 3) := by decide +kernel
theorem dX9_givesOf_4 : decode cX9_givesOf 4 = .ok (.iconst 3, 1) := by decide +kernel
theorem dX9_givesOf_5 : decode cX9_givesOf 5 = .ok (.iload_n 2, 1) := by decide +kernel
theorem dX9_givesOf_6 : decode cX9_givesOf 6 = .ok (.imul, 1) := by decide +kernel
theorem dX9_givesOf_7 : decode cX9_givesOf 7 = .ok (.iconst 1, 1) := by decide +kernel
theorem dX9_givesOf_8 : decode cX9_givesOf 8 = .ok (.iadd, 1) := by decide +kernel
theorem dX9_givesOf_9 : decode cX9_givesOf 9 = .ok (.iaload, 1) := by decide +kernel
theorem dX9_givesOf_10 : decode cX9_givesOf 10 = .ok (.istore_n 3, 1) := by decide +kernel
theorem dX9_givesOf_11 : decode cX9_givesOf 11 = .ok (.aload_n 0, 1) := by decide +kernel
theorem dX9_givesOf_12 : decode cX9_givesOf 12 = .ok (.getfield 38, 3) := by decide +kernel
theorem dX9_givesOf_15 : decode cX9_givesOf 15 = .ok (.iconst 3, 1) := by decide +kernel
theorem dX9_givesOf_16 : decode cX9_givesOf 16 = .ok (.iload_n 2, 1) := by decide +kernel
theorem dX9_givesOf_17 : decode cX9_givesOf 17 = .ok (.imul, 1) := by decide +kernel
theorem dX9_givesOf_18 : decode cX9_givesOf 18 = .ok (.iconst 2, 1) := by decide +kernel
theorem dX9_givesOf_19 : decode cX9_givesOf 19 = .ok (.iadd, 1) := by decide +kernel
theorem dX9_givesOf_20 : decode cX9_givesOf 20 = .ok (.iaload, 1) := by decide +kernel
theorem dX9_givesOf_21 : decode cX9_givesOf 21 = .ok (.istore 4, 2) := by decide +kernel
theorem dX9_givesOf_23 : decode cX9_givesOf 23 = .ok (.iload_n 3, 1) := by decide +kernel
theorem dX9_givesOf_24 : decode cX9_givesOf 24 = .ok (.ifCond .eq 9, 3) := by decide +kernel
theorem dX9_givesOf_27 : decode cX9_givesOf 27 = .ok (.iload_n 1, 1) := by decide +kernel
theorem dX9_givesOf_28 : decode cX9_givesOf 28 = .ok (.iload 4, 2) := by decide +kernel
theorem dX9_givesOf_30 : decode cX9_givesOf 30 = .ok (.if_icmp .ge 12, 3) := by decide +kernel
theorem dX9_givesOf_33 : decode cX9_givesOf 33 = .ok (.aload_n 0, 1) := by decide +kernel
theorem dX9_givesOf_34 : decode cX9_givesOf 34 = .ok (.getfield 38, 3) := by decide +kernel
theorem dX9_givesOf_37 : decode cX9_givesOf 37 = .ok (.iconst 3, 1) := by decide +kernel
theorem dX9_givesOf_38 : decode cX9_givesOf 38 = .ok (.iload_n 2, 1) := by decide +kernel
theorem dX9_givesOf_39 : decode cX9_givesOf 39 = .ok (.imul, 1) := by decide +kernel
theorem dX9_givesOf_40 : decode cX9_givesOf 40 = .ok (.iaload, 1) := by decide +kernel
theorem dX9_givesOf_41 : decode cX9_givesOf 41 = .ok (.ireturn, 1) := by decide +kernel
theorem dX9_givesOf_42 : decode cX9_givesOf 42 = .ok (.iload_n 3, 1) := by decide +kernel
theorem dX9_givesOf_43 : decode cX9_givesOf 43 = .ok (.iconst 2, 1) := by decide +kernel
theorem dX9_givesOf_44 : decode cX9_givesOf 44 = .ok (.if_icmp .ne 19, 3) := by decide +kernel
theorem dX9_givesOf_47 : decode cX9_givesOf 47 = .ok (.aload_n 0, 1) := by decide +kernel
theorem dX9_givesOf_48 : decode cX9_givesOf 48 = .ok (.getfield 44, 3) := by decide +kernel
theorem dX9_givesOf_51 : decode cX9_givesOf 51 = .ok (.iconst 2, 1) := by decide +kernel
theorem dX9_givesOf_52 : decode cX9_givesOf 52 = .ok (.iload_n 1, 1) := by decide +kernel
theorem dX9_givesOf_53 : decode cX9_givesOf 53 = .ok (.iload 4, 2) := by decide +kernel
theorem dX9_givesOf_55 : decode cX9_givesOf 55 = .ok (.isub, 1) := by decide +kernel
theorem dX9_givesOf_56 : decode cX9_givesOf 56 = .ok (.imul, 1) := by decide +kernel
theorem dX9_givesOf_57 : decode cX9_givesOf 57 = .ok (.iconst 1, 1) := by decide +kernel
theorem dX9_givesOf_58 : decode cX9_givesOf 58 = .ok (.iadd, 1) := by decide +kernel
theorem dX9_givesOf_59 : decode cX9_givesOf 59 = .ok (.iload_n 2, 1) := by decide +kernel
theorem dX9_givesOf_60 : decode cX9_givesOf 60 = .ok (.isub, 1) := by decide +kernel
theorem dX9_givesOf_61 : decode cX9_givesOf 61 = .ok (.iaload, 1) := by decide +kernel
theorem dX9_givesOf_62 : decode cX9_givesOf 62 = .ok (.ireturn, 1) := by decide +kernel
theorem dX9_givesOf_63 : decode cX9_givesOf 63 = .ok (.iload_n 3, 1) := by decide +kernel
theorem dX9_givesOf_64 : decode cX9_givesOf 64 = .ok (.iconst 1, 1) := by decide +kernel
theorem dX9_givesOf_65 : decode cX9_givesOf 65 = .ok (.if_icmp .ne 12, 3) := by decide +kernel
theorem dX9_givesOf_68 : decode cX9_givesOf 68 = .ok (.aload_n 0, 1) := by decide +kernel
theorem dX9_givesOf_69 : decode cX9_givesOf 69 = .ok (.iload_n 1, 1) := by decide +kernel
theorem dX9_givesOf_70 : decode cX9_givesOf 70 = .ok (.iload_n 2, 1) := by decide +kernel
theorem dX9_givesOf_71 : decode cX9_givesOf 71 = .ok (.invokevirtual 144, 3) := by decide +kernel
theorem dX9_givesOf_74 : decode cX9_givesOf 74 = .ok (.goto 24, 3) := by decide +kernel
theorem dX9_givesOf_77 : decode cX9_givesOf 77 = .ok (.aload_n 0, 1) := by decide +kernel
theorem dX9_givesOf_78 : decode cX9_givesOf 78 = .ok (.getfield 44, 3) := by decide +kernel
theorem dX9_givesOf_81 : decode cX9_givesOf 81 = .ok (.iconst 2, 1) := by decide +kernel
theorem dX9_givesOf_82 : decode cX9_givesOf 82 = .ok (.iload_n 1, 1) := by decide +kernel
theorem dX9_givesOf_83 : decode cX9_givesOf 83 = .ok (.imul, 1) := by decide +kernel
theorem dX9_givesOf_84 : decode cX9_givesOf 84 = .ok (.iconst 2, 1) := by decide +kernel
theorem dX9_givesOf_85 : decode cX9_givesOf 85 = .ok (.isub, 1) := by decide +kernel
theorem dX9_givesOf_86 : decode cX9_givesOf 86 = .ok (.iload_n 2, 1) := by decide +kernel
theorem dX9_givesOf_87 : decode cX9_givesOf 87 = .ok (.iadd, 1) := by decide +kernel
theorem dX9_givesOf_88 : decode cX9_givesOf 88 = .ok (.iaload, 1) := by decide +kernel
theorem dX9_givesOf_89 : decode cX9_givesOf 89 = .ok (.aload_n 0, 1) := by decide +kernel
theorem dX9_givesOf_90 : decode cX9_givesOf 90 = .ok (.iload_n 1, 1) := by decide +kernel
theorem dX9_givesOf_91 : decode cX9_givesOf 91 = .ok (.iload_n 2, 1) := by decide +kernel
theorem dX9_givesOf_92 : decode cX9_givesOf 92 = .ok (.invokevirtual 144, 3) := by decide +kernel
theorem dX9_givesOf_95 : decode cX9_givesOf 95 = .ok (.iadd, 1) := by decide +kernel
theorem dX9_givesOf_96 : decode cX9_givesOf 96 = .ok (.iconst 2, 1) := by decide +kernel
theorem dX9_givesOf_97 : decode cX9_givesOf 97 = .ok (.idiv, 1) := by decide +kernel
theorem dX9_givesOf_98 : decode cX9_givesOf 98 = .ok (.ireturn, 1) := by decide +kernel
theorem dX9_lives_0 : decode cX9_lives 0 = .ok (.aload_n 0, 1) := by decide +kernel
theorem dX9_lives_1 : decode cX9_lives 1 = .ok (.invokevirtual 128, 3) := by decide +kernel
theorem dX9_lives_4 : decode cX9_lives 4 = .ok (.iconst 0, 1) := by decide +kernel
theorem dX9_lives_5 : decode cX9_lives 5 = .ok (.istore_n 1, 1) := by decide +kernel
theorem dX9_lives_6 : decode cX9_lives 6 = .ok (.iload_n 1, 1) := by decide +kernel
theorem dX9_lives_7 : decode cX9_lives 7 = .ok (.bipush 40, 2) := by decide +kernel
theorem dX9_lives_9 : decode cX9_lives 9 = .ok (.if_icmp .ge 201, 3) := by decide +kernel
theorem dX9_lives_12 : decode cX9_lives 12 = .ok (.iload_n 1, 1) := by decide +kernel
theorem dX9_lives_13 : decode cX9_lives 13 = .ok (.ifCond .ne 25, 3) := by decide +kernel
theorem dX9_lives_16 : decode cX9_lives 16 = .ok (.aload_n 0, 1) := by decide +kernel
theorem dX9_lives_17 : decode cX9_lives 17 = .ok (.getfield 47, 3) := by decide +kernel
theorem dX9_lives_20 : decode cX9_lives 20 = .ok (.iconst 0, 1) := by decide +kernel
theorem dX9_lives_21 : decode cX9_lives 21 = .ok (.aload_n 0, 1) := by decide +kernel
theorem dX9_lives_22 : decode cX9_lives 22 = .ok (.getfield 41, 3) := by decide +kernel
theorem dX9_lives_25 : decode cX9_lives 25 = .ok (.iconst 4, 1) := by decide +kernel
theorem dX9_lives_26 : decode cX9_lives 26 = .ok (.iaload, 1) := by decide +kernel
theorem dX9_lives_27 : decode cX9_lives 27 = .ok (.iastore, 1) := by decide +kernel
theorem dX9_lives_28 : decode cX9_lives 28 = .ok (.aload_n 0, 1) := by decide +kernel
theorem dX9_lives_29 : decode cX9_lives 29 = .ok (.getfield 50, 3) := by decide +kernel
theorem dX9_lives_32 : decode cX9_lives 32 = .ok (.iconst 0, 1) := by decide +kernel
theorem dX9_lives_33 : decode cX9_lives 33 = .ok (.iconst 0, 1) := by decide +kernel
theorem dX9_lives_34 : decode cX9_lives 34 = .ok (.iastore, 1) := by decide +kernel
theorem dX9_lives_35 : decode cX9_lives 35 = .ok (.goto 94, 3) := by decide +kernel
theorem dX9_lives_38 : decode cX9_lives 38 = .ok (.aload_n 0, 1) := by decide +kernel
theorem dX9_lives_39 : decode cX9_lives 39 = .ok (.getfield 44, 3) := by decide +kernel
theorem dX9_lives_42 : decode cX9_lives 42 = .ok (.iconst 2, 1) := by decide +kernel
theorem dX9_lives_43 : decode cX9_lives 43 = .ok (.iload_n 1, 1) := by decide +kernel
theorem dX9_lives_44 : decode cX9_lives 44 = .ok (.imul, 1) := by decide +kernel
theorem dX9_lives_45 : decode cX9_lives 45 = .ok (.iconst 2, 1) := by decide +kernel
theorem dX9_lives_46 : decode cX9_lives 46 = .ok (.isub, 1) := by decide +kernel
theorem dX9_lives_47 : decode cX9_lives 47 = .ok (.iaload, 1) := by decide +kernel
theorem dX9_lives_48 : decode cX9_lives 48 = .ok (.aload_n 0, 1) := by decide +kernel
theorem dX9_lives_49 : decode cX9_lives 49 = .ok (.getfield 44, 3) := by decide +kernel
theorem dX9_lives_52 : decode cX9_lives 52 = .ok (.iconst 2, 1) := by decide +kernel
theorem dX9_lives_53 : decode cX9_lives 53 = .ok (.iload_n 1, 1) := by decide +kernel
theorem dX9_lives_54 : decode cX9_lives 54 = .ok (.imul, 1) := by decide +kernel
theorem dX9_lives_55 : decode cX9_lives 55 = .ok (.iconst 1, 1) := by decide +kernel
theorem dX9_lives_56 : decode cX9_lives 56 = .ok (.isub, 1) := by decide +kernel
theorem dX9_lives_57 : decode cX9_lives 57 = .ok (.iaload, 1) := by decide +kernel
theorem dX9_lives_58 : decode cX9_lives 58 = .ok (.iadd, 1) := by decide +kernel
theorem dX9_lives_59 : decode cX9_lives 59 = .ok (.aload_n 0, 1) := by decide +kernel
theorem dX9_lives_60 : decode cX9_lives 60 = .ok (.getfield 53, 3) := by decide +kernel
theorem dX9_lives_63 : decode cX9_lives 63 = .ok (.iload_n 1, 1) := by decide +kernel
theorem dX9_lives_64 : decode cX9_lives 64 = .ok (.iconst 1, 1) := by decide +kernel
theorem dX9_lives_65 : decode cX9_lives 65 = .ok (.isub, 1) := by decide +kernel
theorem dX9_lives_66 : decode cX9_lives 66 = .ok (.iaload, 1) := by decide +kernel
theorem dX9_lives_67 : decode cX9_lives 67 = .ok (.isub, 1) := by decide +kernel
theorem dX9_lives_68 : decode cX9_lives 68 = .ok (.istore_n 2, 1) := by decide +kernel
theorem dX9_lives_69 : decode cX9_lives 69 = .ok (.aload_n 0, 1) := by decide +kernel
theorem dX9_lives_70 : decode cX9_lives 70 = .ok (.getfield 47, 3) := by decide +kernel
theorem dX9_lives_73 : decode cX9_lives 73 = .ok (.iload_n 1, 1) := by decide +kernel
theorem dX9_lives_74 : decode cX9_lives 74 = .ok (.aload_n 0, 1) := by decide +kernel
theorem dX9_lives_75 : decode cX9_lives 75 = .ok (.getfield 47, 3) := by decide +kernel
theorem dX9_lives_78 : decode cX9_lives 78 = .ok (.iload_n 1, 1) := by decide +kernel
theorem dX9_lives_79 : decode cX9_lives 79 = .ok (.iconst 1, 1) := by decide +kernel
theorem dX9_lives_80 : decode cX9_lives 80 = .ok (.isub, 1) := by decide +kernel
theorem dX9_lives_81 : decode cX9_lives 81 = .ok (.iaload, 1) := by decide +kernel
theorem dX9_lives_82 : decode cX9_lives 82 = .ok (.iload_n 2, 1) := by decide +kernel
theorem dX9_lives_83 : decode cX9_lives 83 = .ok (.ifCond .le 7, 3) := by decide +kernel
theorem dX9_lives_86 : decode cX9_lives 86 = .ok (.iconst 1, 1) := by decide +kernel
theorem dX9_lives_87 : decode cX9_lives 87 = .ok (.goto 12, 3) := by decide +kernel
theorem dX9_lives_90 : decode cX9_lives 90 = .ok (.iload_n 2, 1) := by decide +kernel
theorem dX9_lives_91 : decode cX9_lives 91 = .ok (.ifCond .ge 7, 3) := by decide +kernel
theorem dX9_lives_94 : decode cX9_lives 94 = .ok (.iconst (-1), 1) := by decide +kernel
theorem dX9_lives_95 : decode cX9_lives 95 = .ok (.goto 4, 3) := by decide +kernel
theorem dX9_lives_98 : decode cX9_lives 98 = .ok (.iconst 0, 1) := by decide +kernel
theorem dX9_lives_99 : decode cX9_lives 99 = .ok (.iadd, 1) := by decide +kernel
theorem dX9_lives_100 : decode cX9_lives 100 = .ok (.bipush 20, 2) := by decide +kernel
theorem dX9_lives_102 : decode cX9_lives 102 = .ok (.invokestatic 141, 3) := by decide +kernel
theorem dX9_lives_105 : decode cX9_lives 105 = .ok (.iastore, 1) := by decide +kernel
theorem dX9_lives_106 : decode cX9_lives 106 = .ok (.aload_n 0, 1) := by decide +kernel
theorem dX9_lives_107 : decode cX9_lives 107 = .ok (.getfield 50, 3) := by decide +kernel
theorem dX9_lives_110 : decode cX9_lives 110 = .ok (.iload_n 1, 1) := by decide +kernel
theorem dX9_lives_111 : decode cX9_lives 111 = .ok (.aload_n 0, 1) := by decide +kernel
theorem dX9_lives_112 : decode cX9_lives 112 = .ok (.getfield 50, 3) := by decide +kernel
theorem dX9_lives_115 : decode cX9_lives 115 = .ok (.iload_n 1, 1) := by decide +kernel
theorem dX9_lives_116 : decode cX9_lives 116 = .ok (.iconst 1, 1) := by decide +kernel
theorem dX9_lives_117 : decode cX9_lives 117 = .ok (.isub, 1) := by decide +kernel
theorem dX9_lives_118 : decode cX9_lives 118 = .ok (.iaload, 1) := by decide +kernel
theorem dX9_lives_119 : decode cX9_lives 119 = .ok (.aload_n 0, 1) := by decide +kernel
theorem dX9_lives_120 : decode cX9_lives 120 = .ok (.getfield 47, 3) := by decide +kernel
theorem dX9_lives_123 : decode cX9_lives 123 = .ok (.iload_n 1, 1) := by decide +kernel
theorem dX9_lives_124 : decode cX9_lives 124 = .ok (.iconst 1, 1) := by decide +kernel
theorem dX9_lives_125 : decode cX9_lives 125 = .ok (.isub, 1) := by decide +kernel
theorem dX9_lives_126 : decode cX9_lives 126 = .ok (.iaload, 1) := by decide +kernel
theorem dX9_lives_127 : decode cX9_lives 127 = .ok (.iadd, 1) := by decide +kernel
theorem dX9_lives_128 : decode cX9_lives 128 = .ok (.iastore, 1) := by decide +kernel
theorem dX9_lives_129 : decode cX9_lives 129 = .ok (.aload_n 0, 1) := by decide +kernel
theorem dX9_lives_130 : decode cX9_lives 130 = .ok (.getfield 53, 3) := by decide +kernel
theorem dX9_lives_133 : decode cX9_lives 133 = .ok (.iload_n 1, 1) := by decide +kernel
theorem dX9_lives_134 : decode cX9_lives 134 = .ok (.aload_n 0, 1) := by decide +kernel
theorem dX9_lives_135 : decode cX9_lives 135 = .ok (.getfield 118, 3) := by decide +kernel
theorem dX9_lives_138 : decode cX9_lives 138 = .ok (.ifCond .ne 7, 3) := by decide +kernel
theorem dX9_lives_141 : decode cX9_lives 141 = .ok (.iconst 0, 1) := by decide +kernel
theorem dX9_lives_142 : decode cX9_lives 142 = .ok (.goto 31, 3) := by decide +kernel
theorem dX9_lives_145 : decode cX9_lives 145 = .ok (.aload_n 0, 1) := by decide +kernel
theorem dX9_lives_146 : decode cX9_lives 146 = .ok (.getfield 31, 3) := by decide +kernel
theorem dX9_lives_149 : decode cX9_lives 149 = .ok (.aload_n 0, 1) := by decide +kernel
theorem dX9_lives_150 : decode cX9_lives 150 = .ok (.getfield 50, 3) := by decide +kernel
theorem dX9_lives_153 : decode cX9_lives 153 = .ok (.iload_n 1, 1) := by decide +kernel
theorem dX9_lives_154 : decode cX9_lives 154 = .ok (.iaload, 1) := by decide +kernel
theorem dX9_lives_155 : decode cX9_lives 155 = .ok (.bipush 10, 2) := by decide +kernel
theorem dX9_lives_157 : decode cX9_lives 157 = .ok (.idiv, 1) := by decide +kernel
theorem dX9_lives_158 : decode cX9_lives 158 = .ok (.aload_n 0, 1) := by decide +kernel
theorem dX9_lives_159 : decode cX9_lives 159 = .ok (.getfield 118, 3) := by decide +kernel
theorem dX9_lives_162 : decode cX9_lives 162 = .ok (.iconst 1, 1) := by decide +kernel
theorem dX9_lives_163 : decode cX9_lives 163 = .ok (.isub, 1) := by decide +kernel
theorem dX9_lives_164 : decode cX9_lives 164 = .ok (.invokestatic 77, 3) := by decide +kernel
theorem dX9_lives_167 : decode cX9_lives 167 = .ok (.iaload, 1) := by decide +kernel
theorem dX9_lives_168 : decode cX9_lives 168 = .ok (.aload_n 0, 1) := by decide +kernel
theorem dX9_lives_169 : decode cX9_lives 169 = .ok (.getfield 113, 3) := by decide +kernel
theorem dX9_lives_172 : decode cX9_lives 172 = .ok (.imul, 1) := by decide +kernel
theorem dX9_lives_173 : decode cX9_lives 173 = .ok (.iastore, 1) := by decide +kernel
theorem dX9_lives_174 : decode cX9_lives 174 = .ok (.aload_n 0, 1) := by decide +kernel
theorem dX9_lives_175 : decode cX9_lives 175 = .ok (.getfield 44, 3) := by decide +kernel
theorem dX9_lives_178 : decode cX9_lives 178 = .ok (.iconst 2, 1) := by decide +kernel
theorem dX9_lives_179 : decode cX9_lives 179 = .ok (.iload_n 1, 1) := by decide +kernel
theorem dX9_lives_180 : decode cX9_lives 180 = .ok (.imul, 1) := by decide +kernel
theorem dX9_lives_181 : decode cX9_lives 181 = .ok (.aload_n 0, 1) := by decide +kernel
theorem dX9_lives_182 : decode cX9_lives 182 = .ok (.iload_n 1, 1) := by decide +kernel
theorem dX9_lives_183 : decode cX9_lives 183 = .ok (.iconst 0, 1) := by decide +kernel
theorem dX9_lives_184 : decode cX9_lives 184 = .ok (.invokevirtual 147, 3) := by decide +kernel
theorem dX9_lives_187 : decode cX9_lives 187 = .ok (.iastore, 1) := by decide +kernel
theorem dX9_lives_188 : decode cX9_lives 188 = .ok (.aload_n 0, 1) := by decide +kernel
theorem dX9_lives_189 : decode cX9_lives 189 = .ok (.getfield 44, 3) := by decide +kernel
theorem dX9_lives_192 : decode cX9_lives 192 = .ok (.iconst 2, 1) := by decide +kernel
theorem dX9_lives_193 : decode cX9_lives 193 = .ok (.iload_n 1, 1) := by decide +kernel
theorem dX9_lives_194 : decode cX9_lives 194 = .ok (.imul, 1) := by decide +kernel
theorem dX9_lives_195 : decode cX9_lives 195 = .ok (.iconst 1, 1) := by decide +kernel
theorem dX9_lives_196 : decode cX9_lives 196 = .ok (.iadd, 1) := by decide +kernel
theorem dX9_lives_197 : decode cX9_lives 197 = .ok (.aload_n 0, 1) := by decide +kernel
theorem dX9_lives_198 : decode cX9_lives 198 = .ok (.iload_n 1, 1) := by decide +kernel
theorem dX9_lives_199 : decode cX9_lives 199 = .ok (.iconst 1, 1) := by decide +kernel
theorem dX9_lives_200 : decode cX9_lives 200 = .ok (.invokevirtual 147, 3) := by decide +kernel
theorem dX9_lives_203 : decode cX9_lives 203 = .ok (.iastore, 1) := by decide +kernel
theorem dX9_lives_204 : decode cX9_lives 204 = .ok (.iinc 1 1, 3) := by decide +kernel
theorem dX9_lives_207 : decode cX9_lives 207 = .ok (.goto (-201), 3) := by decide +kernel
theorem dX9_lives_210 : decode cX9_lives 210 = .ok (.return_, 1) := by decide +kernel
theorem dX9_isMinute_0 : decode cX9_isMinute 0 = .ok (.iload_n 0, 1) := by decide +kernel
theorem dX9_isMinute_1 : decode cX9_isMinute 1 = .ok (.i2l, 1) := by decide +kernel
theorem dX9_isMinute_2 : decode cX9_isMinute 2 = .ok (.lconst 0, 1) := by decide +kernel
theorem dX9_isMinute_3 : decode cX9_isMinute 3 = .ok (.ldc2_w 150, 3) := by decide +kernel
theorem dX9_isMinute_6 : decode cX9_isMinute 6 = .ok (.invokestatic 73, 3) := by decide +kernel
theorem dX9_isMinute_9 : decode cX9_isMinute 9 = .ok (.ireturn, 1) := by decide +kernel
theorem dX9_gives_0 : decode cX9_gives 0 = .ok (.aload_n 0, 1) := by decide +kernel
theorem dX9_gives_1 : decode cX9_gives 1 = .ok (.invokevirtual 152, 3) := by decide +kernel
theorem dX9_gives_4 : decode cX9_gives 4 = .ok (.iload_n 1, 1) := by decide +kernel
theorem dX9_gives_5 : decode cX9_gives 5 = .ok (.invokestatic 155, 3) := by decide +kernel
theorem dX9_gives_8 : decode cX9_gives 8 = .ok (.ifCond .eq 23, 3) := by decide +kernel
theorem dX9_gives_11 : decode cX9_gives 11 = .ok (.iload_n 2, 1) := by decide +kernel
theorem dX9_gives_12 : decode cX9_gives 12 = .ok (.invokestatic 105, 3) := by decide +kernel
theorem dX9_gives_15 : decode cX9_gives 15 = .ok (.ifCond .eq 16, 3) := by decide +kernel
theorem dX9_gives_18 : decode cX9_gives 18 = .ok (.aload_n 0, 1) := by decide +kernel
theorem dX9_gives_19 : decode cX9_gives 19 = .ok (.getfield 44, 3) := by decide +kernel
theorem dX9_gives_22 : decode cX9_gives 22 = .ok (.iconst 2, 1) := by decide +kernel
theorem dX9_gives_23 : decode cX9_gives 23 = .ok (.iload_n 1, 1) := by decide +kernel
theorem dX9_gives_24 : decode cX9_gives 24 = .ok (.imul, 1) := by decide +kernel
theorem dX9_gives_25 : decode cX9_gives 25 = .ok (.iload_n 2, 1) := by decide +kernel
theorem dX9_gives_26 : decode cX9_gives 26 = .ok (.iadd, 1) := by decide +kernel
theorem dX9_gives_27 : decode cX9_gives 27 = .ok (.iaload, 1) := by decide +kernel
theorem dX9_gives_28 : decode cX9_gives 28 = .ok (.goto 5, 3) := by decide +kernel
theorem dX9_gives_31 : decode cX9_gives 31 = .ok (.bipush (-2), 2) := by decide +kernel
theorem dX9_gives_33 : decode cX9_gives 33 = .ok (.ireturn, 1) := by decide +kernel
theorem dX9_placeAt_0 : decode cX9_placeAt 0 = .ok (.aload_n 0, 1) := by decide +kernel
theorem dX9_placeAt_1 : decode cX9_placeAt 1 = .ok (.getfield 50, 3) := by decide +kernel
theorem dX9_placeAt_4 : decode cX9_placeAt 4 = .ok (.iload_n 1, 1) := by decide +kernel
theorem dX9_placeAt_5 : decode cX9_placeAt 5 = .ok (.iaload, 1) := by decide +kernel
theorem dX9_placeAt_6 : decode cX9_placeAt 6 = .ok (.bipush 10, 2) := by decide +kernel
theorem dX9_placeAt_8 : decode cX9_placeAt 8 = .ok (.idiv, 1) := by decide +kernel
theorem dX9_placeAt_9 : decode cX9_placeAt 9 = .ok (.aload_n 0, 1) := by decide +kernel
theorem dX9_placeAt_10 : decode cX9_placeAt 10 = .ok (.getfield 118, 3) := by decide +kernel
theorem dX9_placeAt_13 : decode cX9_placeAt 13 = .ok (.if_icmp .ge 15, 3) := by decide +kernel
theorem dX9_placeAt_16 : decode cX9_placeAt 16 = .ok (.aload_n 0, 1) := by decide +kernel
theorem dX9_placeAt_17 : decode cX9_placeAt 17 = .ok (.getfield 50, 3) := by decide +kernel
theorem dX9_placeAt_20 : decode cX9_placeAt 20 = .ok (.iload_n 1, 1) := by decide +kernel
theorem dX9_placeAt_21 : decode cX9_placeAt 21 = .ok (.iaload, 1) := by decide +kernel
theorem dX9_placeAt_22 : decode cX9_placeAt 22 = .ok (.bipush 10, 2) := by decide +kernel
theorem dX9_placeAt_24 : decode cX9_placeAt 24 = .ok (.idiv, 1) := by decide +kernel
theorem dX9_placeAt_25 : decode cX9_placeAt 25 = .ok (.goto 4, 3) := by decide +kernel
theorem dX9_placeAt_28 : decode cX9_placeAt 28 = .ok (.iconst (-1), 1) := by decide +kernel
theorem dX9_placeAt_29 : decode cX9_placeAt 29 = .ok (.ireturn, 1) := by decide +kernel
theorem dX9_minuteOf_0 : decode cX9_minuteOf 0 = .ok (.iload_n 2, 1) := by decide +kernel
theorem dX9_minuteOf_1 : decode cX9_minuteOf 1 = .ok (.ifCond .ne 12, 3) := by decide +kernel
theorem dX9_minuteOf_4 : decode cX9_minuteOf 4 = .ok (.aload_n 0, 1) := by decide +kernel
theorem dX9_minuteOf_5 : decode cX9_minuteOf 5 = .ok (.getfield 53, 3) := by decide +kernel
theorem dX9_minuteOf_8 : decode cX9_minuteOf 8 = .ok (.iload_n 1, 1) := by decide +kernel
theorem dX9_minuteOf_9 : decode cX9_minuteOf 9 = .ok (.iaload, 1) := by decide +kernel
theorem dX9_minuteOf_10 : decode cX9_minuteOf 10 = .ok (.goto 22, 3) := by decide +kernel
theorem dX9_minuteOf_13 : decode cX9_minuteOf 13 = .ok (.iload_n 2, 1) := by decide +kernel
theorem dX9_minuteOf_14 : decode cX9_minuteOf 14 = .ok (.iconst 1, 1) := by decide +kernel
theorem dX9_minuteOf_15 : decode cX9_minuteOf 15 = .ok (.if_icmp .ne 12, 3) := by decide +kernel
theorem dX9_minuteOf_18 : decode cX9_minuteOf 18 = .ok (.aload_n 0, 1) := by decide +kernel
theorem dX9_minuteOf_19 : decode cX9_minuteOf 19 = .ok (.getfield 47, 3) := by decide +kernel
theorem dX9_minuteOf_22 : decode cX9_minuteOf 22 = .ok (.iload_n 1, 1) := by decide +kernel
theorem dX9_minuteOf_23 : decode cX9_minuteOf 23 = .ok (.iaload, 1) := by decide +kernel
theorem dX9_minuteOf_24 : decode cX9_minuteOf 24 = .ok (.goto 8, 3) := by decide +kernel
theorem dX9_minuteOf_27 : decode cX9_minuteOf 27 = .ok (.aload_n 0, 1) := by decide +kernel
theorem dX9_minuteOf_28 : decode cX9_minuteOf 28 = .ok (.iload_n 1, 1) := by decide +kernel
theorem dX9_minuteOf_29 : decode cX9_minuteOf 29 = .ok (.invokevirtual 158, 3) := by decide +kernel
theorem dX9_minuteOf_32 : decode cX9_minuteOf 32 = .ok (.ireturn, 1) := by decide +kernel
theorem dX9_minute_0 : decode cX9_minute 0 = .ok (.aload_n 0, 1) := by decide +kernel
theorem dX9_minute_1 : decode cX9_minute 1 = .ok (.invokevirtual 152, 3) := by decide +kernel
theorem dX9_minute_4 : decode cX9_minute 4 = .ok (.iload_n 1, 1) := by decide +kernel
theorem dX9_minute_5 : decode cX9_minute 5 = .ok (.invokestatic 155, 3) := by decide +kernel
theorem dX9_minute_8 : decode cX9_minute 8 = .ok (.ifCond .eq 24, 3) := by decide +kernel
theorem dX9_minute_11 : decode cX9_minute 11 = .ok (.iload_n 2, 1) := by decide +kernel
theorem dX9_minute_12 : decode cX9_minute 12 = .ok (.i2l, 1) := by decide +kernel
theorem dX9_minute_13 : decode cX9_minute 13 = .ok (.lconst 0, 1) := by decide +kernel
theorem dX9_minute_14 : decode cX9_minute 14 = .ok (.ldc2_w 91, 3) := by decide +kernel
theorem dX9_minute_17 : decode cX9_minute 17 = .ok (.invokestatic 73, 3) := by decide +kernel
theorem dX9_minute_20 : decode cX9_minute 20 = .ok (.ifCond .eq 12, 3) := by decide +kernel
theorem dX9_minute_23 : decode cX9_minute 23 = .ok (.aload_n 0, 1) := by decide +kernel
theorem dX9_minute_24 : decode cX9_minute 24 = .ok (.iload_n 1, 1) := by decide +kernel
theorem dX9_minute_25 : decode cX9_minute 25 = .ok (.iload_n 2, 1) := by decide +kernel
theorem dX9_minute_26 : decode cX9_minute 26 = .ok (.invokevirtual 161, 3) := by decide +kernel
theorem dX9_minute_29 : decode cX9_minute 29 = .ok (.goto 5, 3) := by decide +kernel
theorem dX9_minute_32 : decode cX9_minute 32 = .ok (.bipush (-2), 2) := by decide +kernel
theorem dX9_minute_34 : decode cX9_minute 34 = .ok (.ireturn, 1) := by decide +kernel
theorem dX9_ahead_0 : decode cX9_ahead 0 = .ok (.iconst 0, 1) := by decide +kernel
theorem dX9_ahead_1 : decode cX9_ahead 1 = .ok (.istore_n 2, 1) := by decide +kernel
theorem dX9_ahead_2 : decode cX9_ahead 2 = .ok (.iconst 0, 1) := by decide +kernel
theorem dX9_ahead_3 : decode cX9_ahead 3 = .ok (.istore_n 3, 1) := by decide +kernel
theorem dX9_ahead_4 : decode cX9_ahead 4 = .ok (.iload_n 3, 1) := by decide +kernel
theorem dX9_ahead_5 : decode cX9_ahead 5 = .ok (.iload_n 1, 1) := by decide +kernel
theorem dX9_ahead_6 : decode cX9_ahead 6 = .ok (.if_icmp .ge 18, 3) := by decide +kernel
theorem dX9_ahead_9 : decode cX9_ahead 9 = .ok (.iload_n 2, 1) := by decide +kernel
theorem dX9_ahead_10 : decode cX9_ahead 10 = .ok (.aload_n 0, 1) := by decide +kernel
theorem dX9_ahead_11 : decode cX9_ahead 11 = .ok (.getfield 28, 3) := by decide +kernel
theorem dX9_ahead_14 : decode cX9_ahead 14 = .ok (.iload_n 3, 1) := by decide +kernel
theorem dX9_ahead_15 : decode cX9_ahead 15 = .ok (.iaload, 1) := by decide +kernel
theorem dX9_ahead_16 : decode cX9_ahead 16 = .ok (.iadd, 1) := by decide +kernel
theorem dX9_ahead_17 : decode cX9_ahead 17 = .ok (.istore_n 2, 1) := by decide +kernel
theorem dX9_ahead_18 : decode cX9_ahead 18 = .ok (.iinc 3 1, 3) := by decide +kernel
theorem dX9_ahead_21 : decode cX9_ahead 21 = .ok (.goto (-17), 3) := by decide +kernel
theorem dX9_ahead_24 : decode cX9_ahead 24 = .ok (.iload_n 2, 1) := by decide +kernel
theorem dX9_ahead_25 : decode cX9_ahead 25 = .ok (.ireturn, 1) := by decide +kernel
theorem dX9_strainBy_0 : decode cX9_strainBy 0 = .ok (.iload_n 1, 1) := by decide +kernel
theorem dX9_strainBy_1 : decode cX9_strainBy 1 = .ok (.aload_n 0, 1) := by decide +kernel
theorem dX9_strainBy_2 : decode cX9_strainBy 2 = .ok (.getfield 113, 3) := by decide +kernel
theorem dX9_strainBy_5 : decode cX9_strainBy 5 = .ok (.imul, 1) := by decide +kernel
theorem dX9_strainBy_6 : decode cX9_strainBy 6 = .ok (.iload_n 1, 1) := by decide +kernel
theorem dX9_strainBy_7 : decode cX9_strainBy 7 = .ok (.iload_n 2, 1) := by decide +kernel
theorem dX9_strainBy_8 : decode cX9_strainBy 8 = .ok (.iadd, 1) := by decide +kernel
theorem dX9_strainBy_9 : decode cX9_strainBy 9 = .ok (.aload_n 0, 1) := by decide +kernel
theorem dX9_strainBy_10 : decode cX9_strainBy 10 = .ok (.iload_n 3, 1) := by decide +kernel
theorem dX9_strainBy_11 : decode cX9_strainBy 11 = .ok (.invokevirtual 164, 3) := by decide +kernel
theorem dX9_strainBy_14 : decode cX9_strainBy 14 = .ok (.imul, 1) := by decide +kernel
theorem dX9_strainBy_15 : decode cX9_strainBy 15 = .ok (.isub, 1) := by decide +kernel
theorem dX9_strainBy_16 : decode cX9_strainBy 16 = .ok (.ireturn, 1) := by decide +kernel
theorem dX9_strainAt_0 : decode cX9_strainAt 0 = .ok (.aload_n 0, 1) := by decide +kernel
theorem dX9_strainAt_1 : decode cX9_strainAt 1 = .ok (.aload_n 0, 1) := by decide +kernel
theorem dX9_strainAt_2 : decode cX9_strainAt 2 = .ok (.getfield 44, 3) := by decide +kernel
theorem dX9_strainAt_5 : decode cX9_strainAt 5 = .ok (.iconst 2, 1) := by decide +kernel
theorem dX9_strainAt_6 : decode cX9_strainAt 6 = .ok (.iload_n 1, 1) := by decide +kernel
theorem dX9_strainAt_7 : decode cX9_strainAt 7 = .ok (.imul, 1) := by decide +kernel
theorem dX9_strainAt_8 : decode cX9_strainAt 8 = .ok (.iaload, 1) := by decide +kernel
theorem dX9_strainAt_9 : decode cX9_strainAt 9 = .ok (.aload_n 0, 1) := by decide +kernel
theorem dX9_strainAt_10 : decode cX9_strainAt 10 = .ok (.getfield 44, 3) := by decide +kernel
theorem dX9_strainAt_13 : decode cX9_strainAt 13 = .ok (.iconst 2, 1) := by decide +kernel
theorem dX9_strainAt_14 : decode cX9_strainAt 14 = .ok (.iload_n 1, 1) := by decide +kernel
theorem dX9_strainAt_15 : decode cX9_strainAt 15 = .ok (.imul, 1) := by decide +kernel
theorem dX9_strainAt_16 : decode cX9_strainAt 16 = .ok (.iconst 1, 1) := by decide +kernel
theorem dX9_strainAt_17 : decode cX9_strainAt 17 = .ok (.iadd, 1) := by decide +kernel
theorem dX9_strainAt_18 : decode cX9_strainAt 18 = .ok (.iaload, 1) := by decide +kernel
theorem dX9_strainAt_19 : decode cX9_strainAt 19 = .ok (.iload_n 2, 1) := by decide +kernel
theorem dX9_strainAt_20 : decode cX9_strainAt 20 = .ok (.invokevirtual 167, 3) := by decide +kernel
theorem dX9_strainAt_23 : decode cX9_strainAt 23 = .ok (.ireturn, 1) := by decide +kernel
theorem dX9_strain_0 : decode cX9_strain 0 = .ok (.aload_n 0, 1) := by decide +kernel
theorem dX9_strain_1 : decode cX9_strain 1 = .ok (.invokevirtual 152, 3) := by decide +kernel
theorem dX9_strain_4 : decode cX9_strain 4 = .ok (.iload_n 1, 1) := by decide +kernel
theorem dX9_strain_5 : decode cX9_strain 5 = .ok (.invokestatic 155, 3) := by decide +kernel
theorem dX9_strain_8 : decode cX9_strain 8 = .ok (.ifCond .eq 24, 3) := by decide +kernel
theorem dX9_strain_11 : decode cX9_strain 11 = .ok (.iload_n 2, 1) := by decide +kernel
theorem dX9_strain_12 : decode cX9_strain 12 = .ok (.i2l, 1) := by decide +kernel
theorem dX9_strain_13 : decode cX9_strain 13 = .ok (.lconst 0, 1) := by decide +kernel
theorem dX9_strain_14 : decode cX9_strain 14 = .ok (.aload_n 0, 1) := by decide +kernel
theorem dX9_strain_15 : decode cX9_strain 15 = .ok (.getfield 110, 3) := by decide +kernel
theorem dX9_strain_18 : decode cX9_strain 18 = .ok (.i2l, 1) := by decide +kernel
theorem dX9_strain_19 : decode cX9_strain 19 = .ok (.invokestatic 73, 3) := by decide +kernel
theorem dX9_strain_22 : decode cX9_strain 22 = .ok (.ifCond .eq 10, 3) := by decide +kernel
theorem dX9_strain_25 : decode cX9_strain 25 = .ok (.iload_n 3, 1) := by decide +kernel
theorem dX9_strain_26 : decode cX9_strain 26 = .ok (.invokestatic 105, 3) := by decide +kernel
theorem dX9_strain_29 : decode cX9_strain 29 = .ok (.ifCond .ne 9, 3) := by decide +kernel
theorem dX9_strain_32 : decode cX9_strain 32 = .ok (.bipush (-2), 2) := by decide +kernel
theorem dX9_strain_34 : decode cX9_strain 34 = .ok (.invokestatic 170, 3) := by decide +kernel
theorem dX9_strain_37 : decode cX9_strain 37 = .ok (.lreturn, 1) := by decide +kernel
theorem dX9_strain_38 : decode cX9_strain 38 = .ok (.aload_n 0, 1) := by decide +kernel
theorem dX9_strain_39 : decode cX9_strain 39 = .ok (.getfield 110, 3) := by decide +kernel
theorem dX9_strain_42 : decode cX9_strain 42 = .ok (.ifCond .ne 11, 3) := by decide +kernel
theorem dX9_strain_45 : decode cX9_strain 45 = .ok (.bipush (-3), 2) := by decide +kernel
theorem dX9_strain_47 : decode cX9_strain 47 = .ok (.invokestatic 170, 3) := by decide +kernel
theorem dX9_strain_50 : decode cX9_strain 50 = .ok (.goto 19, 3) := by decide +kernel
theorem dX9_strain_53 : decode cX9_strain 53 = .ok (.aload_n 0, 1) := by decide +kernel
theorem dX9_strain_54 : decode cX9_strain 54 = .ok (.iload_n 1, 1) := by decide +kernel
theorem dX9_strain_55 : decode cX9_strain 55 = .ok (.iload_n 2, 1) := by decide +kernel
theorem dX9_strain_56 : decode cX9_strain 56 = .ok (.invokevirtual 174, 3) := by decide +kernel
theorem dX9_strain_59 : decode cX9_strain 59 = .ok (.i2l, 1) := by decide +kernel
theorem dX9_strain_60 : decode cX9_strain 60 = .ok (.aload_n 0, 1) := by decide +kernel
theorem dX9_strain_61 : decode cX9_strain 61 = .ok (.getfield 113, 3) := by decide +kernel
theorem dX9_strain_64 : decode cX9_strain 64 = .ok (.i2l, 1) := by decide +kernel
theorem dX9_strain_65 : decode cX9_strain 65 = .ok (.iload_n 3, 1) := by decide +kernel
theorem dX9_strain_66 : decode cX9_strain 66 = .ok (.invokestatic 177, 3) := by decide +kernel
theorem dX9_strain_69 : decode cX9_strain 69 = .ok (.lreturn, 1) := by decide +kernel
theorem dX9_slackAt_0 : decode cX9_slackAt 0 = .ok (.aload_n 0, 1) := by decide +kernel
theorem dX9_slackAt_1 : decode cX9_slackAt 1 = .ok (.getfield 110, 3) := by decide +kernel
theorem dX9_slackAt_4 : decode cX9_slackAt 4 = .ok (.ifCond .ne 6, 3) := by decide +kernel
theorem dX9_slackAt_7 : decode cX9_slackAt 7 = .ok (.bipush (-3), 2) := by decide +kernel
theorem dX9_slackAt_9 : decode cX9_slackAt 9 = .ok (.ireturn, 1) := by decide +kernel
theorem dX9_slackAt_10 : decode cX9_slackAt 10 = .ok (.iconst 0, 1) := by decide +kernel
theorem dX9_slackAt_11 : decode cX9_slackAt 11 = .ok (.istore_n 2, 1) := by decide +kernel
theorem dX9_slackAt_12 : decode cX9_slackAt 12 = .ok (.iload_n 2, 1) := by decide +kernel
theorem dX9_slackAt_13 : decode cX9_slackAt 13 = .ok (.aload_n 0, 1) := by decide +kernel
theorem dX9_slackAt_14 : decode cX9_slackAt 14 = .ok (.getfield 110, 3) := by decide +kernel
theorem dX9_slackAt_17 : decode cX9_slackAt 17 = .ok (.if_icmp .gt 20, 3) := by decide +kernel
theorem dX9_slackAt_20 : decode cX9_slackAt 20 = .ok (.aload_n 0, 1) := by decide +kernel
theorem dX9_slackAt_21 : decode cX9_slackAt 21 = .ok (.iload_n 1, 1) := by decide +kernel
theorem dX9_slackAt_22 : decode cX9_slackAt 22 = .ok (.iload_n 2, 1) := by decide +kernel
theorem dX9_slackAt_23 : decode cX9_slackAt 23 = .ok (.invokevirtual 174, 3) := by decide +kernel
theorem dX9_slackAt_26 : decode cX9_slackAt 26 = .ok (.ifCond .gt 5, 3) := by decide +kernel
theorem dX9_slackAt_29 : decode cX9_slackAt 29 = .ok (.iload_n 2, 1) := by decide +kernel
theorem dX9_slackAt_30 : decode cX9_slackAt 30 = .ok (.ireturn, 1) := by decide +kernel
theorem dX9_slackAt_31 : decode cX9_slackAt 31 = .ok (.iinc 2 1, 3) := by decide +kernel
theorem dX9_slackAt_34 : decode cX9_slackAt 34 = .ok (.goto (-22), 3) := by decide +kernel
theorem dX9_slackAt_37 : decode cX9_slackAt 37 = .ok (.iconst (-1), 1) := by decide +kernel
theorem dX9_slackAt_38 : decode cX9_slackAt 38 = .ok (.ireturn, 1) := by decide +kernel
theorem dX9_slack_0 : decode cX9_slack 0 = .ok (.aload_n 0, 1) := by decide +kernel
theorem dX9_slack_1 : decode cX9_slack 1 = .ok (.invokevirtual 152, 3) := by decide +kernel
theorem dX9_slack_4 : decode cX9_slack 4 = .ok (.iload_n 1, 1) := by decide +kernel
theorem dX9_slack_5 : decode cX9_slack 5 = .ok (.invokestatic 155, 3) := by decide +kernel
theorem dX9_slack_8 : decode cX9_slack 8 = .ok (.ifCond .eq 11, 3) := by decide +kernel
theorem dX9_slack_11 : decode cX9_slack 11 = .ok (.aload_n 0, 1) := by decide +kernel
theorem dX9_slack_12 : decode cX9_slack 12 = .ok (.iload_n 1, 1) := by decide +kernel
theorem dX9_slack_13 : decode cX9_slack 13 = .ok (.invokevirtual 181, 3) := by decide +kernel
theorem dX9_slack_16 : decode cX9_slack 16 = .ok (.goto 5, 3) := by decide +kernel
theorem dX9_slack_19 : decode cX9_slack 19 = .ok (.bipush (-2), 2) := by decide +kernel
theorem dX9_slack_21 : decode cX9_slack 21 = .ok (.ireturn, 1) := by decide +kernel
theorem dX9_isTorn_0 : decode cX9_isTorn 0 = .ok (.iconst 0, 1) := by decide +kernel
theorem dX9_isTorn_1 : decode cX9_isTorn 1 = .ok (.istore_n 3, 1) := by decide +kernel
theorem dX9_isTorn_2 : decode cX9_isTorn 2 = .ok (.iconst 0, 1) := by decide +kernel
theorem dX9_isTorn_3 : decode cX9_isTorn 3 = .ok (.istore 4, 2) := by decide +kernel
theorem dX9_isTorn_5 : decode cX9_isTorn 5 = .ok (.iload 4, 2) := by decide +kernel
theorem dX9_isTorn_7 : decode cX9_isTorn 7 = .ok (.aload_n 0, 1) := by decide +kernel
theorem dX9_isTorn_8 : decode cX9_isTorn 8 = .ok (.getfield 110, 3) := by decide +kernel
theorem dX9_isTorn_11 : decode cX9_isTorn 11 = .ok (.if_icmp .gt 48, 3) := by decide +kernel
theorem dX9_isTorn_14 : decode cX9_isTorn 14 = .ok (.aload_n 0, 1) := by decide +kernel
theorem dX9_isTorn_15 : decode cX9_isTorn 15 = .ok (.getfield 110, 3) := by decide +kernel
theorem dX9_isTorn_18 : decode cX9_isTorn 18 = .ok (.ifCond .le 41, 3) := by decide +kernel
theorem dX9_isTorn_21 : decode cX9_isTorn 21 = .ok (.iload_n 3, 1) := by decide +kernel
theorem dX9_isTorn_22 : decode cX9_isTorn 22 = .ok (.ifCond .ne 25, 3) := by decide +kernel
theorem dX9_isTorn_25 : decode cX9_isTorn 25 = .ok (.aload_n 0, 1) := by decide +kernel
theorem dX9_isTorn_26 : decode cX9_isTorn 26 = .ok (.iload_n 1, 1) := by decide +kernel
theorem dX9_isTorn_27 : decode cX9_isTorn 27 = .ok (.iload_n 2, 1) := by decide +kernel
theorem dX9_isTorn_28 : decode cX9_isTorn 28 = .ok (.iload 4, 2) := by decide +kernel
theorem dX9_isTorn_30 : decode cX9_isTorn 30 = .ok (.invokevirtual 167, 3) := by decide +kernel
theorem dX9_isTorn_33 : decode cX9_isTorn 33 = .ok (.aload_n 0, 1) := by decide +kernel
theorem dX9_isTorn_34 : decode cX9_isTorn 34 = .ok (.getfield 41, 3) := by decide +kernel
theorem dX9_isTorn_37 : decode cX9_isTorn 37 = .ok (.iconst 0, 1) := by decide +kernel
theorem dX9_isTorn_38 : decode cX9_isTorn 38 = .ok (.iaload, 1) := by decide +kernel
theorem dX9_isTorn_39 : decode cX9_isTorn 39 = .ok (.aload_n 0, 1) := by decide +kernel
theorem dX9_isTorn_40 : decode cX9_isTorn 40 = .ok (.getfield 113, 3) := by decide +kernel
theorem dX9_isTorn_43 : decode cX9_isTorn 43 = .ok (.imul, 1) := by decide +kernel
theorem dX9_isTorn_44 : decode cX9_isTorn 44 = .ok (.if_icmp .le 7, 3) := by decide +kernel
theorem dX9_isTorn_47 : decode cX9_isTorn 47 = .ok (.iconst 1, 1) := by decide +kernel
theorem dX9_isTorn_48 : decode cX9_isTorn 48 = .ok (.goto 4, 3) := by decide +kernel
theorem dX9_isTorn_51 : decode cX9_isTorn 51 = .ok (.iconst 0, 1) := by decide +kernel
theorem dX9_isTorn_52 : decode cX9_isTorn 52 = .ok (.istore_n 3, 1) := by decide +kernel
theorem dX9_isTorn_53 : decode cX9_isTorn 53 = .ok (.iinc 4 1, 3) := by decide +kernel
theorem dX9_isTorn_56 : decode cX9_isTorn 56 = .ok (.goto (-51), 3) := by decide +kernel
theorem dX9_isTorn_59 : decode cX9_isTorn 59 = .ok (.iload_n 3, 1) := by decide +kernel
theorem dX9_isTorn_60 : decode cX9_isTorn 60 = .ok (.ireturn, 1) := by decide +kernel
theorem dX9_tornNow_0 : decode cX9_tornNow 0 = .ok (.iconst 0, 1) := by decide +kernel
theorem dX9_tornNow_1 : decode cX9_tornNow 1 = .ok (.istore_n 1, 1) := by decide +kernel
theorem dX9_tornNow_2 : decode cX9_tornNow 2 = .ok (.iload_n 1, 1) := by decide +kernel
theorem dX9_tornNow_3 : decode cX9_tornNow 3 = .ok (.bipush 40, 2) := by decide +kernel
theorem dX9_tornNow_5 : decode cX9_tornNow 5 = .ok (.if_icmp .ge 36, 3) := by decide +kernel
theorem dX9_tornNow_8 : decode cX9_tornNow 8 = .ok (.aload_n 0, 1) := by decide +kernel
theorem dX9_tornNow_9 : decode cX9_tornNow 9 = .ok (.aload_n 0, 1) := by decide +kernel
theorem dX9_tornNow_10 : decode cX9_tornNow 10 = .ok (.getfield 44, 3) := by decide +kernel
theorem dX9_tornNow_13 : decode cX9_tornNow 13 = .ok (.iconst 2, 1) := by decide +kernel
theorem dX9_tornNow_14 : decode cX9_tornNow 14 = .ok (.iload_n 1, 1) := by decide +kernel
theorem dX9_tornNow_15 : decode cX9_tornNow 15 = .ok (.imul, 1) := by decide +kernel
theorem dX9_tornNow_16 : decode cX9_tornNow 16 = .ok (.iaload, 1) := by decide +kernel
theorem dX9_tornNow_17 : decode cX9_tornNow 17 = .ok (.aload_n 0, 1) := by decide +kernel
theorem dX9_tornNow_18 : decode cX9_tornNow 18 = .ok (.getfield 44, 3) := by decide +kernel
theorem dX9_tornNow_21 : decode cX9_tornNow 21 = .ok (.iconst 2, 1) := by decide +kernel
theorem dX9_tornNow_22 : decode cX9_tornNow 22 = .ok (.iload_n 1, 1) := by decide +kernel
theorem dX9_tornNow_23 : decode cX9_tornNow 23 = .ok (.imul, 1) := by decide +kernel
theorem dX9_tornNow_24 : decode cX9_tornNow 24 = .ok (.iconst 1, 1) := by decide +kernel
theorem dX9_tornNow_25 : decode cX9_tornNow 25 = .ok (.iadd, 1) := by decide +kernel
theorem dX9_tornNow_26 : decode cX9_tornNow 26 = .ok (.iaload, 1) := by decide +kernel
theorem dX9_tornNow_27 : decode cX9_tornNow 27 = .ok (.invokevirtual 184, 3) := by decide +kernel
theorem dX9_tornNow_30 : decode cX9_tornNow 30 = .ok (.ifCond .eq 5, 3) := by decide +kernel
theorem dX9_tornNow_33 : decode cX9_tornNow 33 = .ok (.iload_n 1, 1) := by decide +kernel
theorem dX9_tornNow_34 : decode cX9_tornNow 34 = .ok (.ireturn, 1) := by decide +kernel
theorem dX9_tornNow_35 : decode cX9_tornNow 35 = .ok (.iinc 1 1, 3) := by decide +kernel
theorem dX9_tornNow_38 : decode cX9_tornNow 38 = .ok (.goto (-36), 3) := by decide +kernel
theorem dX9_tornNow_41 : decode cX9_tornNow 41 = .ok (.iconst (-1), 1) := by decide +kernel
theorem dX9_tornNow_42 : decode cX9_tornNow 42 = .ok (.ireturn, 1) := by decide +kernel
theorem dX9_torn_0 : decode cX9_torn 0 = .ok (.aload_n 0, 1) := by decide +kernel
theorem dX9_torn_1 : decode cX9_torn 1 = .ok (.invokevirtual 152, 3) := by decide +kernel
theorem dX9_torn_4 : decode cX9_torn 4 = .ok (.aload_n 0, 1) := by decide +kernel
theorem dX9_torn_5 : decode cX9_torn 5 = .ok (.invokevirtual 188, 3) := by decide +kernel
theorem dX9_torn_8 : decode cX9_torn 8 = .ok (.ireturn, 1) := by decide +kernel
theorem dX9_squeezedOff_0 : decode cX9_squeezedOff 0 = .ok (.iconst 0, 1) := by decide +kernel
theorem dX9_squeezedOff_1 : decode cX9_squeezedOff 1 = .ok (.istore_n 3, 1) := by decide +kernel
theorem dX9_squeezedOff_2 : decode cX9_squeezedOff 2 = .ok (.iload_n 3, 1) := by decide +kernel
theorem dX9_squeezedOff_3 : decode cX9_squeezedOff 3 = .ok (.aload_n 0, 1) := by decide +kernel
theorem dX9_squeezedOff_4 : decode cX9_squeezedOff 4 = .ok (.getfield 110, 3) := by decide +kernel
theorem dX9_squeezedOff_7 : decode cX9_squeezedOff 7 = .ok (.if_icmp .ge 59, 3) := by decide +kernel
theorem dX9_squeezedOff_10 : decode cX9_squeezedOff 10 = .ok (.aload_n 0, 1) := by decide +kernel
theorem dX9_squeezedOff_11 : decode cX9_squeezedOff 11 = .ok (.getfield 41, 3) := by decide +kernel
theorem dX9_squeezedOff_14 : decode cX9_squeezedOff 14 = .ok (.iconst 1, 1) := by decide +kernel
theorem dX9_squeezedOff_15 : decode cX9_squeezedOff 15 = .ok (.iaload, 1) := by decide +kernel
theorem dX9_squeezedOff_16 : decode cX9_squeezedOff 16 = .ok (.aload_n 0, 1) := by decide +kernel
theorem dX9_squeezedOff_17 : decode cX9_squeezedOff 17 = .ok (.getfield 28, 3) := by decide +kernel
theorem dX9_squeezedOff_20 : decode cX9_squeezedOff 20 = .ok (.iload_n 3, 1) := by decide +kernel
theorem dX9_squeezedOff_21 : decode cX9_squeezedOff 21 = .ok (.iaload, 1) := by decide +kernel
theorem dX9_squeezedOff_22 : decode cX9_squeezedOff 22 = .ok (.imul, 1) := by decide +kernel
theorem dX9_squeezedOff_23 : decode cX9_squeezedOff 23 = .ok (.aload_n 0, 1) := by decide +kernel
theorem dX9_squeezedOff_24 : decode cX9_squeezedOff 24 = .ok (.getfield 113, 3) := by decide +kernel
theorem dX9_squeezedOff_27 : decode cX9_squeezedOff 27 = .ok (.imul, 1) := by decide +kernel
theorem dX9_squeezedOff_28 : decode cX9_squeezedOff 28 = .ok (.istore 4, 2) := by decide +kernel
theorem dX9_squeezedOff_30 : decode cX9_squeezedOff 30 = .ok (.aload_n 0, 1) := by decide +kernel
theorem dX9_squeezedOff_31 : decode cX9_squeezedOff 31 = .ok (.iload_n 1, 1) := by decide +kernel
theorem dX9_squeezedOff_32 : decode cX9_squeezedOff 32 = .ok (.iload_n 2, 1) := by decide +kernel
theorem dX9_squeezedOff_33 : decode cX9_squeezedOff 33 = .ok (.iload_n 3, 1) := by decide +kernel
theorem dX9_squeezedOff_34 : decode cX9_squeezedOff 34 = .ok (.invokevirtual 167, 3) := by decide +kernel
theorem dX9_squeezedOff_37 : decode cX9_squeezedOff 37 = .ok (.ineg, 1) := by decide +kernel
theorem dX9_squeezedOff_38 : decode cX9_squeezedOff 38 = .ok (.iload 4, 2) := by decide +kernel
theorem dX9_squeezedOff_40 : decode cX9_squeezedOff 40 = .ok (.if_icmp .le 20, 3) := by decide +kernel
theorem dX9_squeezedOff_43 : decode cX9_squeezedOff 43 = .ok (.aload_n 0, 1) := by decide +kernel
theorem dX9_squeezedOff_44 : decode cX9_squeezedOff 44 = .ok (.iload_n 1, 1) := by decide +kernel
theorem dX9_squeezedOff_45 : decode cX9_squeezedOff 45 = .ok (.iload_n 2, 1) := by decide +kernel
theorem dX9_squeezedOff_46 : decode cX9_squeezedOff 46 = .ok (.iload_n 3, 1) := by decide +kernel
theorem dX9_squeezedOff_47 : decode cX9_squeezedOff 47 = .ok (.iconst 1, 1) := by decide +kernel
theorem dX9_squeezedOff_48 : decode cX9_squeezedOff 48 = .ok (.iadd, 1) := by decide +kernel
theorem dX9_squeezedOff_49 : decode cX9_squeezedOff 49 = .ok (.invokevirtual 167, 3) := by decide +kernel
theorem dX9_squeezedOff_52 : decode cX9_squeezedOff 52 = .ok (.ineg, 1) := by decide +kernel
theorem dX9_squeezedOff_53 : decode cX9_squeezedOff 53 = .ok (.iload 4, 2) := by decide +kernel
theorem dX9_squeezedOff_55 : decode cX9_squeezedOff 55 = .ok (.if_icmp .le 5, 3) := by decide +kernel
theorem dX9_squeezedOff_58 : decode cX9_squeezedOff 58 = .ok (.iload_n 3, 1) := by decide +kernel
theorem dX9_squeezedOff_59 : decode cX9_squeezedOff 59 = .ok (.ireturn, 1) := by decide +kernel
theorem dX9_squeezedOff_60 : decode cX9_squeezedOff 60 = .ok (.iinc 3 1, 3) := by decide +kernel
theorem dX9_squeezedOff_63 : decode cX9_squeezedOff 63 = .ok (.goto (-61), 3) := by decide +kernel
theorem dX9_squeezedOff_66 : decode cX9_squeezedOff 66 = .ok (.iconst (-1), 1) := by decide +kernel
theorem dX9_squeezedOff_67 : decode cX9_squeezedOff 67 = .ok (.ireturn, 1) := by decide +kernel
theorem dX9_offOf_0 : decode cX9_offOf 0 = .ok (.iconst 0, 1) := by decide +kernel
theorem dX9_offOf_1 : decode cX9_offOf 1 = .ok (.istore_n 2, 1) := by decide +kernel
theorem dX9_offOf_2 : decode cX9_offOf 2 = .ok (.iload_n 2, 1) := by decide +kernel
theorem dX9_offOf_3 : decode cX9_offOf 3 = .ok (.bipush 40, 2) := by decide +kernel
theorem dX9_offOf_5 : decode cX9_offOf 5 = .ok (.if_icmp .ge 74, 3) := by decide +kernel
theorem dX9_offOf_8 : decode cX9_offOf 8 = .ok (.aload_n 0, 1) := by decide +kernel
theorem dX9_offOf_9 : decode cX9_offOf 9 = .ok (.iload_n 2, 1) := by decide +kernel
theorem dX9_offOf_10 : decode cX9_offOf 10 = .ok (.invokevirtual 158, 3) := by decide +kernel
theorem dX9_offOf_13 : decode cX9_offOf 13 = .ok (.istore_n 3, 1) := by decide +kernel
theorem dX9_offOf_14 : decode cX9_offOf 14 = .ok (.iload_n 3, 1) := by decide +kernel
theorem dX9_offOf_15 : decode cX9_offOf 15 = .ok (.iconst (-1), 1) := by decide +kernel
theorem dX9_offOf_16 : decode cX9_offOf 16 = .ok (.if_icmp .eq 37, 3) := by decide +kernel
theorem dX9_offOf_19 : decode cX9_offOf 19 = .ok (.aload_n 0, 1) := by decide +kernel
theorem dX9_offOf_20 : decode cX9_offOf 20 = .ok (.getfield 34, 3) := by decide +kernel
theorem dX9_offOf_23 : decode cX9_offOf 23 = .ok (.iload_n 3, 1) := by decide +kernel
theorem dX9_offOf_24 : decode cX9_offOf 24 = .ok (.baload, 1) := by decide +kernel
theorem dX9_offOf_25 : decode cX9_offOf 25 = .ok (.ifCond .eq 28, 3) := by decide +kernel
theorem dX9_offOf_28 : decode cX9_offOf 28 = .ok (.aload_n 0, 1) := by decide +kernel
theorem dX9_offOf_29 : decode cX9_offOf 29 = .ok (.aload_n 0, 1) := by decide +kernel
theorem dX9_offOf_30 : decode cX9_offOf 30 = .ok (.getfield 44, 3) := by decide +kernel
theorem dX9_offOf_33 : decode cX9_offOf 33 = .ok (.iconst 2, 1) := by decide +kernel
theorem dX9_offOf_34 : decode cX9_offOf 34 = .ok (.iload_n 2, 1) := by decide +kernel
theorem dX9_offOf_35 : decode cX9_offOf 35 = .ok (.imul, 1) := by decide +kernel
theorem dX9_offOf_36 : decode cX9_offOf 36 = .ok (.iaload, 1) := by decide +kernel
theorem dX9_offOf_37 : decode cX9_offOf 37 = .ok (.aload_n 0, 1) := by decide +kernel
theorem dX9_offOf_38 : decode cX9_offOf 38 = .ok (.getfield 44, 3) := by decide +kernel
theorem dX9_offOf_41 : decode cX9_offOf 41 = .ok (.iconst 2, 1) := by decide +kernel
theorem dX9_offOf_42 : decode cX9_offOf 42 = .ok (.iload_n 2, 1) := by decide +kernel
theorem dX9_offOf_43 : decode cX9_offOf 43 = .ok (.imul, 1) := by decide +kernel
theorem dX9_offOf_44 : decode cX9_offOf 44 = .ok (.iconst 1, 1) := by decide +kernel
theorem dX9_offOf_45 : decode cX9_offOf 45 = .ok (.iadd, 1) := by decide +kernel
theorem dX9_offOf_46 : decode cX9_offOf 46 = .ok (.iaload, 1) := by decide +kernel
theorem dX9_offOf_47 : decode cX9_offOf 47 = .ok (.invokevirtual 191, 3) := by decide +kernel
theorem dX9_offOf_50 : decode cX9_offOf 50 = .ok (.goto 4, 3) := by decide +kernel
theorem dX9_offOf_53 : decode cX9_offOf 53 = .ok (.iconst (-1), 1) := by decide +kernel
theorem dX9_offOf_54 : decode cX9_offOf 54 = .ok (.istore 4, 2) := by decide +kernel
theorem dX9_offOf_56 : decode cX9_offOf 56 = .ok (.iload 4, 2) := by decide +kernel
theorem dX9_offOf_58 : decode cX9_offOf 58 = .ok (.iconst (-1), 1) := by decide +kernel
theorem dX9_offOf_59 : decode cX9_offOf 59 = .ok (.if_icmp .eq 14, 3) := by decide +kernel
theorem dX9_offOf_62 : decode cX9_offOf 62 = .ok (.iload_n 1, 1) := by decide +kernel
theorem dX9_offOf_63 : decode cX9_offOf 63 = .ok (.ifCond .ne 7, 3) := by decide +kernel
theorem dX9_offOf_66 : decode cX9_offOf 66 = .ok (.iload_n 2, 1) := by decide +kernel
theorem dX9_offOf_67 : decode cX9_offOf 67 = .ok (.goto 5, 3) := by decide +kernel
theorem dX9_offOf_70 : decode cX9_offOf 70 = .ok (.iload 4, 2) := by decide +kernel
theorem dX9_offOf_72 : decode cX9_offOf 72 = .ok (.ireturn, 1) := by decide +kernel
theorem dX9_offOf_73 : decode cX9_offOf 73 = .ok (.iinc 2 1, 3) := by decide +kernel
theorem dX9_offOf_76 : decode cX9_offOf 76 = .ok (.goto (-74), 3) := by decide +kernel
theorem dX9_offOf_79 : decode cX9_offOf 79 = .ok (.iconst (-1), 1) := by decide +kernel
theorem dX9_offOf_80 : decode cX9_offOf 80 = .ok (.ireturn, 1) := by decide +kernel
theorem dX9_off_0 : decode cX9_off 0 = .ok (.aload_n 0, 1) := by decide +kernel
theorem dX9_off_1 : decode cX9_off 1 = .ok (.invokevirtual 152, 3) := by decide +kernel
theorem dX9_off_4 : decode cX9_off 4 = .ok (.iload_n 1, 1) := by decide +kernel
theorem dX9_off_5 : decode cX9_off 5 = .ok (.invokestatic 105, 3) := by decide +kernel
theorem dX9_off_8 : decode cX9_off 8 = .ok (.ifCond .eq 11, 3) := by decide +kernel
theorem dX9_off_11 : decode cX9_off 11 = .ok (.aload_n 0, 1) := by decide +kernel
theorem dX9_off_12 : decode cX9_off 12 = .ok (.iload_n 1, 1) := by decide +kernel
theorem dX9_off_13 : decode cX9_off 13 = .ok (.invokevirtual 194, 3) := by decide +kernel
theorem dX9_off_16 : decode cX9_off 16 = .ok (.goto 5, 3) := by decide +kernel
theorem dX9_off_19 : decode cX9_off 19 = .ok (.bipush (-2), 2) := by decide +kernel
theorem dX9_off_21 : decode cX9_off 21 = .ok (.ireturn, 1) := by decide +kernel
theorem dX9_overNow_0 : decode cX9_overNow 0 = .ok (.iconst 0, 1) := by decide +kernel
theorem dX9_overNow_1 : decode cX9_overNow 1 = .ok (.istore_n 1, 1) := by decide +kernel
theorem dX9_overNow_2 : decode cX9_overNow 2 = .ok (.iload_n 1, 1) := by decide +kernel
theorem dX9_overNow_3 : decode cX9_overNow 3 = .ok (.bipush 40, 2) := by decide +kernel
theorem dX9_overNow_5 : decode cX9_overNow 5 = .ok (.if_icmp .ge 27, 3) := by decide +kernel
theorem dX9_overNow_8 : decode cX9_overNow 8 = .ok (.aload_n 0, 1) := by decide +kernel
theorem dX9_overNow_9 : decode cX9_overNow 9 = .ok (.getfield 118, 3) := by decide +kernel
theorem dX9_overNow_12 : decode cX9_overNow 12 = .ok (.ifCond .le 14, 3) := by decide +kernel
theorem dX9_overNow_15 : decode cX9_overNow 15 = .ok (.aload_n 0, 1) := by decide +kernel
theorem dX9_overNow_16 : decode cX9_overNow 16 = .ok (.iload_n 1, 1) := by decide +kernel
theorem dX9_overNow_17 : decode cX9_overNow 17 = .ok (.invokevirtual 158, 3) := by decide +kernel
theorem dX9_overNow_20 : decode cX9_overNow 20 = .ok (.iconst (-1), 1) := by decide +kernel
theorem dX9_overNow_21 : decode cX9_overNow 21 = .ok (.if_icmp .ne 5, 3) := by decide +kernel
theorem dX9_overNow_24 : decode cX9_overNow 24 = .ok (.iload_n 1, 1) := by decide +kernel
theorem dX9_overNow_25 : decode cX9_overNow 25 = .ok (.ireturn, 1) := by decide +kernel
theorem dX9_overNow_26 : decode cX9_overNow 26 = .ok (.iinc 1 1, 3) := by decide +kernel
theorem dX9_overNow_29 : decode cX9_overNow 29 = .ok (.goto (-27), 3) := by decide +kernel
theorem dX9_overNow_32 : decode cX9_overNow 32 = .ok (.iconst (-1), 1) := by decide +kernel
theorem dX9_overNow_33 : decode cX9_overNow 33 = .ok (.ireturn, 1) := by decide +kernel
theorem dX9_over_0 : decode cX9_over 0 = .ok (.aload_n 0, 1) := by decide +kernel
theorem dX9_over_1 : decode cX9_over 1 = .ok (.invokevirtual 152, 3) := by decide +kernel
theorem dX9_over_4 : decode cX9_over 4 = .ok (.aload_n 0, 1) := by decide +kernel
theorem dX9_over_5 : decode cX9_over 5 = .ok (.invokevirtual 197, 3) := by decide +kernel
theorem dX9_over_8 : decode cX9_over 8 = .ok (.ireturn, 1) := by decide +kernel
theorem dX9_isAlike_0 : decode cX9_isAlike 0 = .ok (.aload_n 0, 1) := by decide +kernel
theorem dX9_isAlike_1 : decode cX9_isAlike 1 = .ok (.getfield 44, 3) := by decide +kernel
theorem dX9_isAlike_4 : decode cX9_isAlike 4 = .ok (.iconst 2, 1) := by decide +kernel
theorem dX9_isAlike_5 : decode cX9_isAlike 5 = .ok (.iload_n 1, 1) := by decide +kernel
theorem dX9_isAlike_6 : decode cX9_isAlike 6 = .ok (.imul, 1) := by decide +kernel
theorem dX9_isAlike_7 : decode cX9_isAlike 7 = .ok (.iaload, 1) := by decide +kernel
theorem dX9_isAlike_8 : decode cX9_isAlike 8 = .ok (.aload_n 0, 1) := by decide +kernel
theorem dX9_isAlike_9 : decode cX9_isAlike 9 = .ok (.getfield 44, 3) := by decide +kernel
theorem dX9_isAlike_12 : decode cX9_isAlike 12 = .ok (.iconst 2, 1) := by decide +kernel
theorem dX9_isAlike_13 : decode cX9_isAlike 13 = .ok (.iload_n 2, 1) := by decide +kernel
theorem dX9_isAlike_14 : decode cX9_isAlike 14 = .ok (.imul, 1) := by decide +kernel
theorem dX9_isAlike_15 : decode cX9_isAlike 15 = .ok (.iaload, 1) := by decide +kernel
theorem dX9_isAlike_16 : decode cX9_isAlike 16 = .ok (.if_icmp .ne 30, 3) := by decide +kernel
theorem dX9_isAlike_19 : decode cX9_isAlike 19 = .ok (.aload_n 0, 1) := by decide +kernel
theorem dX9_isAlike_20 : decode cX9_isAlike 20 = .ok (.getfield 44, 3) := by decide +kernel
theorem dX9_isAlike_23 : decode cX9_isAlike 23 = .ok (.iconst 2, 1) := by decide +kernel
theorem dX9_isAlike_24 : decode cX9_isAlike 24 = .ok (.iload_n 1, 1) := by decide +kernel
theorem dX9_isAlike_25 : decode cX9_isAlike 25 = .ok (.imul, 1) := by decide +kernel
theorem dX9_isAlike_26 : decode cX9_isAlike 26 = .ok (.iconst 1, 1) := by decide +kernel
theorem dX9_isAlike_27 : decode cX9_isAlike 27 = .ok (.iadd, 1) := by decide +kernel
theorem dX9_isAlike_28 : decode cX9_isAlike 28 = .ok (.iaload, 1) := by decide +kernel
theorem dX9_isAlike_29 : decode cX9_isAlike 29 = .ok (.aload_n 0, 1) := by decide +kernel
theorem dX9_isAlike_30 : decode cX9_isAlike 30 = .ok (.getfield 44, 3) := by decide +kernel
theorem dX9_isAlike_33 : decode cX9_isAlike 33 = .ok (.iconst 2, 1) := by decide +kernel
theorem dX9_isAlike_34 : decode cX9_isAlike 34 = .ok (.iload_n 2, 1) := by decide +kernel
theorem dX9_isAlike_35 : decode cX9_isAlike 35 = .ok (.imul, 1) := by decide +kernel
theorem dX9_isAlike_36 : decode cX9_isAlike 36 = .ok (.iconst 1, 1) := by decide +kernel
theorem dX9_isAlike_37 : decode cX9_isAlike 37 = .ok (.iadd, 1) := by decide +kernel
theorem dX9_isAlike_38 : decode cX9_isAlike 38 = .ok (.iaload, 1) := by decide +kernel
theorem dX9_isAlike_39 : decode cX9_isAlike 39 = .ok (.if_icmp .ne 7, 3) := by decide +kernel
theorem dX9_isAlike_42 : decode cX9_isAlike 42 = .ok (.iconst 1, 1) := by decide +kernel
theorem dX9_isAlike_43 : decode cX9_isAlike 43 = .ok (.goto 4, 3) := by decide +kernel
theorem dX9_isAlike_46 : decode cX9_isAlike 46 = .ok (.iconst 0, 1) := by decide +kernel
theorem dX9_isAlike_47 : decode cX9_isAlike 47 = .ok (.ireturn, 1) := by decide +kernel
theorem dX9_settlesNow_0 : decode cX9_settlesNow 0 = .ok (.iconst (-1), 1) := by decide +kernel
theorem dX9_settlesNow_1 : decode cX9_settlesNow 1 = .ok (.istore_n 1, 1) := by decide +kernel
theorem dX9_settlesNow_2 : decode cX9_settlesNow 2 = .ok (.iconst 1, 1) := by decide +kernel
theorem dX9_settlesNow_3 : decode cX9_settlesNow 3 = .ok (.istore_n 2, 1) := by decide +kernel
theorem dX9_settlesNow_4 : decode cX9_settlesNow 4 = .ok (.bipush 38, 2) := by decide +kernel
theorem dX9_settlesNow_6 : decode cX9_settlesNow 6 = .ok (.istore_n 3, 1) := by decide +kernel
theorem dX9_settlesNow_7 : decode cX9_settlesNow 7 = .ok (.iload_n 3, 1) := by decide +kernel
theorem dX9_settlesNow_8 : decode cX9_settlesNow 8 = .ok (.ifCond .lt 40, 3) := by decide +kernel
theorem dX9_settlesNow_11 : decode cX9_settlesNow 11 = .ok (.iload_n 2, 1) := by decide +kernel
theorem dX9_settlesNow_12 : decode cX9_settlesNow 12 = .ok (.ifCond .eq 18, 3) := by decide +kernel
theorem dX9_settlesNow_15 : decode cX9_settlesNow 15 = .ok (.aload_n 0, 1) := by decide +kernel
theorem dX9_settlesNow_16 : decode cX9_settlesNow 16 = .ok (.iload_n 3, 1) := by decide +kernel
theorem dX9_settlesNow_17 : decode cX9_settlesNow 17 = .ok (.iload_n 3, 1) := by decide +kernel
theorem dX9_settlesNow_18 : decode cX9_settlesNow 18 = .ok (.iconst 1, 1) := by decide +kernel
theorem dX9_settlesNow_19 : decode cX9_settlesNow 19 = .ok (.iadd, 1) := by decide +kernel
theorem dX9_settlesNow_20 : decode cX9_settlesNow 20 = .ok (.invokevirtual 200, 3) := by decide +kernel
theorem dX9_settlesNow_23 : decode cX9_settlesNow 23 = .ok (.ifCond .eq 7, 3) := by decide +kernel
theorem dX9_settlesNow_26 : decode cX9_settlesNow 26 = .ok (.iconst 1, 1) := by decide +kernel
theorem dX9_settlesNow_27 : decode cX9_settlesNow 27 = .ok (.goto 4, 3) := by decide +kernel
theorem dX9_settlesNow_30 : decode cX9_settlesNow 30 = .ok (.iconst 0, 1) := by decide +kernel
theorem dX9_settlesNow_31 : decode cX9_settlesNow 31 = .ok (.istore_n 2, 1) := by decide +kernel
theorem dX9_settlesNow_32 : decode cX9_settlesNow 32 = .ok (.iload_n 2, 1) := by decide +kernel
theorem dX9_settlesNow_33 : decode cX9_settlesNow 33 = .ok (.ifCond .eq 7, 3) := by decide +kernel
theorem dX9_settlesNow_36 : decode cX9_settlesNow 36 = .ok (.iload_n 3, 1) := by decide +kernel
theorem dX9_settlesNow_37 : decode cX9_settlesNow 37 = .ok (.goto 4, 3) := by decide +kernel
theorem dX9_settlesNow_40 : decode cX9_settlesNow 40 = .ok (.iload_n 1, 1) := by decide +kernel
theorem dX9_settlesNow_41 : decode cX9_settlesNow 41 = .ok (.istore_n 1, 1) := by decide +kernel
theorem dX9_settlesNow_42 : decode cX9_settlesNow 42 = .ok (.iinc 3 (-1), 3) := by decide +kernel
theorem dX9_settlesNow_45 : decode cX9_settlesNow 45 = .ok (.goto (-38), 3) := by decide +kernel
theorem dX9_settlesNow_48 : decode cX9_settlesNow 48 = .ok (.iload_n 1, 1) := by decide +kernel
theorem dX9_settlesNow_49 : decode cX9_settlesNow 49 = .ok (.ireturn, 1) := by decide +kernel
theorem dX9_settles_0 : decode cX9_settles 0 = .ok (.aload_n 0, 1) := by decide +kernel
theorem dX9_settles_1 : decode cX9_settles 1 = .ok (.invokevirtual 152, 3) := by decide +kernel
theorem dX9_settles_4 : decode cX9_settles 4 = .ok (.aload_n 0, 1) := by decide +kernel
theorem dX9_settles_5 : decode cX9_settles 5 = .ok (.invokevirtual 203, 3) := by decide +kernel
theorem dX9_settles_8 : decode cX9_settles 8 = .ok (.ireturn, 1) := by decide +kernel
theorem dX9_swingsNow_0 : decode cX9_swingsNow 0 = .ok (.iconst 1, 1) := by decide +kernel
theorem dX9_swingsNow_1 : decode cX9_swingsNow 1 = .ok (.istore_n 1, 1) := by decide +kernel
theorem dX9_swingsNow_2 : decode cX9_swingsNow 2 = .ok (.iload_n 1, 1) := by decide +kernel
theorem dX9_swingsNow_3 : decode cX9_swingsNow 3 = .ok (.bipush 13, 2) := by decide +kernel
theorem dX9_swingsNow_5 : decode cX9_swingsNow 5 = .ok (.if_icmp .ge 55, 3) := by decide +kernel
theorem dX9_swingsNow_8 : decode cX9_swingsNow 8 = .ok (.iconst 1, 1) := by decide +kernel
theorem dX9_swingsNow_9 : decode cX9_swingsNow 9 = .ok (.istore_n 2, 1) := by decide +kernel
theorem dX9_swingsNow_10 : decode cX9_swingsNow 10 = .ok (.bipush 20, 2) := by decide +kernel
theorem dX9_swingsNow_12 : decode cX9_swingsNow 12 = .ok (.istore_n 3, 1) := by decide +kernel
theorem dX9_swingsNow_13 : decode cX9_swingsNow 13 = .ok (.iload_n 3, 1) := by decide +kernel
theorem dX9_swingsNow_14 : decode cX9_swingsNow 14 = .ok (.iload_n 1, 1) := by decide +kernel
theorem dX9_swingsNow_15 : decode cX9_swingsNow 15 = .ok (.iadd, 1) := by decide +kernel
theorem dX9_swingsNow_16 : decode cX9_swingsNow 16 = .ok (.bipush 40, 2) := by decide +kernel
theorem dX9_swingsNow_18 : decode cX9_swingsNow 18 = .ok (.if_icmp .ge 30, 3) := by decide +kernel
theorem dX9_swingsNow_21 : decode cX9_swingsNow 21 = .ok (.iload_n 2, 1) := by decide +kernel
theorem dX9_swingsNow_22 : decode cX9_swingsNow 22 = .ok (.ifCond .eq 18, 3) := by decide +kernel
theorem dX9_swingsNow_25 : decode cX9_swingsNow 25 = .ok (.aload_n 0, 1) := by decide +kernel
theorem dX9_swingsNow_26 : decode cX9_swingsNow 26 = .ok (.iload_n 3, 1) := by decide +kernel
theorem dX9_swingsNow_27 : decode cX9_swingsNow 27 = .ok (.iload_n 3, 1) := by decide +kernel
theorem dX9_swingsNow_28 : decode cX9_swingsNow 28 = .ok (.iload_n 1, 1) := by decide +kernel
theorem dX9_swingsNow_29 : decode cX9_swingsNow 29 = .ok (.iadd, 1) := by decide +kernel
theorem dX9_swingsNow_30 : decode cX9_swingsNow 30 = .ok (.invokevirtual 200, 3) := by decide +kernel
theorem dX9_swingsNow_33 : decode cX9_swingsNow 33 = .ok (.ifCond .eq 7, 3) := by decide +kernel
theorem dX9_swingsNow_36 : decode cX9_swingsNow 36 = .ok (.iconst 1, 1) := by decide +kernel
theorem dX9_swingsNow_37 : decode cX9_swingsNow 37 = .ok (.goto 4, 3) := by decide +kernel
theorem dX9_swingsNow_40 : decode cX9_swingsNow 40 = .ok (.iconst 0, 1) := by decide +kernel
theorem dX9_swingsNow_41 : decode cX9_swingsNow 41 = .ok (.istore_n 2, 1) := by decide +kernel
theorem dX9_swingsNow_42 : decode cX9_swingsNow 42 = .ok (.iinc 3 1, 3) := by decide +kernel
theorem dX9_swingsNow_45 : decode cX9_swingsNow 45 = .ok (.goto (-32), 3) := by decide +kernel
theorem dX9_swingsNow_48 : decode cX9_swingsNow 48 = .ok (.iload_n 2, 1) := by decide +kernel
theorem dX9_swingsNow_49 : decode cX9_swingsNow 49 = .ok (.ifCond .eq 5, 3) := by decide +kernel
theorem dX9_swingsNow_52 : decode cX9_swingsNow 52 = .ok (.iload_n 1, 1) := by decide +kernel
theorem dX9_swingsNow_53 : decode cX9_swingsNow 53 = .ok (.ireturn, 1) := by decide +kernel
theorem dX9_swingsNow_54 : decode cX9_swingsNow 54 = .ok (.iinc 1 1, 3) := by decide +kernel
theorem dX9_swingsNow_57 : decode cX9_swingsNow 57 = .ok (.goto (-55), 3) := by decide +kernel
theorem dX9_swingsNow_60 : decode cX9_swingsNow 60 = .ok (.iconst (-1), 1) := by decide +kernel
theorem dX9_swingsNow_61 : decode cX9_swingsNow 61 = .ok (.ireturn, 1) := by decide +kernel
theorem dX9_swings_0 : decode cX9_swings 0 = .ok (.aload_n 0, 1) := by decide +kernel
theorem dX9_swings_1 : decode cX9_swings 1 = .ok (.invokevirtual 152, 3) := by decide +kernel
theorem dX9_swings_4 : decode cX9_swings 4 = .ok (.aload_n 0, 1) := by decide +kernel
theorem dX9_swings_5 : decode cX9_swings 5 = .ok (.invokevirtual 206, 3) := by decide +kernel
theorem dX9_swings_8 : decode cX9_swings 8 = .ok (.ireturn, 1) := by decide +kernel
theorem dX9_doesOf_0 : decode cX9_doesOf 0 = .ok (.iconst 0, 1) := by decide +kernel
theorem dX9_doesOf_1 : decode cX9_doesOf 1 = .ok (.istore_n 2, 1) := by decide +kernel
theorem dX9_doesOf_2 : decode cX9_doesOf 2 = .ok (.iconst 0, 1) := by decide +kernel
theorem dX9_doesOf_3 : decode cX9_doesOf 3 = .ok (.istore_n 3, 1) := by decide +kernel
theorem dX9_doesOf_4 : decode cX9_doesOf 4 = .ok (.iconst 0, 1) := by decide +kernel
theorem dX9_doesOf_5 : decode cX9_doesOf 5 = .ok (.istore 4, 2) := by decide +kernel
theorem dX9_doesOf_7 : decode cX9_doesOf 7 = .ok (.iload 4, 2) := by decide +kernel
theorem dX9_doesOf_9 : decode cX9_doesOf 9 = .ok (.bipush 40, 2) := by decide +kernel
theorem dX9_doesOf_11 : decode cX9_doesOf 11 = .ok (.if_icmp .ge 45, 3) := by decide +kernel
theorem dX9_doesOf_14 : decode cX9_doesOf 14 = .ok (.iload_n 2, 1) := by decide +kernel
theorem dX9_doesOf_15 : decode cX9_doesOf 15 = .ok (.aload_n 0, 1) := by decide +kernel
theorem dX9_doesOf_16 : decode cX9_doesOf 16 = .ok (.getfield 44, 3) := by decide +kernel
theorem dX9_doesOf_19 : decode cX9_doesOf 19 = .ok (.iconst 2, 1) := by decide +kernel
theorem dX9_doesOf_20 : decode cX9_doesOf 20 = .ok (.iload 4, 2) := by decide +kernel
theorem dX9_doesOf_22 : decode cX9_doesOf 22 = .ok (.imul, 1) := by decide +kernel
theorem dX9_doesOf_23 : decode cX9_doesOf 23 = .ok (.iaload, 1) := by decide +kernel
theorem dX9_doesOf_24 : decode cX9_doesOf 24 = .ok (.iadd, 1) := by decide +kernel
theorem dX9_doesOf_25 : decode cX9_doesOf 25 = .ok (.istore_n 2, 1) := by decide +kernel
theorem dX9_doesOf_26 : decode cX9_doesOf 26 = .ok (.iload_n 3, 1) := by decide +kernel
theorem dX9_doesOf_27 : decode cX9_doesOf 27 = .ok (.aload_n 0, 1) := by decide +kernel
theorem dX9_doesOf_28 : decode cX9_doesOf 28 = .ok (.getfield 44, 3) := by decide +kernel
theorem dX9_doesOf_31 : decode cX9_doesOf 31 = .ok (.iconst 2, 1) := by decide +kernel
theorem dX9_doesOf_32 : decode cX9_doesOf 32 = .ok (.iload 4, 2) := by decide +kernel
theorem dX9_doesOf_34 : decode cX9_doesOf 34 = .ok (.imul, 1) := by decide +kernel
theorem dX9_doesOf_35 : decode cX9_doesOf 35 = .ok (.iaload, 1) := by decide +kernel
theorem dX9_doesOf_36 : decode cX9_doesOf 36 = .ok (.aload_n 0, 1) := by decide +kernel
theorem dX9_doesOf_37 : decode cX9_doesOf 37 = .ok (.getfield 44, 3) := by decide +kernel
theorem dX9_doesOf_40 : decode cX9_doesOf 40 = .ok (.iconst 2, 1) := by decide +kernel
theorem dX9_doesOf_41 : decode cX9_doesOf 41 = .ok (.iload 4, 2) := by decide +kernel
theorem dX9_doesOf_43 : decode cX9_doesOf 43 = .ok (.imul, 1) := by decide +kernel
theorem dX9_doesOf_44 : decode cX9_doesOf 44 = .ok (.iconst 1, 1) := by decide +kernel
theorem dX9_doesOf_45 : decode cX9_doesOf 45 = .ok (.iadd, 1) := by decide +kernel
theorem dX9_doesOf_46 : decode cX9_doesOf 46 = .ok (.iaload, 1) := by decide +kernel
theorem dX9_doesOf_47 : decode cX9_doesOf 47 = .ok (.iadd, 1) := by decide +kernel
theorem dX9_doesOf_48 : decode cX9_doesOf 48 = .ok (.iadd, 1) := by decide +kernel
theorem dX9_doesOf_49 : decode cX9_doesOf 49 = .ok (.istore_n 3, 1) := by decide +kernel
theorem dX9_doesOf_50 : decode cX9_doesOf 50 = .ok (.iinc 4 1, 3) := by decide +kernel
theorem dX9_doesOf_53 : decode cX9_doesOf 53 = .ok (.goto (-46), 3) := by decide +kernel
theorem dX9_doesOf_56 : decode cX9_doesOf 56 = .ok (.iload_n 3, 1) := by decide +kernel
theorem dX9_doesOf_57 : decode cX9_doesOf 57 = .ok (.ifCond .ne 12, 3) := by decide +kernel
theorem dX9_doesOf_60 : decode cX9_doesOf 60 = .ok (.lconst 0, 1) := by decide +kernel
theorem dX9_doesOf_61 : decode cX9_doesOf 61 = .ok (.lconst 1, 1) := by decide +kernel
theorem dX9_doesOf_62 : decode cX9_doesOf 62 = .ok (.iload_n 1, 1) := by decide +kernel
theorem dX9_doesOf_63 : decode cX9_doesOf 63 = .ok (.invokestatic 177, 3) := by decide +kernel
theorem dX9_doesOf_66 : decode cX9_doesOf 66 = .ok (.goto 11, 3) := by decide +kernel
theorem dX9_doesOf_69 : decode cX9_doesOf 69 = .ok (.iload_n 2, 1) := by decide +kernel
theorem dX9_doesOf_70 : decode cX9_doesOf 70 = .ok (.i2l, 1) := by decide +kernel
theorem dX9_doesOf_71 : decode cX9_doesOf 71 = .ok (.iload_n 3, 1) := by decide +kernel
theorem dX9_doesOf_72 : decode cX9_doesOf 72 = .ok (.i2l, 1) := by decide +kernel
theorem dX9_doesOf_73 : decode cX9_doesOf 73 = .ok (.iload_n 1, 1) := by decide +kernel
theorem dX9_doesOf_74 : decode cX9_doesOf 74 = .ok (.invokestatic 177, 3) := by decide +kernel
theorem dX9_doesOf_77 : decode cX9_doesOf 77 = .ok (.l2i, 1) := by decide +kernel
theorem dX9_doesOf_78 : decode cX9_doesOf 78 = .ok (.ireturn, 1) := by decide +kernel
theorem dX9_does_0 : decode cX9_does 0 = .ok (.aload_n 0, 1) := by decide +kernel
theorem dX9_does_1 : decode cX9_does 1 = .ok (.invokevirtual 152, 3) := by decide +kernel
theorem dX9_does_4 : decode cX9_does 4 = .ok (.iload_n 1, 1) := by decide +kernel
theorem dX9_does_5 : decode cX9_does 5 = .ok (.invokestatic 105, 3) := by decide +kernel
theorem dX9_does_8 : decode cX9_does 8 = .ok (.ifCond .eq 11, 3) := by decide +kernel
theorem dX9_does_11 : decode cX9_does 11 = .ok (.aload_n 0, 1) := by decide +kernel
theorem dX9_does_12 : decode cX9_does 12 = .ok (.iload_n 1, 1) := by decide +kernel
theorem dX9_does_13 : decode cX9_does 13 = .ok (.invokevirtual 209, 3) := by decide +kernel
theorem dX9_does_16 : decode cX9_does 16 = .ok (.goto 5, 3) := by decide +kernel
theorem dX9_does_19 : decode cX9_does 19 = .ok (.bipush (-2), 2) := by decide +kernel
theorem dX9_does_21 : decode cX9_does 21 = .ok (.ireturn, 1) := by decide +kernel
theorem dX9_startOf_0 : decode cX9_startOf 0 = .ok (.iload_n 1, 1) := by decide +kernel
theorem dX9_startOf_1 : decode cX9_startOf 1 = .ok (.iload_n 2, 1) := by decide +kernel
theorem dX9_startOf_2 : decode cX9_startOf 2 = .ok (.if_icmp .ge 19, 3) := by decide +kernel
theorem dX9_startOf_5 : decode cX9_startOf 5 = .ok (.aload_n 0, 1) := by decide +kernel
theorem dX9_startOf_6 : decode cX9_startOf 6 = .ok (.getfield 38, 3) := by decide +kernel
theorem dX9_startOf_9 : decode cX9_startOf 9 = .ok (.iconst 0, 1) := by decide +kernel
theorem dX9_startOf_10 : decode cX9_startOf 10 = .ok (.iaload, 1) := by decide +kernel
theorem dX9_startOf_11 : decode cX9_startOf 11 = .ok (.bipush 10, 2) := by decide +kernel
theorem dX9_startOf_13 : decode cX9_startOf 13 = .ok (.iload_n 2, 1) := by decide +kernel
theorem dX9_startOf_14 : decode cX9_startOf 14 = .ok (.iload_n 1, 1) := by decide +kernel
theorem dX9_startOf_15 : decode cX9_startOf 15 = .ok (.isub, 1) := by decide +kernel
theorem dX9_startOf_16 : decode cX9_startOf 16 = .ok (.imul, 1) := by decide +kernel
theorem dX9_startOf_17 : decode cX9_startOf 17 = .ok (.iadd, 1) := by decide +kernel
theorem dX9_startOf_18 : decode cX9_startOf 18 = .ok (.goto 18, 3) := by decide +kernel
theorem dX9_startOf_21 : decode cX9_startOf 21 = .ok (.iload_n 1, 1) := by decide +kernel
theorem dX9_startOf_22 : decode cX9_startOf 22 = .ok (.iload_n 2, 1) := by decide +kernel
theorem dX9_startOf_23 : decode cX9_startOf 23 = .ok (.if_icmp .ne 12, 3) := by decide +kernel
theorem dX9_startOf_26 : decode cX9_startOf 26 = .ok (.aload_n 0, 1) := by decide +kernel
theorem dX9_startOf_27 : decode cX9_startOf 27 = .ok (.getfield 38, 3) := by decide +kernel
theorem dX9_startOf_30 : decode cX9_startOf 30 = .ok (.iconst 0, 1) := by decide +kernel
theorem dX9_startOf_31 : decode cX9_startOf 31 = .ok (.iaload, 1) := by decide +kernel
theorem dX9_startOf_32 : decode cX9_startOf 32 = .ok (.goto 4, 3) := by decide +kernel
theorem dX9_startOf_35 : decode cX9_startOf 35 = .ok (.iconst 0, 1) := by decide +kernel
theorem dX9_startOf_36 : decode cX9_startOf 36 = .ok (.istore_n 3, 1) := by decide +kernel
theorem dX9_startOf_37 : decode cX9_startOf 37 = .ok (.iload_n 2, 1) := by decide +kernel
theorem dX9_startOf_38 : decode cX9_startOf 38 = .ok (.iload_n 1, 1) := by decide +kernel
theorem dX9_startOf_39 : decode cX9_startOf 39 = .ok (.if_icmp .ge 19, 3) := by decide +kernel
theorem dX9_startOf_42 : decode cX9_startOf 42 = .ok (.aload_n 0, 1) := by decide +kernel
theorem dX9_startOf_43 : decode cX9_startOf 43 = .ok (.getfield 38, 3) := by decide +kernel
theorem dX9_startOf_46 : decode cX9_startOf 46 = .ok (.iconst 3, 1) := by decide +kernel
theorem dX9_startOf_47 : decode cX9_startOf 47 = .ok (.iaload, 1) := by decide +kernel
theorem dX9_startOf_48 : decode cX9_startOf 48 = .ok (.bipush 10, 2) := by decide +kernel
theorem dX9_startOf_50 : decode cX9_startOf 50 = .ok (.iload_n 1, 1) := by decide +kernel
theorem dX9_startOf_51 : decode cX9_startOf 51 = .ok (.iload_n 2, 1) := by decide +kernel
theorem dX9_startOf_52 : decode cX9_startOf 52 = .ok (.isub, 1) := by decide +kernel
theorem dX9_startOf_53 : decode cX9_startOf 53 = .ok (.imul, 1) := by decide +kernel
theorem dX9_startOf_54 : decode cX9_startOf 54 = .ok (.iadd, 1) := by decide +kernel
theorem dX9_startOf_55 : decode cX9_startOf 55 = .ok (.goto 18, 3) := by decide +kernel
theorem dX9_startOf_58 : decode cX9_startOf 58 = .ok (.iload_n 1, 1) := by decide +kernel
theorem dX9_startOf_59 : decode cX9_startOf 59 = .ok (.iload_n 2, 1) := by decide +kernel
theorem dX9_startOf_60 : decode cX9_startOf 60 = .ok (.if_icmp .ne 12, 3) := by decide +kernel
theorem dX9_startOf_63 : decode cX9_startOf 63 = .ok (.aload_n 0, 1) := by decide +kernel
theorem dX9_startOf_64 : decode cX9_startOf 64 = .ok (.getfield 38, 3) := by decide +kernel
theorem dX9_startOf_67 : decode cX9_startOf 67 = .ok (.iconst 3, 1) := by decide +kernel
theorem dX9_startOf_68 : decode cX9_startOf 68 = .ok (.iaload, 1) := by decide +kernel
theorem dX9_startOf_69 : decode cX9_startOf 69 = .ok (.goto 4, 3) := by decide +kernel
theorem dX9_startOf_72 : decode cX9_startOf 72 = .ok (.iconst 0, 1) := by decide +kernel
theorem dX9_startOf_73 : decode cX9_startOf 73 = .ok (.istore 4, 2) := by decide +kernel
theorem dX9_startOf_75 : decode cX9_startOf 75 = .ok (.aload_n 0, 1) := by decide +kernel
theorem dX9_startOf_76 : decode cX9_startOf 76 = .ok (.iload_n 3, 1) := by decide +kernel
theorem dX9_startOf_77 : decode cX9_startOf 77 = .ok (.iload 4, 2) := by decide +kernel
theorem dX9_startOf_79 : decode cX9_startOf 79 = .ok (.invokevirtual 184, 3) := by decide +kernel
theorem dX9_startOf_82 : decode cX9_startOf 82 = .ok (.ifCond .eq 7, 3) := by decide +kernel
theorem dX9_startOf_85 : decode cX9_startOf 85 = .ok (.iconst 1, 1) := by decide +kernel
theorem dX9_startOf_86 : decode cX9_startOf 86 = .ok (.goto 19, 3) := by decide +kernel
theorem dX9_startOf_89 : decode cX9_startOf 89 = .ok (.aload_n 0, 1) := by decide +kernel
theorem dX9_startOf_90 : decode cX9_startOf 90 = .ok (.iload_n 3, 1) := by decide +kernel
theorem dX9_startOf_91 : decode cX9_startOf 91 = .ok (.iload 4, 2) := by decide +kernel
theorem dX9_startOf_93 : decode cX9_startOf 93 = .ok (.invokevirtual 191, 3) := by decide +kernel
theorem dX9_startOf_96 : decode cX9_startOf 96 = .ok (.iconst (-1), 1) := by decide +kernel
theorem dX9_startOf_97 : decode cX9_startOf 97 = .ok (.if_icmp .eq 7, 3) := by decide +kernel
theorem dX9_startOf_100 : decode cX9_startOf 100 = .ok (.iconst 2, 1) := by decide +kernel
theorem dX9_startOf_101 : decode cX9_startOf 101 = .ok (.goto 4, 3) := by decide +kernel
theorem dX9_startOf_104 : decode cX9_startOf 104 = .ok (.iconst 0, 1) := by decide +kernel
theorem dX9_startOf_105 : decode cX9_startOf 105 = .ok (.ireturn, 1) := by decide +kernel
theorem dX9_start_0 : decode cX9_start 0 = .ok (.aload_n 0, 1) := by decide +kernel
theorem dX9_start_1 : decode cX9_start 1 = .ok (.invokevirtual 128, 3) := by decide +kernel
theorem dX9_start_4 : decode cX9_start 4 = .ok (.iload_n 1, 1) := by decide +kernel
theorem dX9_start_5 : decode cX9_start 5 = .ok (.i2l, 1) := by decide +kernel
theorem dX9_start_6 : decode cX9_start 6 = .ok (.lconst 0, 1) := by decide +kernel
theorem dX9_start_7 : decode cX9_start 7 = .ok (.ldc2_w 116, 3) := by decide +kernel
theorem dX9_start_10 : decode cX9_start 10 = .ok (.invokestatic 73, 3) := by decide +kernel
theorem dX9_start_13 : decode cX9_start 13 = .ok (.ifCond .eq 24, 3) := by decide +kernel
theorem dX9_start_16 : decode cX9_start 16 = .ok (.iload_n 2, 1) := by decide +kernel
theorem dX9_start_17 : decode cX9_start 17 = .ok (.i2l, 1) := by decide +kernel
theorem dX9_start_18 : decode cX9_start 18 = .ok (.lconst 0, 1) := by decide +kernel
theorem dX9_start_19 : decode cX9_start 19 = .ok (.ldc2_w 116, 3) := by decide +kernel
theorem dX9_start_22 : decode cX9_start 22 = .ok (.invokestatic 73, 3) := by decide +kernel
theorem dX9_start_25 : decode cX9_start 25 = .ok (.ifCond .eq 12, 3) := by decide +kernel
theorem dX9_start_28 : decode cX9_start 28 = .ok (.aload_n 0, 1) := by decide +kernel
theorem dX9_start_29 : decode cX9_start 29 = .ok (.iload_n 1, 1) := by decide +kernel
theorem dX9_start_30 : decode cX9_start 30 = .ok (.iload_n 2, 1) := by decide +kernel
theorem dX9_start_31 : decode cX9_start 31 = .ok (.invokevirtual 212, 3) := by decide +kernel
theorem dX9_start_34 : decode cX9_start 34 = .ok (.goto 5, 3) := by decide +kernel
theorem dX9_start_37 : decode cX9_start 37 = .ok (.bipush (-2), 2) := by decide +kernel
theorem dX9_start_39 : decode cX9_start 39 = .ok (.ireturn, 1) := by decide +kernel
theorem dX9_safeOf_0 : decode cX9_safeOf 0 = .ok (.iconst 0, 1) := by decide +kernel
theorem dX9_safeOf_1 : decode cX9_safeOf 1 = .ok (.istore_n 2, 1) := by decide +kernel
theorem dX9_safeOf_2 : decode cX9_safeOf 2 = .ok (.iconst (-1), 1) := by decide +kernel
theorem dX9_safeOf_3 : decode cX9_safeOf 3 = .ok (.istore_n 3, 1) := by decide +kernel
theorem dX9_safeOf_4 : decode cX9_safeOf 4 = .ok (.bipush 99, 2) := by decide +kernel
theorem dX9_safeOf_6 : decode cX9_safeOf 6 = .ok (.istore 4, 2) := by decide +kernel
theorem dX9_safeOf_8 : decode cX9_safeOf 8 = .ok (.iload 4, 2) := by decide +kernel
theorem dX9_safeOf_10 : decode cX9_safeOf 10 = .ok (.ifCond .lt 58, 3) := by decide +kernel
theorem dX9_safeOf_13 : decode cX9_safeOf 13 = .ok (.aload_n 0, 1) := by decide +kernel
theorem dX9_safeOf_14 : decode cX9_safeOf 14 = .ok (.iload 4, 2) := by decide +kernel
theorem dX9_safeOf_16 : decode cX9_safeOf 16 = .ok (.bipush 10, 2) := by decide +kernel
theorem dX9_safeOf_18 : decode cX9_safeOf 18 = .ok (.idiv, 1) := by decide +kernel
theorem dX9_safeOf_19 : decode cX9_safeOf 19 = .ok (.iload 4, 2) := by decide +kernel
theorem dX9_safeOf_21 : decode cX9_safeOf 21 = .ok (.bipush 10, 2) := by decide +kernel
theorem dX9_safeOf_23 : decode cX9_safeOf 23 = .ok (.irem, 1) := by decide +kernel
theorem dX9_safeOf_24 : decode cX9_safeOf 24 = .ok (.invokevirtual 212, 3) := by decide +kernel
theorem dX9_safeOf_27 : decode cX9_safeOf 27 = .ok (.ifCond .ne 7, 3) := by decide +kernel
theorem dX9_safeOf_30 : decode cX9_safeOf 30 = .ok (.iconst 1, 1) := by decide +kernel
theorem dX9_safeOf_31 : decode cX9_safeOf 31 = .ok (.goto 4, 3) := by decide +kernel
theorem dX9_safeOf_34 : decode cX9_safeOf 34 = .ok (.iconst 0, 1) := by decide +kernel
theorem dX9_safeOf_35 : decode cX9_safeOf 35 = .ok (.istore 5, 2) := by decide +kernel
theorem dX9_safeOf_37 : decode cX9_safeOf 37 = .ok (.iload_n 2, 1) := by decide +kernel
theorem dX9_safeOf_38 : decode cX9_safeOf 38 = .ok (.iload 5, 2) := by decide +kernel
theorem dX9_safeOf_40 : decode cX9_safeOf 40 = .ok (.ifCond .eq 7, 3) := by decide +kernel
theorem dX9_safeOf_43 : decode cX9_safeOf 43 = .ok (.iconst 1, 1) := by decide +kernel
theorem dX9_safeOf_44 : decode cX9_safeOf 44 = .ok (.goto 4, 3) := by decide +kernel
theorem dX9_safeOf_47 : decode cX9_safeOf 47 = .ok (.iconst 0, 1) := by decide +kernel
theorem dX9_safeOf_48 : decode cX9_safeOf 48 = .ok (.iadd, 1) := by decide +kernel
theorem dX9_safeOf_49 : decode cX9_safeOf 49 = .ok (.istore_n 2, 1) := by decide +kernel
theorem dX9_safeOf_50 : decode cX9_safeOf 50 = .ok (.iload 5, 2) := by decide +kernel
theorem dX9_safeOf_52 : decode cX9_safeOf 52 = .ok (.ifCond .eq 8, 3) := by decide +kernel
theorem dX9_safeOf_55 : decode cX9_safeOf 55 = .ok (.iload 4, 2) := by decide +kernel
theorem dX9_safeOf_57 : decode cX9_safeOf 57 = .ok (.goto 4, 3) := by decide +kernel
theorem dX9_safeOf_60 : decode cX9_safeOf 60 = .ok (.iload_n 3, 1) := by decide +kernel
theorem dX9_safeOf_61 : decode cX9_safeOf 61 = .ok (.istore_n 3, 1) := by decide +kernel
theorem dX9_safeOf_62 : decode cX9_safeOf 62 = .ok (.iinc 4 (-1), 3) := by decide +kernel
theorem dX9_safeOf_65 : decode cX9_safeOf 65 = .ok (.goto (-57), 3) := by decide +kernel
theorem dX9_safeOf_68 : decode cX9_safeOf 68 = .ok (.iload_n 1, 1) := by decide +kernel
theorem dX9_safeOf_69 : decode cX9_safeOf 69 = .ok (.ifCond .ne 7, 3) := by decide +kernel
theorem dX9_safeOf_72 : decode cX9_safeOf 72 = .ok (.iload_n 2, 1) := by decide +kernel
theorem dX9_safeOf_73 : decode cX9_safeOf 73 = .ok (.goto 4, 3) := by decide +kernel
theorem dX9_safeOf_76 : decode cX9_safeOf 76 = .ok (.iload_n 3, 1) := by decide +kernel
theorem dX9_safeOf_77 : decode cX9_safeOf 77 = .ok (.ireturn, 1) := by decide +kernel
theorem dX9_safe_0 : decode cX9_safe 0 = .ok (.aload_n 0, 1) := by decide +kernel
theorem dX9_safe_1 : decode cX9_safe 1 = .ok (.invokevirtual 128, 3) := by decide +kernel
theorem dX9_safe_4 : decode cX9_safe 4 = .ok (.iload_n 1, 1) := by decide +kernel
theorem dX9_safe_5 : decode cX9_safe 5 = .ok (.invokestatic 105, 3) := by decide +kernel
theorem dX9_safe_8 : decode cX9_safe 8 = .ok (.ifCond .eq 11, 3) := by decide +kernel
theorem dX9_safe_11 : decode cX9_safe 11 = .ok (.aload_n 0, 1) := by decide +kernel
theorem dX9_safe_12 : decode cX9_safe 12 = .ok (.iload_n 1, 1) := by decide +kernel
theorem dX9_safe_13 : decode cX9_safe 13 = .ok (.invokevirtual 215, 3) := by decide +kernel
theorem dX9_safe_16 : decode cX9_safe 16 = .ok (.goto 5, 3) := by decide +kernel
theorem dX9_safe_19 : decode cX9_safe 19 = .ok (.bipush (-2), 2) := by decide +kernel
theorem dX9_safe_21 : decode cX9_safe 21 = .ok (.ireturn, 1) := by decide +kernel
theorem dX9_unfolds_0 : decode cX9_unfolds 0 = .ok (.iload_n 1, 1) := by decide +kernel
theorem dX9_unfolds_1 : decode cX9_unfolds 1 = .ok (.istore_n 2, 1) := by decide +kernel
theorem dX9_unfolds_2 : decode cX9_unfolds 2 = .ok (.aload_n 0, 1) := by decide +kernel
theorem dX9_unfolds_3 : decode cX9_unfolds 3 = .ok (.getfield 110, 3) := by decide +kernel
theorem dX9_unfolds_6 : decode cX9_unfolds 6 = .ok (.iconst 1, 1) := by decide +kernel
theorem dX9_unfolds_7 : decode cX9_unfolds 7 = .ok (.isub, 1) := by decide +kernel
theorem dX9_unfolds_8 : decode cX9_unfolds 8 = .ok (.istore_n 3, 1) := by decide +kernel
theorem dX9_unfolds_9 : decode cX9_unfolds 9 = .ok (.iload_n 3, 1) := by decide +kernel
theorem dX9_unfolds_10 : decode cX9_unfolds 10 = .ok (.ifCond .lt 32, 3) := by decide +kernel
theorem dX9_unfolds_13 : decode cX9_unfolds 13 = .ok (.aload_n 0, 1) := by decide +kernel
theorem dX9_unfolds_14 : decode cX9_unfolds 14 = .ok (.getfield 56, 3) := by decide +kernel
theorem dX9_unfolds_17 : decode cX9_unfolds 17 = .ok (.iload_n 3, 1) := by decide +kernel
theorem dX9_unfolds_18 : decode cX9_unfolds 18 = .ok (.iload_n 2, 1) := by decide +kernel
theorem dX9_unfolds_19 : decode cX9_unfolds 19 = .ok (.aload_n 0, 1) := by decide +kernel
theorem dX9_unfolds_20 : decode cX9_unfolds 20 = .ok (.getfield 110, 3) := by decide +kernel
theorem dX9_unfolds_23 : decode cX9_unfolds 23 = .ok (.iload_n 3, 1) := by decide +kernel
theorem dX9_unfolds_24 : decode cX9_unfolds 24 = .ok (.isub, 1) := by decide +kernel
theorem dX9_unfolds_25 : decode cX9_unfolds 25 = .ok (.irem, 1) := by decide +kernel
theorem dX9_unfolds_26 : decode cX9_unfolds 26 = .ok (.iastore, 1) := by decide +kernel
theorem dX9_unfolds_27 : decode cX9_unfolds 27 = .ok (.iload_n 2, 1) := by decide +kernel
theorem dX9_unfolds_28 : decode cX9_unfolds 28 = .ok (.aload_n 0, 1) := by decide +kernel
theorem dX9_unfolds_29 : decode cX9_unfolds 29 = .ok (.getfield 110, 3) := by decide +kernel
theorem dX9_unfolds_32 : decode cX9_unfolds 32 = .ok (.iload_n 3, 1) := by decide +kernel
theorem dX9_unfolds_33 : decode cX9_unfolds 33 = .ok (.isub, 1) := by decide +kernel
theorem dX9_unfolds_34 : decode cX9_unfolds 34 = .ok (.idiv, 1) := by decide +kernel
theorem dX9_unfolds_35 : decode cX9_unfolds 35 = .ok (.istore_n 2, 1) := by decide +kernel
theorem dX9_unfolds_36 : decode cX9_unfolds 36 = .ok (.iinc 3 (-1), 3) := by decide +kernel
theorem dX9_unfolds_39 : decode cX9_unfolds 39 = .ok (.goto (-30), 3) := by decide +kernel
theorem dX9_unfolds_42 : decode cX9_unfolds 42 = .ok (.aload_n 0, 1) := by decide +kernel
theorem dX9_unfolds_43 : decode cX9_unfolds 43 = .ok (.getfield 110, 3) := by decide +kernel
theorem dX9_unfolds_46 : decode cX9_unfolds 46 = .ok (.iconst 1, 1) := by decide +kernel
theorem dX9_unfolds_47 : decode cX9_unfolds 47 = .ok (.isub, 1) := by decide +kernel
theorem dX9_unfolds_48 : decode cX9_unfolds 48 = .ok (.istore_n 3, 1) := by decide +kernel
theorem dX9_unfolds_49 : decode cX9_unfolds 49 = .ok (.iload_n 3, 1) := by decide +kernel
theorem dX9_unfolds_50 : decode cX9_unfolds 50 = .ok (.ifCond .lt 60, 3) := by decide +kernel
theorem dX9_unfolds_53 : decode cX9_unfolds 53 = .ok (.iload_n 3, 1) := by decide +kernel
theorem dX9_unfolds_54 : decode cX9_unfolds 54 = .ok (.iconst 1, 1) := by decide +kernel
theorem dX9_unfolds_55 : decode cX9_unfolds 55 = .ok (.iadd, 1) := by decide +kernel
theorem dX9_unfolds_56 : decode cX9_unfolds 56 = .ok (.istore 4, 2) := by decide +kernel
theorem dX9_unfolds_58 : decode cX9_unfolds 58 = .ok (.iload 4, 2) := by decide +kernel
theorem dX9_unfolds_60 : decode cX9_unfolds 60 = .ok (.aload_n 0, 1) := by decide +kernel
theorem dX9_unfolds_61 : decode cX9_unfolds 61 = .ok (.getfield 110, 3) := by decide +kernel
theorem dX9_unfolds_64 : decode cX9_unfolds 64 = .ok (.if_icmp .ge 40, 3) := by decide +kernel
theorem dX9_unfolds_67 : decode cX9_unfolds 67 = .ok (.aload_n 0, 1) := by decide +kernel
theorem dX9_unfolds_68 : decode cX9_unfolds 68 = .ok (.getfield 56, 3) := by decide +kernel
theorem dX9_unfolds_71 : decode cX9_unfolds 71 = .ok (.iload 4, 2) := by decide +kernel
theorem dX9_unfolds_73 : decode cX9_unfolds 73 = .ok (.dup2, 1) := by decide +kernel
theorem dX9_unfolds_74 : decode cX9_unfolds 74 = .ok (.iaload, 1) := by decide +kernel
theorem dX9_unfolds_75 : decode cX9_unfolds 75 = .ok (.aload_n 0, 1) := by decide +kernel
theorem dX9_unfolds_76 : decode cX9_unfolds 76 = .ok (.getfield 56, 3) := by decide +kernel
theorem dX9_unfolds_79 : decode cX9_unfolds 79 = .ok (.iload 4, 2) := by decide +kernel
theorem dX9_unfolds_81 : decode cX9_unfolds 81 = .ok (.iaload, 1) := by decide +kernel
theorem dX9_unfolds_82 : decode cX9_unfolds 82 = .ok (.aload_n 0, 1) := by decide +kernel
theorem dX9_unfolds_83 : decode cX9_unfolds 83 = .ok (.getfield 56, 3) := by decide +kernel
theorem dX9_unfolds_86 : decode cX9_unfolds 86 = .ok (.iload_n 3, 1) := by decide +kernel
theorem dX9_unfolds_87 : decode cX9_unfolds 87 = .ok (.iaload, 1) := by decide +kernel
theorem dX9_unfolds_88 : decode cX9_unfolds 88 = .ok (.if_icmp .lt 7, 3) := by decide +kernel
theorem dX9_unfolds_91 : decode cX9_unfolds 91 = .ok (.iconst 1, 1) := by decide +kernel
theorem dX9_unfolds_92 : decode cX9_unfolds 92 = .ok (.goto 4, 3) := by decide +kernel
theorem dX9_unfolds_95 : decode cX9_unfolds 95 = .ok (.iconst 0, 1) := by decide +kernel
theorem dX9_unfolds_96 : decode cX9_unfolds 96 = .ok (.iadd, 1) := by decide +kernel
theorem dX9_unfolds_97 : decode cX9_unfolds 97 = .ok (.iastore, 1) := by decide +kernel
theorem dX9_unfolds_98 : decode cX9_unfolds 98 = .ok (.iinc 4 1, 3) := by decide +kernel
theorem dX9_unfolds_101 : decode cX9_unfolds 101 = .ok (.goto (-43), 3) := by decide +kernel
theorem dX9_unfolds_104 : decode cX9_unfolds 104 = .ok (.iinc 3 (-1), 3) := by decide +kernel
theorem dX9_unfolds_107 : decode cX9_unfolds 107 = .ok (.goto (-58), 3) := by decide +kernel
theorem dX9_unfolds_110 : decode cX9_unfolds 110 = .ok (.return_, 1) := by decide +kernel
theorem dX9_squeezes_0 : decode cX9_squeezes 0 = .ok (.aload_n 0, 1) := by decide +kernel
theorem dX9_squeezes_1 : decode cX9_squeezes 1 = .ok (.iconst 0, 1) := by decide +kernel
theorem dX9_squeezes_2 : decode cX9_squeezes 2 = .ok (.putfield 218, 3) := by decide +kernel
theorem dX9_squeezes_5 : decode cX9_squeezes 5 = .ok (.aload_n 0, 1) := by decide +kernel
theorem dX9_squeezes_6 : decode cX9_squeezes 6 = .ok (.iconst 1, 1) := by decide +kernel
theorem dX9_squeezes_7 : decode cX9_squeezes 7 = .ok (.putfield 221, 3) := by decide +kernel
theorem dX9_squeezes_10 : decode cX9_squeezes 10 = .ok (.iconst 0, 1) := by decide +kernel
theorem dX9_squeezes_11 : decode cX9_squeezes 11 = .ok (.istore_n 1, 1) := by decide +kernel
theorem dX9_squeezes_12 : decode cX9_squeezes 12 = .ok (.iconst 0, 1) := by decide +kernel
theorem dX9_squeezes_13 : decode cX9_squeezes 13 = .ok (.istore_n 2, 1) := by decide +kernel
theorem dX9_squeezes_14 : decode cX9_squeezes 14 = .ok (.iload_n 2, 1) := by decide +kernel
theorem dX9_squeezes_15 : decode cX9_squeezes 15 = .ok (.aload_n 0, 1) := by decide +kernel
theorem dX9_squeezes_16 : decode cX9_squeezes 16 = .ok (.getfield 110, 3) := by decide +kernel
theorem dX9_squeezes_19 : decode cX9_squeezes 19 = .ok (.if_icmp .ge 116, 3) := by decide +kernel
theorem dX9_squeezes_22 : decode cX9_squeezes 22 = .ok (.aload_n 0, 1) := by decide +kernel
theorem dX9_squeezes_23 : decode cX9_squeezes 23 = .ok (.getfield 28, 3) := by decide +kernel
theorem dX9_squeezes_26 : decode cX9_squeezes 26 = .ok (.aload_n 0, 1) := by decide +kernel
theorem dX9_squeezes_27 : decode cX9_squeezes 27 = .ok (.getfield 56, 3) := by decide +kernel
theorem dX9_squeezes_30 : decode cX9_squeezes 30 = .ok (.iload_n 2, 1) := by decide +kernel
theorem dX9_squeezes_31 : decode cX9_squeezes 31 = .ok (.iaload, 1) := by decide +kernel
theorem dX9_squeezes_32 : decode cX9_squeezes 32 = .ok (.iaload, 1) := by decide +kernel
theorem dX9_squeezes_33 : decode cX9_squeezes 33 = .ok (.istore_n 3, 1) := by decide +kernel
theorem dX9_squeezes_34 : decode cX9_squeezes 34 = .ok (.aload_n 0, 1) := by decide +kernel
theorem dX9_squeezes_35 : decode cX9_squeezes 35 = .ok (.getfield 38, 3) := by decide +kernel
theorem dX9_squeezes_38 : decode cX9_squeezes 38 = .ok (.iconst 0, 1) := by decide +kernel
theorem dX9_squeezes_39 : decode cX9_squeezes 39 = .ok (.iaload, 1) := by decide +kernel
theorem dX9_squeezes_40 : decode cX9_squeezes 40 = .ok (.aload_n 0, 1) := by decide +kernel
theorem dX9_squeezes_41 : decode cX9_squeezes 41 = .ok (.getfield 38, 3) := by decide +kernel
theorem dX9_squeezes_44 : decode cX9_squeezes 44 = .ok (.iconst 3, 1) := by decide +kernel
theorem dX9_squeezes_45 : decode cX9_squeezes 45 = .ok (.iaload, 1) := by decide +kernel
theorem dX9_squeezes_46 : decode cX9_squeezes 46 = .ok (.iadd, 1) := by decide +kernel
theorem dX9_squeezes_47 : decode cX9_squeezes 47 = .ok (.iload_n 1, 1) := by decide +kernel
theorem dX9_squeezes_48 : decode cX9_squeezes 48 = .ok (.imul, 1) := by decide +kernel
theorem dX9_squeezes_49 : decode cX9_squeezes 49 = .ok (.aload_n 0, 1) := by decide +kernel
theorem dX9_squeezes_50 : decode cX9_squeezes 50 = .ok (.getfield 38, 3) := by decide +kernel
theorem dX9_squeezes_53 : decode cX9_squeezes 53 = .ok (.iconst 0, 1) := by decide +kernel
theorem dX9_squeezes_54 : decode cX9_squeezes 54 = .ok (.iaload, 1) := by decide +kernel
theorem dX9_squeezes_55 : decode cX9_squeezes 55 = .ok (.aload_n 0, 1) := by decide +kernel
theorem dX9_squeezes_56 : decode cX9_squeezes 56 = .ok (.getfield 113, 3) := by decide +kernel
theorem dX9_squeezes_59 : decode cX9_squeezes 59 = .ok (.imul, 1) := by decide +kernel
theorem dX9_squeezes_60 : decode cX9_squeezes 60 = .ok (.isub, 1) := by decide +kernel
theorem dX9_squeezes_61 : decode cX9_squeezes 61 = .ok (.iconst 0, 1) := by decide +kernel
theorem dX9_squeezes_62 : decode cX9_squeezes 62 = .ok (.invokestatic 224, 3) := by decide +kernel
theorem dX9_squeezes_65 : decode cX9_squeezes 65 = .ok (.istore 4, 2) := by decide +kernel
theorem dX9_squeezes_67 : decode cX9_squeezes 67 = .ok (.iload 4, 2) := by decide +kernel
theorem dX9_squeezes_69 : decode cX9_squeezes 69 = .ok (.aload_n 0, 1) := by decide +kernel
theorem dX9_squeezes_70 : decode cX9_squeezes 70 = .ok (.getfield 221, 3) := by decide +kernel
theorem dX9_squeezes_73 : decode cX9_squeezes 73 = .ok (.imul, 1) := by decide +kernel
theorem dX9_squeezes_74 : decode cX9_squeezes 74 = .ok (.aload_n 0, 1) := by decide +kernel
theorem dX9_squeezes_75 : decode cX9_squeezes 75 = .ok (.getfield 218, 3) := by decide +kernel
theorem dX9_squeezes_78 : decode cX9_squeezes 78 = .ok (.iload_n 3, 1) := by decide +kernel
theorem dX9_squeezes_79 : decode cX9_squeezes 79 = .ok (.imul, 1) := by decide +kernel
theorem dX9_squeezes_80 : decode cX9_squeezes 80 = .ok (.if_icmp .le 7, 3) := by decide +kernel
theorem dX9_squeezes_83 : decode cX9_squeezes 83 = .ok (.iconst 1, 1) := by decide +kernel
theorem dX9_squeezes_84 : decode cX9_squeezes 84 = .ok (.goto 4, 3) := by decide +kernel
theorem dX9_squeezes_87 : decode cX9_squeezes 87 = .ok (.iconst 0, 1) := by decide +kernel
theorem dX9_squeezes_88 : decode cX9_squeezes 88 = .ok (.istore 5, 2) := by decide +kernel
theorem dX9_squeezes_90 : decode cX9_squeezes 90 = .ok (.aload_n 0, 1) := by decide +kernel
theorem dX9_squeezes_91 : decode cX9_squeezes 91 = .ok (.iload 5, 2) := by decide +kernel
theorem dX9_squeezes_93 : decode cX9_squeezes 93 = .ok (.ifCond .eq 8, 3) := by decide +kernel
theorem dX9_squeezes_96 : decode cX9_squeezes 96 = .ok (.iload 4, 2) := by decide +kernel
theorem dX9_squeezes_98 : decode cX9_squeezes 98 = .ok (.goto 7, 3) := by decide +kernel
theorem dX9_squeezes_101 : decode cX9_squeezes 101 = .ok (.aload_n 0, 1) := by decide +kernel
theorem dX9_squeezes_102 : decode cX9_squeezes 102 = .ok (.getfield 218, 3) := by decide +kernel
theorem dX9_squeezes_105 : decode cX9_squeezes 105 = .ok (.putfield 218, 3) := by decide +kernel
theorem dX9_squeezes_108 : decode cX9_squeezes 108 = .ok (.aload_n 0, 1) := by decide +kernel
theorem dX9_squeezes_109 : decode cX9_squeezes 109 = .ok (.iload 5, 2) := by decide +kernel
theorem dX9_squeezes_111 : decode cX9_squeezes 111 = .ok (.ifCond .eq 7, 3) := by decide +kernel
theorem dX9_squeezes_114 : decode cX9_squeezes 114 = .ok (.iload_n 3, 1) := by decide +kernel
theorem dX9_squeezes_115 : decode cX9_squeezes 115 = .ok (.goto 7, 3) := by decide +kernel
theorem dX9_squeezes_118 : decode cX9_squeezes 118 = .ok (.aload_n 0, 1) := by decide +kernel
theorem dX9_squeezes_119 : decode cX9_squeezes 119 = .ok (.getfield 221, 3) := by decide +kernel
theorem dX9_squeezes_122 : decode cX9_squeezes 122 = .ok (.putfield 221, 3) := by decide +kernel
theorem dX9_squeezes_125 : decode cX9_squeezes 125 = .ok (.iload_n 1, 1) := by decide +kernel
theorem dX9_squeezes_126 : decode cX9_squeezes 126 = .ok (.iload_n 3, 1) := by decide +kernel
theorem dX9_squeezes_127 : decode cX9_squeezes 127 = .ok (.iadd, 1) := by decide +kernel
theorem dX9_squeezes_128 : decode cX9_squeezes 128 = .ok (.istore_n 1, 1) := by decide +kernel
theorem dX9_squeezes_129 : decode cX9_squeezes 129 = .ok (.iinc 2 1, 3) := by decide +kernel
theorem dX9_squeezes_132 : decode cX9_squeezes 132 = .ok (.goto (-118), 3) := by decide +kernel
theorem dX9_squeezes_135 : decode cX9_squeezes 135 = .ok (.return_, 1) := by decide +kernel
theorem dX9_findOrder_0 : decode cX9_findOrder 0 = .ok (.aload_n 0, 1) := by decide +kernel
theorem dX9_findOrder_1 : decode cX9_findOrder 1 = .ok (.getfield 110, 3) := by decide +kernel
theorem dX9_findOrder_4 : decode cX9_findOrder 4 = .ok (.ifCond .eq 12, 3) := by decide +kernel
theorem dX9_findOrder_7 : decode cX9_findOrder 7 = .ok (.aload_n 0, 1) := by decide +kernel
theorem dX9_findOrder_8 : decode cX9_findOrder 8 = .ok (.getfield 110, 3) := by decide +kernel
theorem dX9_findOrder_11 : decode cX9_findOrder 11 = .ok (.bipush 6, 2) := by decide +kernel
theorem dX9_findOrder_13 : decode cX9_findOrder 13 = .ok (.if_icmp .le 7, 3) := by decide +kernel
theorem dX9_findOrder_16 : decode cX9_findOrder 16 = .ok (.iconst 0, 1) := by decide +kernel
theorem dX9_findOrder_17 : decode cX9_findOrder 17 = .ok (.goto 4, 3) := by decide +kernel
theorem dX9_findOrder_20 : decode cX9_findOrder 20 = .ok (.iconst 1, 1) := by decide +kernel
theorem dX9_findOrder_21 : decode cX9_findOrder 21 = .ok (.istore_n 1, 1) := by decide +kernel
theorem dX9_findOrder_22 : decode cX9_findOrder 22 = .ok (.iconst 2, 1) := by decide +kernel
theorem dX9_findOrder_23 : decode cX9_findOrder 23 = .ok (.istore_n 2, 1) := by decide +kernel
theorem dX9_findOrder_24 : decode cX9_findOrder 24 = .ok (.iload_n 2, 1) := by decide +kernel
theorem dX9_findOrder_25 : decode cX9_findOrder 25 = .ok (.aload_n 0, 1) := by decide +kernel
theorem dX9_findOrder_26 : decode cX9_findOrder 26 = .ok (.getfield 110, 3) := by decide +kernel
theorem dX9_findOrder_29 : decode cX9_findOrder 29 = .ok (.if_icmp .gt 13, 3) := by decide +kernel
theorem dX9_findOrder_32 : decode cX9_findOrder 32 = .ok (.iload_n 1, 1) := by decide +kernel
theorem dX9_findOrder_33 : decode cX9_findOrder 33 = .ok (.iload_n 2, 1) := by decide +kernel
theorem dX9_findOrder_34 : decode cX9_findOrder 34 = .ok (.imul, 1) := by decide +kernel
theorem dX9_findOrder_35 : decode cX9_findOrder 35 = .ok (.istore_n 1, 1) := by decide +kernel
theorem dX9_findOrder_36 : decode cX9_findOrder 36 = .ok (.iinc 2 1, 3) := by decide +kernel
theorem dX9_findOrder_39 : decode cX9_findOrder 39 = .ok (.goto (-15), 3) := by decide +kernel
theorem dX9_findOrder_42 : decode cX9_findOrder 42 = .ok (.aload_n 0, 1) := by decide +kernel
theorem dX9_findOrder_43 : decode cX9_findOrder 43 = .ok (.iconst 0, 1) := by decide +kernel
theorem dX9_findOrder_44 : decode cX9_findOrder 44 = .ok (.putfield 227, 3) := by decide +kernel
theorem dX9_findOrder_47 : decode cX9_findOrder 47 = .ok (.iconst 0, 1) := by decide +kernel
theorem dX9_findOrder_48 : decode cX9_findOrder 48 = .ok (.istore_n 2, 1) := by decide +kernel
theorem dX9_findOrder_49 : decode cX9_findOrder 49 = .ok (.iload_n 2, 1) := by decide +kernel
theorem dX9_findOrder_50 : decode cX9_findOrder 50 = .ok (.iload_n 1, 1) := by decide +kernel
theorem dX9_findOrder_51 : decode cX9_findOrder 51 = .ok (.if_icmp .ge 90, 3) := by decide +kernel
theorem dX9_findOrder_54 : decode cX9_findOrder 54 = .ok (.aload_n 0, 1) := by decide +kernel
theorem dX9_findOrder_55 : decode cX9_findOrder 55 = .ok (.iload_n 2, 1) := by decide +kernel
theorem dX9_findOrder_56 : decode cX9_findOrder 56 = .ok (.invokevirtual 230, 3) := by decide +kernel
theorem dX9_findOrder_59 : decode cX9_findOrder 59 = .ok (.aload_n 0, 1) := by decide +kernel
theorem dX9_findOrder_60 : decode cX9_findOrder 60 = .ok (.invokevirtual 234, 3) := by decide +kernel
theorem dX9_findOrder_63 : decode cX9_findOrder 63 = .ok (.aload_n 0, 1) := by decide +kernel
theorem dX9_findOrder_64 : decode cX9_findOrder 64 = .ok (.getfield 227, 3) := by decide +kernel
theorem dX9_findOrder_67 : decode cX9_findOrder 67 = .ok (.ifCond .eq 24, 3) := by decide +kernel
theorem dX9_findOrder_70 : decode cX9_findOrder 70 = .ok (.aload_n 0, 1) := by decide +kernel
theorem dX9_findOrder_71 : decode cX9_findOrder 71 = .ok (.getfield 218, 3) := by decide +kernel
theorem dX9_findOrder_74 : decode cX9_findOrder 74 = .ok (.aload_n 0, 1) := by decide +kernel
theorem dX9_findOrder_75 : decode cX9_findOrder 75 = .ok (.getfield 227, 3) := by decide +kernel
theorem dX9_findOrder_78 : decode cX9_findOrder 78 = .ok (.imul, 1) := by decide +kernel
theorem dX9_findOrder_79 : decode cX9_findOrder 79 = .ok (.aload_n 0, 1) := by decide +kernel
theorem dX9_findOrder_80 : decode cX9_findOrder 80 = .ok (.getfield 237, 3) := by decide +kernel
theorem dX9_findOrder_83 : decode cX9_findOrder 83 = .ok (.aload_n 0, 1) := by decide +kernel
theorem dX9_findOrder_84 : decode cX9_findOrder 84 = .ok (.getfield 221, 3) := by decide +kernel
theorem dX9_findOrder_87 : decode cX9_findOrder 87 = .ok (.imul, 1) := by decide +kernel
theorem dX9_findOrder_88 : decode cX9_findOrder 88 = .ok (.if_icmp .ge 47, 3) := by decide +kernel
theorem dX9_findOrder_91 : decode cX9_findOrder 91 = .ok (.aload_n 0, 1) := by decide +kernel
theorem dX9_findOrder_92 : decode cX9_findOrder 92 = .ok (.aload_n 0, 1) := by decide +kernel
theorem dX9_findOrder_93 : decode cX9_findOrder 93 = .ok (.getfield 218, 3) := by decide +kernel
theorem dX9_findOrder_96 : decode cX9_findOrder 96 = .ok (.putfield 237, 3) := by decide +kernel
theorem dX9_findOrder_99 : decode cX9_findOrder 99 = .ok (.aload_n 0, 1) := by decide +kernel
theorem dX9_findOrder_100 : decode cX9_findOrder 100 = .ok (.aload_n 0, 1) := by decide +kernel
theorem dX9_findOrder_101 : decode cX9_findOrder 101 = .ok (.getfield 221, 3) := by decide +kernel
theorem dX9_findOrder_104 : decode cX9_findOrder 104 = .ok (.putfield 227, 3) := by decide +kernel
theorem dX9_findOrder_107 : decode cX9_findOrder 107 = .ok (.iconst 0, 1) := by decide +kernel
theorem dX9_findOrder_108 : decode cX9_findOrder 108 = .ok (.istore_n 3, 1) := by decide +kernel
theorem dX9_findOrder_109 : decode cX9_findOrder 109 = .ok (.iload_n 3, 1) := by decide +kernel
theorem dX9_findOrder_110 : decode cX9_findOrder 110 = .ok (.aload_n 0, 1) := by decide +kernel
theorem dX9_findOrder_111 : decode cX9_findOrder 111 = .ok (.getfield 110, 3) := by decide +kernel
theorem dX9_findOrder_114 : decode cX9_findOrder 114 = .ok (.if_icmp .ge 21, 3) := by decide +kernel
theorem dX9_findOrder_117 : decode cX9_findOrder 117 = .ok (.aload_n 0, 1) := by decide +kernel
theorem dX9_findOrder_118 : decode cX9_findOrder 118 = .ok (.getfield 59, 3) := by decide +kernel
theorem dX9_findOrder_121 : decode cX9_findOrder 121 = .ok (.iload_n 3, 1) := by decide +kernel
theorem dX9_findOrder_122 : decode cX9_findOrder 122 = .ok (.aload_n 0, 1) := by decide +kernel
theorem dX9_findOrder_123 : decode cX9_findOrder 123 = .ok (.getfield 56, 3) := by decide +kernel
theorem dX9_findOrder_126 : decode cX9_findOrder 126 = .ok (.iload_n 3, 1) := by decide +kernel
theorem dX9_findOrder_127 : decode cX9_findOrder 127 = .ok (.iaload, 1) := by decide +kernel
theorem dX9_findOrder_128 : decode cX9_findOrder 128 = .ok (.iastore, 1) := by decide +kernel
theorem dX9_findOrder_129 : decode cX9_findOrder 129 = .ok (.iinc 3 1, 3) := by decide +kernel
theorem dX9_findOrder_132 : decode cX9_findOrder 132 = .ok (.goto (-23), 3) := by decide +kernel
theorem dX9_findOrder_135 : decode cX9_findOrder 135 = .ok (.iinc 2 1, 3) := by decide +kernel
theorem dX9_findOrder_138 : decode cX9_findOrder 138 = .ok (.goto (-89), 3) := by decide +kernel
theorem dX9_findOrder_141 : decode cX9_findOrder 141 = .ok (.return_, 1) := by decide +kernel
theorem dX9_tellsOrder_0 : decode cX9_tellsOrder 0 = .ok (.aload_n 0, 1) := by decide +kernel
theorem dX9_tellsOrder_1 : decode cX9_tellsOrder 1 = .ok (.getfield 227, 3) := by decide +kernel
theorem dX9_tellsOrder_4 : decode cX9_tellsOrder 4 = .ok (.ifCond .le 20, 3) := by decide +kernel
theorem dX9_tellsOrder_7 : decode cX9_tellsOrder 7 = .ok (.iload_n 1, 1) := by decide +kernel
theorem dX9_tellsOrder_8 : decode cX9_tellsOrder 8 = .ok (.aload_n 0, 1) := by decide +kernel
theorem dX9_tellsOrder_9 : decode cX9_tellsOrder 9 = .ok (.getfield 110, 3) := by decide +kernel
theorem dX9_tellsOrder_12 : decode cX9_tellsOrder 12 = .ok (.if_icmp .ge 12, 3) := by decide +kernel
theorem dX9_tellsOrder_15 : decode cX9_tellsOrder 15 = .ok (.aload_n 0, 1) := by decide +kernel
theorem dX9_tellsOrder_16 : decode cX9_tellsOrder 16 = .ok (.getfield 59, 3) := by decide +kernel
theorem dX9_tellsOrder_19 : decode cX9_tellsOrder 19 = .ok (.iload_n 1, 1) := by decide +kernel
theorem dX9_tellsOrder_20 : decode cX9_tellsOrder 20 = .ok (.iaload, 1) := by decide +kernel
theorem dX9_tellsOrder_21 : decode cX9_tellsOrder 21 = .ok (.goto 4, 3) := by decide +kernel
theorem dX9_tellsOrder_24 : decode cX9_tellsOrder 24 = .ok (.iconst (-1), 1) := by decide +kernel
theorem dX9_tellsOrder_25 : decode cX9_tellsOrder 25 = .ok (.ireturn, 1) := by decide +kernel
theorem dX9_tellsSqueeze_0 : decode cX9_tellsSqueeze 0 = .ok (.aload_n 0, 1) := by decide +kernel
theorem dX9_tellsSqueeze_1 : decode cX9_tellsSqueeze 1 = .ok (.getfield 227, 3) := by decide +kernel
theorem dX9_tellsSqueeze_4 : decode cX9_tellsSqueeze 4 = .ok (.ifCond .ne 12, 3) := by decide +kernel
theorem dX9_tellsSqueeze_7 : decode cX9_tellsSqueeze 7 = .ok (.lconst 0, 1) := by decide +kernel
theorem dX9_tellsSqueeze_8 : decode cX9_tellsSqueeze 8 = .ok (.lconst 1, 1) := by decide +kernel
theorem dX9_tellsSqueeze_9 : decode cX9_tellsSqueeze 9 = .ok (.iload_n 1, 1) := by decide +kernel
theorem dX9_tellsSqueeze_10 : decode cX9_tellsSqueeze 10 = .ok (.invokestatic 177, 3) := by decide +kernel
theorem dX9_tellsSqueeze_13 : decode cX9_tellsSqueeze 13 = .ok (.goto 23, 3) := by decide +kernel
theorem dX9_tellsSqueeze_16 : decode cX9_tellsSqueeze 16 = .ok (.aload_n 0, 1) := by decide +kernel
theorem dX9_tellsSqueeze_17 : decode cX9_tellsSqueeze 17 = .ok (.getfield 237, 3) := by decide +kernel
theorem dX9_tellsSqueeze_20 : decode cX9_tellsSqueeze 20 = .ok (.i2l, 1) := by decide +kernel
theorem dX9_tellsSqueeze_21 : decode cX9_tellsSqueeze 21 = .ok (.aload_n 0, 1) := by decide +kernel
theorem dX9_tellsSqueeze_22 : decode cX9_tellsSqueeze 22 = .ok (.getfield 227, 3) := by decide +kernel
theorem dX9_tellsSqueeze_25 : decode cX9_tellsSqueeze 25 = .ok (.i2l, 1) := by decide +kernel
theorem dX9_tellsSqueeze_26 : decode cX9_tellsSqueeze 26 = .ok (.aload_n 0, 1) := by decide +kernel
theorem dX9_tellsSqueeze_27 : decode cX9_tellsSqueeze 27 = .ok (.getfield 113, 3) := by decide +kernel
theorem dX9_tellsSqueeze_30 : decode cX9_tellsSqueeze 30 = .ok (.i2l, 1) := by decide +kernel
theorem dX9_tellsSqueeze_31 : decode cX9_tellsSqueeze 31 = .ok (.lmul, 1) := by decide +kernel
theorem dX9_tellsSqueeze_32 : decode cX9_tellsSqueeze 32 = .ok (.iload_n 1, 1) := by decide +kernel
theorem dX9_tellsSqueeze_33 : decode cX9_tellsSqueeze 33 = .ok (.invokestatic 177, 3) := by decide +kernel
theorem dX9_tellsSqueeze_36 : decode cX9_tellsSqueeze 36 = .ok (.l2i, 1) := by decide +kernel
theorem dX9_tellsSqueeze_37 : decode cX9_tellsSqueeze 37 = .ok (.ireturn, 1) := by decide +kernel
theorem dX9_order_0 : decode cX9_order 0 = .ok (.aload_n 0, 1) := by decide +kernel
theorem dX9_order_1 : decode cX9_order 1 = .ok (.invokevirtual 128, 3) := by decide +kernel
theorem dX9_order_4 : decode cX9_order 4 = .ok (.iload_n 1, 1) := by decide +kernel
theorem dX9_order_5 : decode cX9_order 5 = .ok (.i2l, 1) := by decide +kernel
theorem dX9_order_6 : decode cX9_order 6 = .ok (.lconst 0, 1) := by decide +kernel
theorem dX9_order_7 : decode cX9_order 7 = .ok (.ldc2_w 133, 3) := by decide +kernel
theorem dX9_order_10 : decode cX9_order 10 = .ok (.invokestatic 73, 3) := by decide +kernel
theorem dX9_order_13 : decode cX9_order 13 = .ok (.ifCond .ne 6, 3) := by decide +kernel
theorem dX9_order_16 : decode cX9_order 16 = .ok (.bipush (-2), 2) := by decide +kernel
theorem dX9_order_18 : decode cX9_order 18 = .ok (.ireturn, 1) := by decide +kernel
theorem dX9_order_19 : decode cX9_order 19 = .ok (.aload_n 0, 1) := by decide +kernel
theorem dX9_order_20 : decode cX9_order 20 = .ok (.invokevirtual 240, 3) := by decide +kernel
theorem dX9_order_23 : decode cX9_order 23 = .ok (.aload_n 0, 1) := by decide +kernel
theorem dX9_order_24 : decode cX9_order 24 = .ok (.iload_n 1, 1) := by decide +kernel
theorem dX9_order_25 : decode cX9_order 25 = .ok (.invokevirtual 243, 3) := by decide +kernel
theorem dX9_order_28 : decode cX9_order 28 = .ok (.ireturn, 1) := by decide +kernel
theorem dX9_squeeze_0 : decode cX9_squeeze 0 = .ok (.aload_n 0, 1) := by decide +kernel
theorem dX9_squeeze_1 : decode cX9_squeeze 1 = .ok (.invokevirtual 128, 3) := by decide +kernel
theorem dX9_squeeze_4 : decode cX9_squeeze 4 = .ok (.iload_n 1, 1) := by decide +kernel
theorem dX9_squeeze_5 : decode cX9_squeeze 5 = .ok (.invokestatic 105, 3) := by decide +kernel
theorem dX9_squeeze_8 : decode cX9_squeeze 8 = .ok (.ifCond .ne 6, 3) := by decide +kernel
theorem dX9_squeeze_11 : decode cX9_squeeze 11 = .ok (.bipush (-2), 2) := by decide +kernel
theorem dX9_squeeze_13 : decode cX9_squeeze 13 = .ok (.ireturn, 1) := by decide +kernel
theorem dX9_squeeze_14 : decode cX9_squeeze 14 = .ok (.aload_n 0, 1) := by decide +kernel
theorem dX9_squeeze_15 : decode cX9_squeeze 15 = .ok (.invokevirtual 240, 3) := by decide +kernel
theorem dX9_squeeze_18 : decode cX9_squeeze 18 = .ok (.aload_n 0, 1) := by decide +kernel
theorem dX9_squeeze_19 : decode cX9_squeeze 19 = .ok (.iload_n 1, 1) := by decide +kernel
theorem dX9_squeeze_20 : decode cX9_squeeze 20 = .ok (.invokevirtual 246, 3) := by decide +kernel
theorem dX9_squeeze_23 : decode cX9_squeeze 23 = .ok (.ireturn, 1) := by decide +kernel
theorem dX9_train_0 : decode cX9_train 0 = .ok (.iload_n 1, 1) := by decide +kernel
theorem dX9_train_1 : decode cX9_train 1 = .ok (.i2l, 1) := by decide +kernel
theorem dX9_train_2 : decode cX9_train 2 = .ok (.lconst 0, 1) := by decide +kernel
theorem dX9_train_3 : decode cX9_train 3 = .ok (.ldc2_w 131, 3) := by decide +kernel
theorem dX9_train_6 : decode cX9_train 6 = .ok (.invokestatic 73, 3) := by decide +kernel
theorem dX9_train_9 : decode cX9_train 9 = .ok (.ifCond .ne 6, 3) := by decide +kernel
theorem dX9_train_12 : decode cX9_train 12 = .ok (.bipush (-2), 2) := by decide +kernel
theorem dX9_train_14 : decode cX9_train 14 = .ok (.ireturn, 1) := by decide +kernel
theorem dX9_train_15 : decode cX9_train 15 = .ok (.aload_n 0, 1) := by decide +kernel
theorem dX9_train_16 : decode cX9_train 16 = .ok (.getfield 249, 3) := by decide +kernel
theorem dX9_train_19 : decode cX9_train 19 = .ok (.bipush 12, 2) := by decide +kernel
theorem dX9_train_21 : decode cX9_train 21 = .ok (.if_icmp .ne 6, 3) := by decide +kernel
theorem dX9_train_24 : decode cX9_train 24 = .ok (.bipush (-4), 2) := by decide +kernel
theorem dX9_train_26 : decode cX9_train 26 = .ok (.ireturn, 1) := by decide +kernel
theorem dX9_train_27 : decode cX9_train 27 = .ok (.aload_n 0, 1) := by decide +kernel
theorem dX9_train_28 : decode cX9_train 28 = .ok (.getfield 62, 3) := by decide +kernel
theorem dX9_train_31 : decode cX9_train 31 = .ok (.aload_n 0, 1) := by decide +kernel
theorem dX9_train_32 : decode cX9_train 32 = .ok (.getfield 249, 3) := by decide +kernel
theorem dX9_train_35 : decode cX9_train 35 = .ok (.iload_n 1, 1) := by decide +kernel
theorem dX9_train_36 : decode cX9_train 36 = .ok (.iastore, 1) := by decide +kernel
theorem dX9_train_37 : decode cX9_train 37 = .ok (.aload_n 0, 1) := by decide +kernel
theorem dX9_train_38 : decode cX9_train 38 = .ok (.dup, 1) := by decide +kernel
theorem dX9_train_39 : decode cX9_train 39 = .ok (.getfield 249, 3) := by decide +kernel
theorem dX9_train_42 : decode cX9_train 42 = .ok (.iconst 1, 1) := by decide +kernel
theorem dX9_train_43 : decode cX9_train 43 = .ok (.iadd, 1) := by decide +kernel
theorem dX9_train_44 : decode cX9_train 44 = .ok (.putfield 249, 3) := by decide +kernel
theorem dX9_train_47 : decode cX9_train 47 = .ok (.aload_n 0, 1) := by decide +kernel
theorem dX9_train_48 : decode cX9_train 48 = .ok (.getfield 249, 3) := by decide +kernel
theorem dX9_train_51 : decode cX9_train 51 = .ok (.ireturn, 1) := by decide +kernel
theorem dX9_back_0 : decode cX9_back 0 = .ok (.aload_n 0, 1) := by decide +kernel
theorem dX9_back_1 : decode cX9_back 1 = .ok (.getfield 249, 3) := by decide +kernel
theorem dX9_back_4 : decode cX9_back 4 = .ok (.ifCond .ne 6, 3) := by decide +kernel
theorem dX9_back_7 : decode cX9_back 7 = .ok (.bipush (-3), 2) := by decide +kernel
theorem dX9_back_9 : decode cX9_back 9 = .ok (.ireturn, 1) := by decide +kernel
theorem dX9_back_10 : decode cX9_back 10 = .ok (.aload_n 0, 1) := by decide +kernel
theorem dX9_back_11 : decode cX9_back 11 = .ok (.dup, 1) := by decide +kernel
theorem dX9_back_12 : decode cX9_back 12 = .ok (.getfield 249, 3) := by decide +kernel
theorem dX9_back_15 : decode cX9_back 15 = .ok (.iconst 1, 1) := by decide +kernel
theorem dX9_back_16 : decode cX9_back 16 = .ok (.isub, 1) := by decide +kernel
theorem dX9_back_17 : decode cX9_back 17 = .ok (.putfield 249, 3) := by decide +kernel
theorem dX9_back_20 : decode cX9_back 20 = .ok (.aload_n 0, 1) := by decide +kernel
theorem dX9_back_21 : decode cX9_back 21 = .ok (.getfield 249, 3) := by decide +kernel
theorem dX9_back_24 : decode cX9_back 24 = .ok (.ireturn, 1) := by decide +kernel
theorem dX9_read_0 : decode cX9_read 0 = .ok (.iload_n 1, 1) := by decide +kernel
theorem dX9_read_1 : decode cX9_read 1 = .ok (.invokestatic 87, 3) := by decide +kernel
theorem dX9_read_4 : decode cX9_read 4 = .ok (.ifCond .ne 6, 3) := by decide +kernel
theorem dX9_read_7 : decode cX9_read 7 = .ok (.bipush (-2), 2) := by decide +kernel
theorem dX9_read_9 : decode cX9_read 9 = .ok (.ireturn, 1) := by decide +kernel
theorem dX9_read_10 : decode cX9_read 10 = .ok (.aload_n 0, 1) := by decide +kernel
theorem dX9_read_11 : decode cX9_read 11 = .ok (.getfield 7, 3) := by decide +kernel
theorem dX9_read_14 : decode cX9_read 14 = .ok (.iload_n 1, 1) := by decide +kernel
theorem dX9_read_15 : decode cX9_read 15 = .ok (.iaload, 1) := by decide +kernel
theorem dX9_read_16 : decode cX9_read 16 = .ok (.ifCond .ge 9, 3) := by decide +kernel
theorem dX9_read_19 : decode cX9_read 19 = .ok (.aload_n 0, 1) := by decide +kernel
theorem dX9_read_20 : decode cX9_read 20 = .ok (.iconst 1, 1) := by decide +kernel
theorem dX9_read_21 : decode cX9_read 21 = .ok (.invokevirtual 93, 3) := by decide +kernel
theorem dX9_read_24 : decode cX9_read 24 = .ok (.ireturn, 1) := by decide +kernel
theorem dX9_read_25 : decode cX9_read 25 = .ok (.iconst 0, 1) := by decide +kernel
theorem dX9_read_26 : decode cX9_read 26 = .ok (.istore_n 2, 1) := by decide +kernel
theorem dX9_read_27 : decode cX9_read 27 = .ok (.iload_n 2, 1) := by decide +kernel
theorem dX9_read_28 : decode cX9_read 28 = .ok (.aload_n 0, 1) := by decide +kernel
theorem dX9_read_29 : decode cX9_read 29 = .ok (.getfield 13, 3) := by decide +kernel
theorem dX9_read_32 : decode cX9_read 32 = .ok (.iload_n 1, 1) := by decide +kernel
theorem dX9_read_33 : decode cX9_read 33 = .ok (.iaload, 1) := by decide +kernel
theorem dX9_read_34 : decode cX9_read 34 = .ok (.if_icmp .ge 27, 3) := by decide +kernel
theorem dX9_read_37 : decode cX9_read 37 = .ok (.aload_n 0, 1) := by decide +kernel
theorem dX9_read_38 : decode cX9_read 38 = .ok (.aload_n 0, 1) := by decide +kernel
theorem dX9_read_39 : decode cX9_read 39 = .ok (.getfield 16, 3) := by decide +kernel
theorem dX9_read_42 : decode cX9_read 42 = .ok (.bipush 60, 2) := by decide +kernel
theorem dX9_read_44 : decode cX9_read 44 = .ok (.iload_n 1, 1) := by decide +kernel
theorem dX9_read_45 : decode cX9_read 45 = .ok (.imul, 1) := by decide +kernel
theorem dX9_read_46 : decode cX9_read 46 = .ok (.iload_n 2, 1) := by decide +kernel
theorem dX9_read_47 : decode cX9_read 47 = .ok (.iadd, 1) := by decide +kernel
theorem dX9_read_48 : decode cX9_read 48 = .ok (.iaload, 1) := by decide +kernel
theorem dX9_read_49 : decode cX9_read 49 = .ok (.invokevirtual 252, 3) := by decide +kernel
theorem dX9_read_52 : decode cX9_read 52 = .ok (.ifCond .lt 9, 3) := by decide +kernel
theorem dX9_read_55 : decode cX9_read 55 = .ok (.iinc 2 1, 3) := by decide +kernel
theorem dX9_read_58 : decode cX9_read 58 = .ok (.goto (-31), 3) := by decide +kernel
theorem dX9_read_61 : decode cX9_read 61 = .ok (.iload_n 2, 1) := by decide +kernel
theorem dX9_read_62 : decode cX9_read 62 = .ok (.ireturn, 1) := by decide +kernel
theorem dX9_sorts_0 : decode cX9_sorts 0 = .ok (.iconst 0, 1) := by decide +kernel
theorem dX9_sorts_1 : decode cX9_sorts 1 = .ok (.istore_n 1, 1) := by decide +kernel
theorem dX9_sorts_2 : decode cX9_sorts 2 = .ok (.iload_n 1, 1) := by decide +kernel
theorem dX9_sorts_3 : decode cX9_sorts 3 = .ok (.aload_n 0, 1) := by decide +kernel
theorem dX9_sorts_4 : decode cX9_sorts 4 = .ok (.getfield 249, 3) := by decide +kernel
theorem dX9_sorts_7 : decode cX9_sorts 7 = .ok (.if_icmp .ge 64, 3) := by decide +kernel
theorem dX9_sorts_10 : decode cX9_sorts 10 = .ok (.iload_n 1, 1) := by decide +kernel
theorem dX9_sorts_11 : decode cX9_sorts 11 = .ok (.istore_n 2, 1) := by decide +kernel
theorem dX9_sorts_12 : decode cX9_sorts 12 = .ok (.iload_n 2, 1) := by decide +kernel
theorem dX9_sorts_13 : decode cX9_sorts 13 = .ok (.ifCond .le 40, 3) := by decide +kernel
theorem dX9_sorts_16 : decode cX9_sorts 16 = .ok (.aload_n 0, 1) := by decide +kernel
theorem dX9_sorts_17 : decode cX9_sorts 17 = .ok (.getfield 65, 3) := by decide +kernel
theorem dX9_sorts_20 : decode cX9_sorts 20 = .ok (.iload_n 2, 1) := by decide +kernel
theorem dX9_sorts_21 : decode cX9_sorts 21 = .ok (.iconst 1, 1) := by decide +kernel
theorem dX9_sorts_22 : decode cX9_sorts 22 = .ok (.isub, 1) := by decide +kernel
theorem dX9_sorts_23 : decode cX9_sorts 23 = .ok (.iaload, 1) := by decide +kernel
theorem dX9_sorts_24 : decode cX9_sorts 24 = .ok (.aload_n 0, 1) := by decide +kernel
theorem dX9_sorts_25 : decode cX9_sorts 25 = .ok (.getfield 62, 3) := by decide +kernel
theorem dX9_sorts_28 : decode cX9_sorts 28 = .ok (.iload_n 1, 1) := by decide +kernel
theorem dX9_sorts_29 : decode cX9_sorts 29 = .ok (.iaload, 1) := by decide +kernel
theorem dX9_sorts_30 : decode cX9_sorts 30 = .ok (.if_icmp .le 23, 3) := by decide +kernel
theorem dX9_sorts_33 : decode cX9_sorts 33 = .ok (.aload_n 0, 1) := by decide +kernel
theorem dX9_sorts_34 : decode cX9_sorts 34 = .ok (.getfield 65, 3) := by decide +kernel
theorem dX9_sorts_37 : decode cX9_sorts 37 = .ok (.iload_n 2, 1) := by decide +kernel
theorem dX9_sorts_38 : decode cX9_sorts 38 = .ok (.aload_n 0, 1) := by decide +kernel
theorem dX9_sorts_39 : decode cX9_sorts 39 = .ok (.getfield 65, 3) := by decide +kernel
theorem dX9_sorts_42 : decode cX9_sorts 42 = .ok (.iload_n 2, 1) := by decide +kernel
theorem dX9_sorts_43 : decode cX9_sorts 43 = .ok (.iconst 1, 1) := by decide +kernel
theorem dX9_sorts_44 : decode cX9_sorts 44 = .ok (.isub, 1) := by decide +kernel
theorem dX9_sorts_45 : decode cX9_sorts 45 = .ok (.iaload, 1) := by decide +kernel
theorem dX9_sorts_46 : decode cX9_sorts 46 = .ok (.iastore, 1) := by decide +kernel
theorem dX9_sorts_47 : decode cX9_sorts 47 = .ok (.iinc 2 (-1), 3) := by decide +kernel
theorem dX9_sorts_50 : decode cX9_sorts 50 = .ok (.goto (-38), 3) := by decide +kernel
theorem dX9_sorts_53 : decode cX9_sorts 53 = .ok (.aload_n 0, 1) := by decide +kernel
theorem dX9_sorts_54 : decode cX9_sorts 54 = .ok (.getfield 65, 3) := by decide +kernel
theorem dX9_sorts_57 : decode cX9_sorts 57 = .ok (.iload_n 2, 1) := by decide +kernel
theorem dX9_sorts_58 : decode cX9_sorts 58 = .ok (.aload_n 0, 1) := by decide +kernel
theorem dX9_sorts_59 : decode cX9_sorts 59 = .ok (.getfield 62, 3) := by decide +kernel
theorem dX9_sorts_62 : decode cX9_sorts 62 = .ok (.iload_n 1, 1) := by decide +kernel
theorem dX9_sorts_63 : decode cX9_sorts 63 = .ok (.iaload, 1) := by decide +kernel
theorem dX9_sorts_64 : decode cX9_sorts 64 = .ok (.iastore, 1) := by decide +kernel
theorem dX9_sorts_65 : decode cX9_sorts 65 = .ok (.iinc 1 1, 3) := by decide +kernel
theorem dX9_sorts_68 : decode cX9_sorts 68 = .ok (.goto (-66), 3) := by decide +kernel
theorem dX9_sorts_71 : decode cX9_sorts 71 = .ok (.return_, 1) := by decide +kernel
theorem dX9_lateOf_0 : decode cX9_lateOf 0 = .ok (.aload_n 0, 1) := by decide +kernel
theorem dX9_lateOf_1 : decode cX9_lateOf 1 = .ok (.invokevirtual 255, 3) := by decide +kernel
theorem dX9_lateOf_4 : decode cX9_lateOf 4 = .ok (.iconst 0, 1) := by decide +kernel
theorem dX9_lateOf_5 : decode cX9_lateOf 5 = .ok (.istore_n 3, 1) := by decide +kernel
theorem dX9_lateOf_6 : decode cX9_lateOf 6 = .ok (.iload_n 3, 1) := by decide +kernel
theorem dX9_lateOf_7 : decode cX9_lateOf 7 = .ok (.iload_n 1, 1) := by decide +kernel
theorem dX9_lateOf_8 : decode cX9_lateOf 8 = .ok (.if_icmp .ge 16, 3) := by decide +kernel
theorem dX9_lateOf_11 : decode cX9_lateOf 11 = .ok (.aload_n 0, 1) := by decide +kernel
theorem dX9_lateOf_12 : decode cX9_lateOf 12 = .ok (.getfield 68, 3) := by decide +kernel
theorem dX9_lateOf_15 : decode cX9_lateOf 15 = .ok (.iload_n 3, 1) := by decide +kernel
theorem dX9_lateOf_16 : decode cX9_lateOf 16 = .ok (.iconst 0, 1) := by decide +kernel
theorem dX9_lateOf_17 : decode cX9_lateOf 17 = .ok (.iastore, 1) := by decide +kernel
theorem dX9_lateOf_18 : decode cX9_lateOf 18 = .ok (.iinc 3 1, 3) := by decide +kernel
theorem dX9_lateOf_21 : decode cX9_lateOf 21 = .ok (.goto (-15), 3) := by decide +kernel
theorem dX9_lateOf_24 : decode cX9_lateOf 24 = .ok (.iconst 0, 1) := by decide +kernel
theorem dX9_lateOf_25 : decode cX9_lateOf 25 = .ok (.istore_n 3, 1) := by decide +kernel
theorem dX9_lateOf_26 : decode cX9_lateOf 26 = .ok (.iconst 0, 1) := by decide +kernel
theorem dX9_lateOf_27 : decode cX9_lateOf 27 = .ok (.istore 4, 2) := by decide +kernel
theorem dX9_lateOf_29 : decode cX9_lateOf 29 = .ok (.iconst 0, 1) := by decide +kernel
theorem dX9_lateOf_30 : decode cX9_lateOf 30 = .ok (.istore 5, 2) := by decide +kernel
theorem dX9_lateOf_32 : decode cX9_lateOf 32 = .ok (.iload 5, 2) := by decide +kernel
theorem dX9_lateOf_34 : decode cX9_lateOf 34 = .ok (.aload_n 0, 1) := by decide +kernel
theorem dX9_lateOf_35 : decode cX9_lateOf 35 = .ok (.getfield 249, 3) := by decide +kernel
theorem dX9_lateOf_38 : decode cX9_lateOf 38 = .ok (.if_icmp .ge 125, 3) := by decide +kernel
theorem dX9_lateOf_41 : decode cX9_lateOf 41 = .ok (.iconst 0, 1) := by decide +kernel
theorem dX9_lateOf_42 : decode cX9_lateOf 42 = .ok (.istore 6, 2) := by decide +kernel
theorem dX9_lateOf_44 : decode cX9_lateOf 44 = .ok (.iconst 1, 1) := by decide +kernel
theorem dX9_lateOf_45 : decode cX9_lateOf 45 = .ok (.istore 7, 2) := by decide +kernel
theorem dX9_lateOf_47 : decode cX9_lateOf 47 = .ok (.iload 7, 2) := by decide +kernel
theorem dX9_lateOf_49 : decode cX9_lateOf 49 = .ok (.iload_n 1, 1) := by decide +kernel
theorem dX9_lateOf_50 : decode cX9_lateOf 50 = .ok (.if_icmp .ge 35, 3) := by decide +kernel
theorem dX9_lateOf_53 : decode cX9_lateOf 53 = .ok (.aload_n 0, 1) := by decide +kernel
theorem dX9_lateOf_54 : decode cX9_lateOf 54 = .ok (.getfield 68, 3) := by decide +kernel
theorem dX9_lateOf_57 : decode cX9_lateOf 57 = .ok (.iload 7, 2) := by decide +kernel
theorem dX9_lateOf_59 : decode cX9_lateOf 59 = .ok (.iaload, 1) := by decide +kernel
theorem dX9_lateOf_60 : decode cX9_lateOf 60 = .ok (.aload_n 0, 1) := by decide +kernel
theorem dX9_lateOf_61 : decode cX9_lateOf 61 = .ok (.getfield 68, 3) := by decide +kernel
theorem dX9_lateOf_64 : decode cX9_lateOf 64 = .ok (.iload 6, 2) := by decide +kernel
theorem dX9_lateOf_66 : decode cX9_lateOf 66 = .ok (.iaload, 1) := by decide +kernel
theorem dX9_lateOf_67 : decode cX9_lateOf 67 = .ok (.if_icmp .ge 8, 3) := by decide +kernel
theorem dX9_lateOf_70 : decode cX9_lateOf 70 = .ok (.iload 7, 2) := by decide +kernel
theorem dX9_lateOf_72 : decode cX9_lateOf 72 = .ok (.goto 5, 3) := by decide +kernel
theorem dX9_lateOf_75 : decode cX9_lateOf 75 = .ok (.iload 6, 2) := by decide +kernel
theorem dX9_lateOf_77 : decode cX9_lateOf 77 = .ok (.istore 6, 2) := by decide +kernel
theorem dX9_lateOf_79 : decode cX9_lateOf 79 = .ok (.iinc 7 1, 3) := by decide +kernel
theorem dX9_lateOf_82 : decode cX9_lateOf 82 = .ok (.goto (-35), 3) := by decide +kernel
theorem dX9_lateOf_85 : decode cX9_lateOf 85 = .ok (.aload_n 0, 1) := by decide +kernel
theorem dX9_lateOf_86 : decode cX9_lateOf 86 = .ok (.getfield 65, 3) := by decide +kernel
theorem dX9_lateOf_89 : decode cX9_lateOf 89 = .ok (.iload 5, 2) := by decide +kernel
theorem dX9_lateOf_91 : decode cX9_lateOf 91 = .ok (.iaload, 1) := by decide +kernel
theorem dX9_lateOf_92 : decode cX9_lateOf 92 = .ok (.aload_n 0, 1) := by decide +kernel
theorem dX9_lateOf_93 : decode cX9_lateOf 93 = .ok (.getfield 68, 3) := by decide +kernel
theorem dX9_lateOf_96 : decode cX9_lateOf 96 = .ok (.iload 6, 2) := by decide +kernel
theorem dX9_lateOf_98 : decode cX9_lateOf 98 = .ok (.iaload, 1) := by decide +kernel
theorem dX9_lateOf_99 : decode cX9_lateOf 99 = .ok (.invokestatic 224, 3) := by decide +kernel
theorem dX9_lateOf_102 : decode cX9_lateOf 102 = .ok (.istore 7, 2) := by decide +kernel
theorem dX9_lateOf_104 : decode cX9_lateOf 104 = .ok (.aload_n 0, 1) := by decide +kernel
theorem dX9_lateOf_105 : decode cX9_lateOf 105 = .ok (.getfield 68, 3) := by decide +kernel
theorem dX9_lateOf_108 : decode cX9_lateOf 108 = .ok (.iload 6, 2) := by decide +kernel
theorem dX9_lateOf_110 : decode cX9_lateOf 110 = .ok (.iload 7, 2) := by decide +kernel
theorem dX9_lateOf_112 : decode cX9_lateOf 112 = .ok (.aload_n 0, 1) := by decide +kernel
theorem dX9_lateOf_113 : decode cX9_lateOf 113 = .ok (.getfield 41, 3) := by decide +kernel
theorem dX9_lateOf_116 : decode cX9_lateOf 116 = .ok (.iconst 2, 1) := by decide +kernel
theorem dX9_lateOf_117 : decode cX9_lateOf 117 = .ok (.iaload, 1) := by decide +kernel
theorem dX9_lateOf_118 : decode cX9_lateOf 118 = .ok (.iadd, 1) := by decide +kernel
theorem dX9_lateOf_119 : decode cX9_lateOf 119 = .ok (.aload_n 0, 1) := by decide +kernel
theorem dX9_lateOf_120 : decode cX9_lateOf 120 = .ok (.getfield 41, 3) := by decide +kernel
theorem dX9_lateOf_123 : decode cX9_lateOf 123 = .ok (.iconst 3, 1) := by decide +kernel
theorem dX9_lateOf_124 : decode cX9_lateOf 124 = .ok (.iaload, 1) := by decide +kernel
theorem dX9_lateOf_125 : decode cX9_lateOf 125 = .ok (.iadd, 1) := by decide +kernel
theorem dX9_lateOf_126 : decode cX9_lateOf 126 = .ok (.iastore, 1) := by decide +kernel
theorem dX9_lateOf_127 : decode cX9_lateOf 127 = .ok (.iload_n 3, 1) := by decide +kernel
theorem dX9_lateOf_128 : decode cX9_lateOf 128 = .ok (.iload 7, 2) := by decide +kernel
theorem dX9_lateOf_130 : decode cX9_lateOf 130 = .ok (.aload_n 0, 1) := by decide +kernel
theorem dX9_lateOf_131 : decode cX9_lateOf 131 = .ok (.getfield 65, 3) := by decide +kernel
theorem dX9_lateOf_134 : decode cX9_lateOf 134 = .ok (.iload 5, 2) := by decide +kernel
theorem dX9_lateOf_136 : decode cX9_lateOf 136 = .ok (.iaload, 1) := by decide +kernel
theorem dX9_lateOf_137 : decode cX9_lateOf 137 = .ok (.isub, 1) := by decide +kernel
theorem dX9_lateOf_138 : decode cX9_lateOf 138 = .ok (.iadd, 1) := by decide +kernel
theorem dX9_lateOf_139 : decode cX9_lateOf 139 = .ok (.istore_n 3, 1) := by decide +kernel
theorem dX9_lateOf_140 : decode cX9_lateOf 140 = .ok (.iload 7, 2) := by decide +kernel
theorem dX9_lateOf_142 : decode cX9_lateOf 142 = .ok (.aload_n 0, 1) := by decide +kernel
theorem dX9_lateOf_143 : decode cX9_lateOf 143 = .ok (.getfield 65, 3) := by decide +kernel
theorem dX9_lateOf_146 : decode cX9_lateOf 146 = .ok (.iload 5, 2) := by decide +kernel
theorem dX9_lateOf_148 : decode cX9_lateOf 148 = .ok (.iaload, 1) := by decide +kernel
theorem dX9_lateOf_149 : decode cX9_lateOf 149 = .ok (.isub, 1) := by decide +kernel
theorem dX9_lateOf_150 : decode cX9_lateOf 150 = .ok (.iload 4, 2) := by decide +kernel
theorem dX9_lateOf_152 : decode cX9_lateOf 152 = .ok (.invokestatic 224, 3) := by decide +kernel
theorem dX9_lateOf_155 : decode cX9_lateOf 155 = .ok (.istore 4, 2) := by decide +kernel
theorem dX9_lateOf_157 : decode cX9_lateOf 157 = .ok (.iinc 5 1, 3) := by decide +kernel
theorem dX9_lateOf_160 : decode cX9_lateOf 160 = .ok (.goto (-128), 3) := by decide +kernel
theorem dX9_lateOf_163 : decode cX9_lateOf 163 = .ok (.iload_n 2, 1) := by decide +kernel
theorem dX9_lateOf_164 : decode cX9_lateOf 164 = .ok (.ifCond .ne 7, 3) := by decide +kernel
theorem dX9_lateOf_167 : decode cX9_lateOf 167 = .ok (.iload_n 3, 1) := by decide +kernel
theorem dX9_lateOf_168 : decode cX9_lateOf 168 = .ok (.goto 5, 3) := by decide +kernel
theorem dX9_lateOf_171 : decode cX9_lateOf 171 = .ok (.iload 4, 2) := by decide +kernel
theorem dX9_lateOf_173 : decode cX9_lateOf 173 = .ok (.ireturn, 1) := by decide +kernel
theorem dX9_late_0 : decode cX9_late 0 = .ok (.iload_n 1, 1) := by decide +kernel
theorem dX9_late_1 : decode cX9_late 1 = .ok (.i2l, 1) := by decide +kernel
theorem dX9_late_2 : decode cX9_late 2 = .ok (.lconst 1, 1) := by decide +kernel
theorem dX9_late_3 : decode cX9_late 3 = .ok (.ldc2_w 258, 3) := by decide +kernel
theorem dX9_late_6 : decode cX9_late 6 = .ok (.invokestatic 73, 3) := by decide +kernel
theorem dX9_late_9 : decode cX9_late 9 = .ok (.ifCond .eq 19, 3) := by decide +kernel
theorem dX9_late_12 : decode cX9_late 12 = .ok (.iload_n 2, 1) := by decide +kernel
theorem dX9_late_13 : decode cX9_late 13 = .ok (.invokestatic 105, 3) := by decide +kernel
theorem dX9_late_16 : decode cX9_late 16 = .ok (.ifCond .eq 12, 3) := by decide +kernel
theorem dX9_late_19 : decode cX9_late 19 = .ok (.aload_n 0, 1) := by decide +kernel
theorem dX9_late_20 : decode cX9_late 20 = .ok (.iload_n 1, 1) := by decide +kernel
theorem dX9_late_21 : decode cX9_late 21 = .ok (.iload_n 2, 1) := by decide +kernel
theorem dX9_late_22 : decode cX9_late 22 = .ok (.invokevirtual 260, 3) := by decide +kernel
theorem dX9_late_25 : decode cX9_late 25 = .ok (.goto 5, 3) := by decide +kernel
theorem dX9_late_28 : decode cX9_late 28 = .ok (.bipush (-2), 2) := by decide +kernel
theorem dX9_late_30 : decode cX9_late 30 = .ok (.ireturn, 1) := by decide +kernel
theorem dX9_enoughOf_0 : decode cX9_enoughOf 0 = .ok (.iconst 1, 1) := by decide +kernel
theorem dX9_enoughOf_1 : decode cX9_enoughOf 1 = .ok (.istore_n 2, 1) := by decide +kernel
theorem dX9_enoughOf_2 : decode cX9_enoughOf 2 = .ok (.iload_n 2, 1) := by decide +kernel
theorem dX9_enoughOf_3 : decode cX9_enoughOf 3 = .ok (.bipush 7, 2) := by decide +kernel
theorem dX9_enoughOf_5 : decode cX9_enoughOf 5 = .ok (.if_icmp .ge 21, 3) := by decide +kernel
theorem dX9_enoughOf_8 : decode cX9_enoughOf 8 = .ok (.aload_n 0, 1) := by decide +kernel
theorem dX9_enoughOf_9 : decode cX9_enoughOf 9 = .ok (.iload_n 2, 1) := by decide +kernel
theorem dX9_enoughOf_10 : decode cX9_enoughOf 10 = .ok (.iconst 1, 1) := by decide +kernel
theorem dX9_enoughOf_11 : decode cX9_enoughOf 11 = .ok (.invokevirtual 260, 3) := by decide +kernel
theorem dX9_enoughOf_14 : decode cX9_enoughOf 14 = .ok (.iload_n 1, 1) := by decide +kernel
theorem dX9_enoughOf_15 : decode cX9_enoughOf 15 = .ok (.if_icmp .gt 5, 3) := by decide +kernel
theorem dX9_enoughOf_18 : decode cX9_enoughOf 18 = .ok (.iload_n 2, 1) := by decide +kernel
theorem dX9_enoughOf_19 : decode cX9_enoughOf 19 = .ok (.ireturn, 1) := by decide +kernel
theorem dX9_enoughOf_20 : decode cX9_enoughOf 20 = .ok (.iinc 2 1, 3) := by decide +kernel
theorem dX9_enoughOf_23 : decode cX9_enoughOf 23 = .ok (.goto (-21), 3) := by decide +kernel
theorem dX9_enoughOf_26 : decode cX9_enoughOf 26 = .ok (.iconst (-1), 1) := by decide +kernel
theorem dX9_enoughOf_27 : decode cX9_enoughOf 27 = .ok (.ireturn, 1) := by decide +kernel
theorem dX9_enough_0 : decode cX9_enough 0 = .ok (.iload_n 1, 1) := by decide +kernel
theorem dX9_enough_1 : decode cX9_enough 1 = .ok (.i2l, 1) := by decide +kernel
theorem dX9_enough_2 : decode cX9_enough 2 = .ok (.lconst 0, 1) := by decide +kernel
theorem dX9_enough_3 : decode cX9_enough 3 = .ok (.ldc2_w 131, 3) := by decide +kernel
theorem dX9_enough_6 : decode cX9_enough 6 = .ok (.invokestatic 73, 3) := by decide +kernel
theorem dX9_enough_9 : decode cX9_enough 9 = .ok (.ifCond .eq 11, 3) := by decide +kernel
theorem dX9_enough_12 : decode cX9_enough 12 = .ok (.aload_n 0, 1) := by decide +kernel
theorem dX9_enough_13 : decode cX9_enough 13 = .ok (.iload_n 1, 1) := by decide +kernel
theorem dX9_enough_14 : decode cX9_enough 14 = .ok (.invokevirtual 263, 3) := by decide +kernel
theorem dX9_enough_17 : decode cX9_enough 17 = .ok (.goto 5, 3) := by decide +kernel
theorem dX9_enough_20 : decode cX9_enough 20 = .ok (.bipush (-2), 2) := by decide +kernel
theorem dX9_enough_22 : decode cX9_enough 22 = .ok (.ireturn, 1) := by decide +kernel
theorem dX9_whistlesOf_0 : decode cX9_whistlesOf 0 = .ok (.lconst 1, 1) := by decide +kernel
theorem dX9_whistlesOf_1 : decode cX9_whistlesOf 1 = .ok (.lstore 4, 2) := by decide +kernel
theorem dX9_whistlesOf_3 : decode cX9_whistlesOf 3 = .ok (.lconst 1, 1) := by decide +kernel
theorem dX9_whistlesOf_4 : decode cX9_whistlesOf 4 = .ok (.lstore 6, 2) := by decide +kernel
theorem dX9_whistlesOf_6 : decode cX9_whistlesOf 6 = .ok (.iconst 0, 1) := by decide +kernel
theorem dX9_whistlesOf_7 : decode cX9_whistlesOf 7 = .ok (.istore 8, 2) := by decide +kernel
theorem dX9_whistlesOf_9 : decode cX9_whistlesOf 9 = .ok (.iload 8, 2) := by decide +kernel
theorem dX9_whistlesOf_11 : decode cX9_whistlesOf 11 = .ok (.iload_n 2, 1) := by decide +kernel
theorem dX9_whistlesOf_12 : decode cX9_whistlesOf 12 = .ok (.if_icmp .ge 25, 3) := by decide +kernel
theorem dX9_whistlesOf_15 : decode cX9_whistlesOf 15 = .ok (.lload 4, 2) := by decide +kernel
theorem dX9_whistlesOf_17 : decode cX9_whistlesOf 17 = .ok (.iload_n 0, 1) := by decide +kernel
theorem dX9_whistlesOf_18 : decode cX9_whistlesOf 18 = .ok (.iload 8, 2) := by decide +kernel
theorem dX9_whistlesOf_20 : decode cX9_whistlesOf 20 = .ok (.isub, 1) := by decide +kernel
theorem dX9_whistlesOf_21 : decode cX9_whistlesOf 21 = .ok (.i2l, 1) := by decide +kernel
theorem dX9_whistlesOf_22 : decode cX9_whistlesOf 22 = .ok (.lmul, 1) := by decide +kernel
theorem dX9_whistlesOf_23 : decode cX9_whistlesOf 23 = .ok (.iload 8, 2) := by decide +kernel
theorem dX9_whistlesOf_25 : decode cX9_whistlesOf 25 = .ok (.iconst 1, 1) := by decide +kernel
theorem dX9_whistlesOf_26 : decode cX9_whistlesOf 26 = .ok (.iadd, 1) := by decide +kernel
theorem dX9_whistlesOf_27 : decode cX9_whistlesOf 27 = .ok (.i2l, 1) := by decide +kernel
theorem dX9_whistlesOf_28 : decode cX9_whistlesOf 28 = .ok (.ldiv, 1) := by decide +kernel
theorem dX9_whistlesOf_29 : decode cX9_whistlesOf 29 = .ok (.lstore 4, 2) := by decide +kernel
theorem dX9_whistlesOf_31 : decode cX9_whistlesOf 31 = .ok (.iinc 8 1, 3) := by decide +kernel
theorem dX9_whistlesOf_34 : decode cX9_whistlesOf 34 = .ok (.goto (-25), 3) := by decide +kernel
theorem dX9_whistlesOf_37 : decode cX9_whistlesOf 37 = .ok (.iconst 0, 1) := by decide +kernel
theorem dX9_whistlesOf_38 : decode cX9_whistlesOf 38 = .ok (.istore 8, 2) := by decide +kernel
theorem dX9_whistlesOf_40 : decode cX9_whistlesOf 40 = .ok (.iload 8, 2) := by decide +kernel
theorem dX9_whistlesOf_42 : decode cX9_whistlesOf 42 = .ok (.iload_n 0, 1) := by decide +kernel
theorem dX9_whistlesOf_43 : decode cX9_whistlesOf 43 = .ok (.if_icmp .ge 38, 3) := by decide +kernel
theorem dX9_whistlesOf_46 : decode cX9_whistlesOf 46 = .ok (.lload 4, 2) := by decide +kernel
theorem dX9_whistlesOf_48 : decode cX9_whistlesOf 48 = .ok (.iload 8, 2) := by decide +kernel
theorem dX9_whistlesOf_50 : decode cX9_whistlesOf 50 = .ok (.iload_n 2, 1) := by decide +kernel
theorem dX9_whistlesOf_51 : decode cX9_whistlesOf 51 = .ok (.if_icmp .ge 8, 3) := by decide +kernel
theorem dX9_whistlesOf_54 : decode cX9_whistlesOf 54 = .ok (.iload_n 1, 1) := by decide +kernel
theorem dX9_whistlesOf_55 : decode cX9_whistlesOf 55 = .ok (.i2l, 1) := by decide +kernel
theorem dX9_whistlesOf_56 : decode cX9_whistlesOf 56 = .ok (.goto 8, 3) := by decide +kernel
theorem dX9_whistlesOf_59 : decode cX9_whistlesOf 59 = .ok (.bipush 16, 2) := by decide +kernel
theorem dX9_whistlesOf_61 : decode cX9_whistlesOf 61 = .ok (.iload_n 1, 1) := by decide +kernel
theorem dX9_whistlesOf_62 : decode cX9_whistlesOf 62 = .ok (.isub, 1) := by decide +kernel
theorem dX9_whistlesOf_63 : decode cX9_whistlesOf 63 = .ok (.i2l, 1) := by decide +kernel
theorem dX9_whistlesOf_64 : decode cX9_whistlesOf 64 = .ok (.lmul, 1) := by decide +kernel
theorem dX9_whistlesOf_65 : decode cX9_whistlesOf 65 = .ok (.lstore 4, 2) := by decide +kernel
theorem dX9_whistlesOf_67 : decode cX9_whistlesOf 67 = .ok (.lload 6, 2) := by decide +kernel
theorem dX9_whistlesOf_69 : decode cX9_whistlesOf 69 = .ok (.ldc2_w 266, 3) := by decide +kernel
theorem dX9_whistlesOf_72 : decode cX9_whistlesOf 72 = .ok (.lmul, 1) := by decide +kernel
theorem dX9_whistlesOf_73 : decode cX9_whistlesOf 73 = .ok (.lstore 6, 2) := by decide +kernel
theorem dX9_whistlesOf_75 : decode cX9_whistlesOf 75 = .ok (.iinc 8 1, 3) := by decide +kernel
theorem dX9_whistlesOf_78 : decode cX9_whistlesOf 78 = .ok (.goto (-38), 3) := by decide +kernel
theorem dX9_whistlesOf_81 : decode cX9_whistlesOf 81 = .ok (.lload 4, 2) := by decide +kernel
theorem dX9_whistlesOf_83 : decode cX9_whistlesOf 83 = .ok (.lload 6, 2) := by decide +kernel
theorem dX9_whistlesOf_85 : decode cX9_whistlesOf 85 = .ok (.iload_n 3, 1) := by decide +kernel
theorem dX9_whistlesOf_86 : decode cX9_whistlesOf 86 = .ok (.invokestatic 177, 3) := by decide +kernel
theorem dX9_whistlesOf_89 : decode cX9_whistlesOf 89 = .ok (.lreturn, 1) := by decide +kernel
theorem dX9_whistles_0 : decode cX9_whistles 0 = .ok (.iload_n 1, 1) := by decide +kernel
theorem dX9_whistles_1 : decode cX9_whistles 1 = .ok (.i2l, 1) := by decide +kernel
theorem dX9_whistles_2 : decode cX9_whistles 2 = .ok (.lconst 0, 1) := by decide +kernel
theorem dX9_whistles_3 : decode cX9_whistles 3 = .ok (.ldc2_w 116, 3) := by decide +kernel
theorem dX9_whistles_6 : decode cX9_whistles 6 = .ok (.invokestatic 73, 3) := by decide +kernel
theorem dX9_whistles_9 : decode cX9_whistles 9 = .ok (.ifCond .eq 45, 3) := by decide +kernel
theorem dX9_whistles_12 : decode cX9_whistles 12 = .ok (.iload_n 2, 1) := by decide +kernel
theorem dX9_whistles_13 : decode cX9_whistles 13 = .ok (.i2l, 1) := by decide +kernel
theorem dX9_whistles_14 : decode cX9_whistles 14 = .ok (.lconst 0, 1) := by decide +kernel
theorem dX9_whistles_15 : decode cX9_whistles 15 = .ok (.ldc2_w 266, 3) := by decide +kernel
theorem dX9_whistles_18 : decode cX9_whistles 18 = .ok (.invokestatic 73, 3) := by decide +kernel
theorem dX9_whistles_21 : decode cX9_whistles 21 = .ok (.ifCond .eq 33, 3) := by decide +kernel
theorem dX9_whistles_24 : decode cX9_whistles 24 = .ok (.iload_n 3, 1) := by decide +kernel
theorem dX9_whistles_25 : decode cX9_whistles 25 = .ok (.i2l, 1) := by decide +kernel
theorem dX9_whistles_26 : decode cX9_whistles 26 = .ok (.lconst 0, 1) := by decide +kernel
theorem dX9_whistles_27 : decode cX9_whistles 27 = .ok (.iload_n 1, 1) := by decide +kernel
theorem dX9_whistles_28 : decode cX9_whistles 28 = .ok (.i2l, 1) := by decide +kernel
theorem dX9_whistles_29 : decode cX9_whistles 29 = .ok (.invokestatic 73, 3) := by decide +kernel
theorem dX9_whistles_32 : decode cX9_whistles 32 = .ok (.ifCond .eq 22, 3) := by decide +kernel
theorem dX9_whistles_35 : decode cX9_whistles 35 = .ok (.iload 4, 2) := by decide +kernel
theorem dX9_whistles_37 : decode cX9_whistles 37 = .ok (.invokestatic 105, 3) := by decide +kernel
theorem dX9_whistles_40 : decode cX9_whistles 40 = .ok (.ifCond .eq 14, 3) := by decide +kernel
theorem dX9_whistles_43 : decode cX9_whistles 43 = .ok (.iload_n 1, 1) := by decide +kernel
theorem dX9_whistles_44 : decode cX9_whistles 44 = .ok (.iload_n 2, 1) := by decide +kernel
theorem dX9_whistles_45 : decode cX9_whistles 45 = .ok (.iload_n 3, 1) := by decide +kernel
theorem dX9_whistles_46 : decode cX9_whistles 46 = .ok (.iload 4, 2) := by decide +kernel
theorem dX9_whistles_48 : decode cX9_whistles 48 = .ok (.invokestatic 268, 3) := by decide +kernel
theorem dX9_whistles_51 : decode cX9_whistles 51 = .ok (.goto 8, 3) := by decide +kernel
theorem dX9_whistles_54 : decode cX9_whistles 54 = .ok (.bipush (-2), 2) := by decide +kernel
theorem dX9_whistles_56 : decode cX9_whistles 56 = .ok (.invokestatic 170, 3) := by decide +kernel
theorem dX9_whistles_59 : decode cX9_whistles 59 = .ok (.lreturn, 1) := by decide +kernel
theorem dX9_words_0 : decode cX9_words 0 = .ok (.iload_n 1, 1) := by decide +kernel
theorem dX9_words_1 : decode cX9_words 1 = .ok (.i2l, 1) := by decide +kernel
theorem dX9_words_2 : decode cX9_words 2 = .ok (.lconst 0, 1) := by decide +kernel
theorem dX9_words_3 : decode cX9_words 3 = .ok (.ldc2_w 116, 3) := by decide +kernel
theorem dX9_words_6 : decode cX9_words 6 = .ok (.invokestatic 73, 3) := by decide +kernel
theorem dX9_words_9 : decode cX9_words 9 = .ok (.ifCond .eq 14, 3) := by decide +kernel
theorem dX9_words_12 : decode cX9_words 12 = .ok (.iconst 1, 1) := by decide +kernel
theorem dX9_words_13 : decode cX9_words 13 = .ok (.bipush 8, 2) := by decide +kernel
theorem dX9_words_15 : decode cX9_words 15 = .ok (.iload_n 1, 1) := by decide +kernel
theorem dX9_words_16 : decode cX9_words 16 = .ok (.iconst 1, 1) := by decide +kernel
theorem dX9_words_17 : decode cX9_words 17 = .ok (.iadd, 1) := by decide +kernel
theorem dX9_words_18 : decode cX9_words 18 = .ok (.idiv, 1) := by decide +kernel
theorem dX9_words_19 : decode cX9_words 19 = .ok (.iadd, 1) := by decide +kernel
theorem dX9_words_20 : decode cX9_words 20 = .ok (.goto 5, 3) := by decide +kernel
theorem dX9_words_23 : decode cX9_words 23 = .ok (.bipush (-2), 2) := by decide +kernel
theorem dX9_words_25 : decode cX9_words 25 = .ok (.ireturn, 1) := by decide +kernel
theorem dX9_write_0 : decode cX9_write 0 = .ok (.iload_n 1, 1) := by decide +kernel
theorem dX9_write_1 : decode cX9_write 1 = .ok (.invokestatic 105, 3) := by decide +kernel
theorem dX9_write_4 : decode cX9_write 4 = .ok (.ifCond .eq 10, 3) := by decide +kernel
theorem dX9_write_7 : decode cX9_write 7 = .ok (.iload_n 2, 1) := by decide +kernel
theorem dX9_write_8 : decode cX9_write 8 = .ok (.invokestatic 87, 3) := by decide +kernel
theorem dX9_write_11 : decode cX9_write 11 = .ok (.ifCond .ne 6, 3) := by decide +kernel
theorem dX9_write_14 : decode cX9_write 14 = .ok (.bipush (-2), 2) := by decide +kernel
theorem dX9_write_16 : decode cX9_write 16 = .ok (.ireturn, 1) := by decide +kernel
theorem dX9_write_17 : decode cX9_write 17 = .ok (.aload_n 0, 1) := by decide +kernel
theorem dX9_write_18 : decode cX9_write 18 = .ok (.getfield 7, 3) := by decide +kernel
theorem dX9_write_21 : decode cX9_write 21 = .ok (.iload_n 2, 1) := by decide +kernel
theorem dX9_write_22 : decode cX9_write 22 = .ok (.iaload, 1) := by decide +kernel
theorem dX9_write_23 : decode cX9_write 23 = .ok (.ifCond .ge 9, 3) := by decide +kernel
theorem dX9_write_26 : decode cX9_write 26 = .ok (.aload_n 0, 1) := by decide +kernel
theorem dX9_write_27 : decode cX9_write 27 = .ok (.iconst 1, 1) := by decide +kernel
theorem dX9_write_28 : decode cX9_write 28 = .ok (.invokevirtual 93, 3) := by decide +kernel
theorem dX9_write_31 : decode cX9_write 31 = .ok (.ireturn, 1) := by decide +kernel
theorem dX9_write_32 : decode cX9_write 32 = .ok (.aload_n 0, 1) := by decide +kernel
theorem dX9_write_33 : decode cX9_write 33 = .ok (.invokevirtual 152, 3) := by decide +kernel
theorem dX9_write_36 : decode cX9_write 36 = .ok (.aload_n 0, 1) := by decide +kernel
theorem dX9_write_37 : decode cX9_write 37 = .ok (.getfield 13, 3) := by decide +kernel
theorem dX9_write_40 : decode cX9_write 40 = .ok (.iload_n 2, 1) := by decide +kernel
theorem dX9_write_41 : decode cX9_write 41 = .ok (.iaload, 1) := by decide +kernel
theorem dX9_write_42 : decode cX9_write 42 = .ok (.bipush 40, 2) := by decide +kernel
theorem dX9_write_44 : decode cX9_write 44 = .ok (.invokestatic 77, 3) := by decide +kernel
theorem dX9_write_47 : decode cX9_write 47 = .ok (.istore_n 3, 1) := by decide +kernel
theorem dX9_write_48 : decode cX9_write 48 = .ok (.iconst 0, 1) := by decide +kernel
theorem dX9_write_49 : decode cX9_write 49 = .ok (.istore 4, 2) := by decide +kernel
theorem dX9_write_51 : decode cX9_write 51 = .ok (.iload 4, 2) := by decide +kernel
theorem dX9_write_53 : decode cX9_write 53 = .ok (.iload_n 3, 1) := by decide +kernel
theorem dX9_write_54 : decode cX9_write 54 = .ok (.if_icmp .ge 41, 3) := by decide +kernel
theorem dX9_write_57 : decode cX9_write 57 = .ok (.aload_n 0, 1) := by decide +kernel
theorem dX9_write_58 : decode cX9_write 58 = .ok (.getfield 16, 3) := by decide +kernel
theorem dX9_write_61 : decode cX9_write 61 = .ok (.bipush 60, 2) := by decide +kernel
theorem dX9_write_63 : decode cX9_write 63 = .ok (.iload_n 2, 1) := by decide +kernel
theorem dX9_write_64 : decode cX9_write 64 = .ok (.imul, 1) := by decide +kernel
theorem dX9_write_65 : decode cX9_write 65 = .ok (.iload 4, 2) := by decide +kernel
theorem dX9_write_67 : decode cX9_write 67 = .ok (.iadd, 1) := by decide +kernel
theorem dX9_write_68 : decode cX9_write 68 = .ok (.aload_n 0, 1) := by decide +kernel
theorem dX9_write_69 : decode cX9_write 69 = .ok (.getfield 7, 3) := by decide +kernel
theorem dX9_write_72 : decode cX9_write 72 = .ok (.iload_n 2, 1) := by decide +kernel
theorem dX9_write_73 : decode cX9_write 73 = .ok (.iaload, 1) := by decide +kernel
theorem dX9_write_74 : decode cX9_write 74 = .ok (.aload_n 0, 1) := by decide +kernel
theorem dX9_write_75 : decode cX9_write 75 = .ok (.getfield 44, 3) := by decide +kernel
theorem dX9_write_78 : decode cX9_write 78 = .ok (.iconst 2, 1) := by decide +kernel
theorem dX9_write_79 : decode cX9_write 79 = .ok (.iload 4, 2) := by decide +kernel
theorem dX9_write_81 : decode cX9_write 81 = .ok (.imul, 1) := by decide +kernel
theorem dX9_write_82 : decode cX9_write 82 = .ok (.iload_n 1, 1) := by decide +kernel
theorem dX9_write_83 : decode cX9_write 83 = .ok (.iadd, 1) := by decide +kernel
theorem dX9_write_84 : decode cX9_write 84 = .ok (.iaload, 1) := by decide +kernel
theorem dX9_write_85 : decode cX9_write 85 = .ok (.invokestatic 101, 3) := by decide +kernel
theorem dX9_write_88 : decode cX9_write 88 = .ok (.iastore, 1) := by decide +kernel
theorem dX9_write_89 : decode cX9_write 89 = .ok (.iinc 4 1, 3) := by decide +kernel
theorem dX9_write_92 : decode cX9_write 92 = .ok (.goto (-41), 3) := by decide +kernel
theorem dX9_write_95 : decode cX9_write 95 = .ok (.iload_n 3, 1) := by decide +kernel
theorem dX9_write_96 : decode cX9_write 96 = .ok (.ireturn, 1) := by decide +kernel
theorem dX9_count_0 : decode cX9_count 0 = .ok (.iconst 0, 1) := by decide +kernel
theorem dX9_count_1 : decode cX9_count 1 = .ok (.istore_n 2, 1) := by decide +kernel
theorem dX9_count_2 : decode cX9_count 2 = .ok (.aload_n 0, 1) := by decide +kernel
theorem dX9_count_3 : decode cX9_count 3 = .ok (.invokevirtual 128, 3) := by decide +kernel
theorem dX9_count_6 : decode cX9_count 6 = .ok (.iload_n 1, 1) := by decide +kernel
theorem dX9_count_7 : decode cX9_count 7 = .ok (.tableswitch 125 0 8 #[49, 54, 59, 59, 68, 73, 78, 113, 120], 49) := by decide +kernel
theorem dX9_count_56 : decode cX9_count 56 = .ok (.aload_n 0, 1) := by decide +kernel
theorem dX9_count_57 : decode cX9_count 57 = .ok (.getfield 110, 3) := by decide +kernel
theorem dX9_count_60 : decode cX9_count 60 = .ok (.ireturn, 1) := by decide +kernel
theorem dX9_count_61 : decode cX9_count 61 = .ok (.aload_n 0, 1) := by decide +kernel
theorem dX9_count_62 : decode cX9_count 62 = .ok (.getfield 118, 3) := by decide +kernel
theorem dX9_count_65 : decode cX9_count 65 = .ok (.ireturn, 1) := by decide +kernel
theorem dX9_count_66 : decode cX9_count 66 = .ok (.aload_n 0, 1) := by decide +kernel
theorem dX9_count_67 : decode cX9_count 67 = .ok (.getfield 25, 3) := by decide +kernel
theorem dX9_count_70 : decode cX9_count 70 = .ok (.iload_n 1, 1) := by decide +kernel
theorem dX9_count_71 : decode cX9_count 71 = .ok (.iconst 2, 1) := by decide +kernel
theorem dX9_count_72 : decode cX9_count 72 = .ok (.isub, 1) := by decide +kernel
theorem dX9_count_73 : decode cX9_count 73 = .ok (.iaload, 1) := by decide +kernel
theorem dX9_count_74 : decode cX9_count 74 = .ok (.ireturn, 1) := by decide +kernel
theorem dX9_count_75 : decode cX9_count 75 = .ok (.aload_n 0, 1) := by decide +kernel
theorem dX9_count_76 : decode cX9_count 76 = .ok (.getfield 249, 3) := by decide +kernel
theorem dX9_count_79 : decode cX9_count 79 = .ok (.ireturn, 1) := by decide +kernel
theorem dX9_count_80 : decode cX9_count 80 = .ok (.aload_n 0, 1) := by decide +kernel
theorem dX9_count_81 : decode cX9_count 81 = .ok (.getfield 113, 3) := by decide +kernel
theorem dX9_count_84 : decode cX9_count 84 = .ok (.ireturn, 1) := by decide +kernel
theorem dX9_count_85 : decode cX9_count 85 = .ok (.iconst 0, 1) := by decide +kernel
theorem dX9_count_86 : decode cX9_count 86 = .ok (.istore_n 3, 1) := by decide +kernel
theorem dX9_count_87 : decode cX9_count 87 = .ok (.iload_n 3, 1) := by decide +kernel
theorem dX9_count_88 : decode cX9_count 88 = .ok (.aload_n 0, 1) := by decide +kernel
theorem dX9_count_89 : decode cX9_count 89 = .ok (.getfield 118, 3) := by decide +kernel
theorem dX9_count_92 : decode cX9_count 92 = .ok (.if_icmp .ge 26, 3) := by decide +kernel
theorem dX9_count_95 : decode cX9_count 95 = .ok (.iload_n 2, 1) := by decide +kernel
theorem dX9_count_96 : decode cX9_count 96 = .ok (.aload_n 0, 1) := by decide +kernel
theorem dX9_count_97 : decode cX9_count 97 = .ok (.getfield 34, 3) := by decide +kernel
theorem dX9_count_100 : decode cX9_count 100 = .ok (.iload_n 3, 1) := by decide +kernel
theorem dX9_count_101 : decode cX9_count 101 = .ok (.baload, 1) := by decide +kernel
theorem dX9_count_102 : decode cX9_count 102 = .ok (.ifCond .eq 7, 3) := by decide +kernel
theorem dX9_count_105 : decode cX9_count 105 = .ok (.iconst 1, 1) := by decide +kernel
theorem dX9_count_106 : decode cX9_count 106 = .ok (.goto 4, 3) := by decide +kernel
theorem dX9_count_109 : decode cX9_count 109 = .ok (.iconst 0, 1) := by decide +kernel
theorem dX9_count_110 : decode cX9_count 110 = .ok (.iadd, 1) := by decide +kernel
theorem dX9_count_111 : decode cX9_count 111 = .ok (.istore_n 2, 1) := by decide +kernel
theorem dX9_count_112 : decode cX9_count 112 = .ok (.iinc 3 1, 3) := by decide +kernel
theorem dX9_count_115 : decode cX9_count 115 = .ok (.goto (-28), 3) := by decide +kernel
theorem dX9_count_118 : decode cX9_count 118 = .ok (.iload_n 2, 1) := by decide +kernel
theorem dX9_count_119 : decode cX9_count 119 = .ok (.ireturn, 1) := by decide +kernel
theorem dX9_count_120 : decode cX9_count 120 = .ok (.aload_n 0, 1) := by decide +kernel
theorem dX9_count_121 : decode cX9_count 121 = .ok (.getfield 41, 3) := by decide +kernel
theorem dX9_count_124 : decode cX9_count 124 = .ok (.iconst 4, 1) := by decide +kernel
theorem dX9_count_125 : decode cX9_count 125 = .ok (.iaload, 1) := by decide +kernel
theorem dX9_count_126 : decode cX9_count 126 = .ok (.ireturn, 1) := by decide +kernel
theorem dX9_count_127 : decode cX9_count 127 = .ok (.aload_n 0, 1) := by decide +kernel
theorem dX9_count_128 : decode cX9_count 128 = .ok (.getfield 81, 3) := by decide +kernel
theorem dX9_count_131 : decode cX9_count 131 = .ok (.ireturn, 1) := by decide +kernel
theorem dX9_count_132 : decode cX9_count 132 = .ok (.bipush (-2), 2) := by decide +kernel
theorem dX9_count_134 : decode cX9_count 134 = .ok (.ireturn, 1) := by decide +kernel
theorem dX9_digest_0 : decode cX9_digest 0 = .ok (.ldc2_w 272, 3) := by decide +kernel
theorem dX9_digest_3 : decode cX9_digest 3 = .ok (.lstore_n 1, 1) := by decide +kernel
theorem dX9_digest_4 : decode cX9_digest 4 = .ok (.iconst 0, 1) := by decide +kernel
theorem dX9_digest_5 : decode cX9_digest 5 = .ok (.istore_n 3, 1) := by decide +kernel
theorem dX9_digest_6 : decode cX9_digest 6 = .ok (.iload_n 3, 1) := by decide +kernel
theorem dX9_digest_7 : decode cX9_digest 7 = .ok (.bipush 8, 2) := by decide +kernel
theorem dX9_digest_9 : decode cX9_digest 9 = .ok (.if_icmp .ge 22, 3) := by decide +kernel
theorem dX9_digest_12 : decode cX9_digest 12 = .ok (.ldc2_w 274, 3) := by decide +kernel
theorem dX9_digest_15 : decode cX9_digest 15 = .ok (.lload_n 1, 1) := by decide +kernel
theorem dX9_digest_16 : decode cX9_digest 16 = .ok (.lmul, 1) := by decide +kernel
theorem dX9_digest_17 : decode cX9_digest 17 = .ok (.aload_n 0, 1) := by decide +kernel
theorem dX9_digest_18 : decode cX9_digest 18 = .ok (.iload_n 3, 1) := by decide +kernel
theorem dX9_digest_19 : decode cX9_digest 19 = .ok (.invokevirtual 276, 3) := by decide +kernel
theorem dX9_digest_22 : decode cX9_digest 22 = .ok (.i2l, 1) := by decide +kernel
theorem dX9_digest_23 : decode cX9_digest 23 = .ok (.ladd, 1) := by decide +kernel
theorem dX9_digest_24 : decode cX9_digest 24 = .ok (.lstore_n 1, 1) := by decide +kernel
theorem dX9_digest_25 : decode cX9_digest 25 = .ok (.iinc 3 1, 3) := by decide +kernel
theorem dX9_digest_28 : decode cX9_digest 28 = .ok (.goto (-22), 3) := by decide +kernel
theorem dX9_digest_31 : decode cX9_digest 31 = .ok (.ldc2_w 274, 3) := by decide +kernel
theorem dX9_digest_34 : decode cX9_digest 34 = .ok (.lload_n 1, 1) := by decide +kernel
theorem dX9_digest_35 : decode cX9_digest 35 = .ok (.lmul, 1) := by decide +kernel
theorem dX9_digest_36 : decode cX9_digest 36 = .ok (.aload_n 0, 1) := by decide +kernel
theorem dX9_digest_37 : decode cX9_digest 37 = .ok (.invokevirtual 121, 3) := by decide +kernel
theorem dX9_digest_40 : decode cX9_digest 40 = .ok (.i2l, 1) := by decide +kernel
theorem dX9_digest_41 : decode cX9_digest 41 = .ok (.ladd, 1) := by decide +kernel
theorem dX9_digest_42 : decode cX9_digest 42 = .ok (.lstore_n 1, 1) := by decide +kernel
theorem dX9_digest_43 : decode cX9_digest 43 = .ok (.ldc2_w 274, 3) := by decide +kernel
theorem dX9_digest_46 : decode cX9_digest 46 = .ok (.lload_n 1, 1) := by decide +kernel
theorem dX9_digest_47 : decode cX9_digest 47 = .ok (.lmul, 1) := by decide +kernel
theorem dX9_digest_48 : decode cX9_digest 48 = .ok (.aload_n 0, 1) := by decide +kernel
theorem dX9_digest_49 : decode cX9_digest 49 = .ok (.invokevirtual 125, 3) := by decide +kernel
theorem dX9_digest_52 : decode cX9_digest 52 = .ok (.i2l, 1) := by decide +kernel
theorem dX9_digest_53 : decode cX9_digest 53 = .ok (.ladd, 1) := by decide +kernel
theorem dX9_digest_54 : decode cX9_digest 54 = .ok (.lstore_n 1, 1) := by decide +kernel
theorem dX9_digest_55 : decode cX9_digest 55 = .ok (.aload_n 0, 1) := by decide +kernel
theorem dX9_digest_56 : decode cX9_digest 56 = .ok (.invokevirtual 152, 3) := by decide +kernel
theorem dX9_digest_59 : decode cX9_digest 59 = .ok (.iconst 0, 1) := by decide +kernel
theorem dX9_digest_60 : decode cX9_digest 60 = .ok (.istore_n 3, 1) := by decide +kernel
theorem dX9_digest_61 : decode cX9_digest 61 = .ok (.iload_n 3, 1) := by decide +kernel
theorem dX9_digest_62 : decode cX9_digest 62 = .ok (.aload_n 0, 1) := by decide +kernel
theorem dX9_digest_63 : decode cX9_digest 63 = .ok (.getfield 110, 3) := by decide +kernel
theorem dX9_digest_66 : decode cX9_digest 66 = .ok (.if_icmp .ge 69, 3) := by decide +kernel
theorem dX9_digest_69 : decode cX9_digest 69 = .ok (.ldc2_w 274, 3) := by decide +kernel
theorem dX9_digest_72 : decode cX9_digest 72 = .ok (.lload_n 1, 1) := by decide +kernel
theorem dX9_digest_73 : decode cX9_digest 73 = .ok (.lmul, 1) := by decide +kernel
theorem dX9_digest_74 : decode cX9_digest 74 = .ok (.aload_n 0, 1) := by decide +kernel
theorem dX9_digest_75 : decode cX9_digest 75 = .ok (.getfield 28, 3) := by decide +kernel
theorem dX9_digest_78 : decode cX9_digest 78 = .ok (.iload_n 3, 1) := by decide +kernel
theorem dX9_digest_79 : decode cX9_digest 79 = .ok (.iaload, 1) := by decide +kernel
theorem dX9_digest_80 : decode cX9_digest 80 = .ok (.i2l, 1) := by decide +kernel
theorem dX9_digest_81 : decode cX9_digest 81 = .ok (.ladd, 1) := by decide +kernel
theorem dX9_digest_82 : decode cX9_digest 82 = .ok (.lstore_n 1, 1) := by decide +kernel
theorem dX9_digest_83 : decode cX9_digest 83 = .ok (.ldc2_w 274, 3) := by decide +kernel
theorem dX9_digest_86 : decode cX9_digest 86 = .ok (.lload_n 1, 1) := by decide +kernel
theorem dX9_digest_87 : decode cX9_digest 87 = .ok (.lmul, 1) := by decide +kernel
theorem dX9_digest_88 : decode cX9_digest 88 = .ok (.aload_n 0, 1) := by decide +kernel
theorem dX9_digest_89 : decode cX9_digest 89 = .ok (.iconst 3, 1) := by decide +kernel
theorem dX9_digest_90 : decode cX9_digest 90 = .ok (.iload_n 3, 1) := by decide +kernel
theorem dX9_digest_91 : decode cX9_digest 91 = .ok (.invokevirtual 174, 3) := by decide +kernel
theorem dX9_digest_94 : decode cX9_digest 94 = .ok (.i2l, 1) := by decide +kernel
theorem dX9_digest_95 : decode cX9_digest 95 = .ok (.aload_n 0, 1) := by decide +kernel
theorem dX9_digest_96 : decode cX9_digest 96 = .ok (.getfield 113, 3) := by decide +kernel
theorem dX9_digest_99 : decode cX9_digest 99 = .ok (.i2l, 1) := by decide +kernel
theorem dX9_digest_100 : decode cX9_digest 100 = .ok (.iconst 0, 1) := by decide +kernel
theorem dX9_digest_101 : decode cX9_digest 101 = .ok (.invokestatic 177, 3) := by decide +kernel
theorem dX9_digest_104 : decode cX9_digest 104 = .ok (.ladd, 1) := by decide +kernel
theorem dX9_digest_105 : decode cX9_digest 105 = .ok (.lstore_n 1, 1) := by decide +kernel
theorem dX9_digest_106 : decode cX9_digest 106 = .ok (.ldc2_w 274, 3) := by decide +kernel
theorem dX9_digest_109 : decode cX9_digest 109 = .ok (.lload_n 1, 1) := by decide +kernel
theorem dX9_digest_110 : decode cX9_digest 110 = .ok (.lmul, 1) := by decide +kernel
theorem dX9_digest_111 : decode cX9_digest 111 = .ok (.aload_n 0, 1) := by decide +kernel
theorem dX9_digest_112 : decode cX9_digest 112 = .ok (.iconst 3, 1) := by decide +kernel
theorem dX9_digest_113 : decode cX9_digest 113 = .ok (.iload_n 3, 1) := by decide +kernel
theorem dX9_digest_114 : decode cX9_digest 114 = .ok (.invokevirtual 174, 3) := by decide +kernel
theorem dX9_digest_117 : decode cX9_digest 117 = .ok (.i2l, 1) := by decide +kernel
theorem dX9_digest_118 : decode cX9_digest 118 = .ok (.aload_n 0, 1) := by decide +kernel
theorem dX9_digest_119 : decode cX9_digest 119 = .ok (.getfield 113, 3) := by decide +kernel
theorem dX9_digest_122 : decode cX9_digest 122 = .ok (.i2l, 1) := by decide +kernel
theorem dX9_digest_123 : decode cX9_digest 123 = .ok (.iconst 1, 1) := by decide +kernel
theorem dX9_digest_124 : decode cX9_digest 124 = .ok (.invokestatic 177, 3) := by decide +kernel
theorem dX9_digest_127 : decode cX9_digest 127 = .ok (.ladd, 1) := by decide +kernel
theorem dX9_digest_128 : decode cX9_digest 128 = .ok (.lstore_n 1, 1) := by decide +kernel
theorem dX9_digest_129 : decode cX9_digest 129 = .ok (.iinc 3 1, 3) := by decide +kernel
theorem dX9_digest_132 : decode cX9_digest 132 = .ok (.goto (-71), 3) := by decide +kernel
theorem dX9_digest_135 : decode cX9_digest 135 = .ok (.iconst 0, 1) := by decide +kernel
theorem dX9_digest_136 : decode cX9_digest 136 = .ok (.istore_n 3, 1) := by decide +kernel
theorem dX9_digest_137 : decode cX9_digest 137 = .ok (.iload_n 3, 1) := by decide +kernel
theorem dX9_digest_138 : decode cX9_digest 138 = .ok (.aload_n 0, 1) := by decide +kernel
theorem dX9_digest_139 : decode cX9_digest 139 = .ok (.getfield 118, 3) := by decide +kernel
theorem dX9_digest_142 : decode cX9_digest 142 = .ok (.if_icmp .ge 45, 3) := by decide +kernel
theorem dX9_digest_145 : decode cX9_digest 145 = .ok (.ldc2_w 274, 3) := by decide +kernel
theorem dX9_digest_148 : decode cX9_digest 148 = .ok (.lload_n 1, 1) := by decide +kernel
theorem dX9_digest_149 : decode cX9_digest 149 = .ok (.lmul, 1) := by decide +kernel
theorem dX9_digest_150 : decode cX9_digest 150 = .ok (.aload_n 0, 1) := by decide +kernel
theorem dX9_digest_151 : decode cX9_digest 151 = .ok (.getfield 31, 3) := by decide +kernel
theorem dX9_digest_154 : decode cX9_digest 154 = .ok (.iload_n 3, 1) := by decide +kernel
theorem dX9_digest_155 : decode cX9_digest 155 = .ok (.iaload, 1) := by decide +kernel
theorem dX9_digest_156 : decode cX9_digest 156 = .ok (.i2l, 1) := by decide +kernel
theorem dX9_digest_157 : decode cX9_digest 157 = .ok (.ladd, 1) := by decide +kernel
theorem dX9_digest_158 : decode cX9_digest 158 = .ok (.lstore_n 1, 1) := by decide +kernel
theorem dX9_digest_159 : decode cX9_digest 159 = .ok (.ldc2_w 274, 3) := by decide +kernel
theorem dX9_digest_162 : decode cX9_digest 162 = .ok (.lload_n 1, 1) := by decide +kernel
theorem dX9_digest_163 : decode cX9_digest 163 = .ok (.lmul, 1) := by decide +kernel
theorem dX9_digest_164 : decode cX9_digest 164 = .ok (.aload_n 0, 1) := by decide +kernel
theorem dX9_digest_165 : decode cX9_digest 165 = .ok (.getfield 34, 3) := by decide +kernel
theorem dX9_digest_168 : decode cX9_digest 168 = .ok (.iload_n 3, 1) := by decide +kernel
theorem dX9_digest_169 : decode cX9_digest 169 = .ok (.baload, 1) := by decide +kernel
theorem dX9_digest_170 : decode cX9_digest 170 = .ok (.ifCond .eq 7, 3) := by decide +kernel
theorem dX9_digest_173 : decode cX9_digest 173 = .ok (.iconst 1, 1) := by decide +kernel
theorem dX9_digest_174 : decode cX9_digest 174 = .ok (.goto 4, 3) := by decide +kernel
theorem dX9_digest_177 : decode cX9_digest 177 = .ok (.iconst 0, 1) := by decide +kernel
theorem dX9_digest_178 : decode cX9_digest 178 = .ok (.i2l, 1) := by decide +kernel
theorem dX9_digest_179 : decode cX9_digest 179 = .ok (.ladd, 1) := by decide +kernel
theorem dX9_digest_180 : decode cX9_digest 180 = .ok (.lstore_n 1, 1) := by decide +kernel
theorem dX9_digest_181 : decode cX9_digest 181 = .ok (.iinc 3 1, 3) := by decide +kernel
theorem dX9_digest_184 : decode cX9_digest 184 = .ok (.goto (-47), 3) := by decide +kernel
theorem dX9_digest_187 : decode cX9_digest 187 = .ok (.iconst 0, 1) := by decide +kernel
theorem dX9_digest_188 : decode cX9_digest 188 = .ok (.istore_n 3, 1) := by decide +kernel
theorem dX9_digest_189 : decode cX9_digest 189 = .ok (.iload_n 3, 1) := by decide +kernel
theorem dX9_digest_190 : decode cX9_digest 190 = .ok (.iconst 4, 1) := by decide +kernel
theorem dX9_digest_191 : decode cX9_digest 191 = .ok (.if_icmp .ge 113, 3) := by decide +kernel
theorem dX9_digest_194 : decode cX9_digest 194 = .ok (.iload_n 3, 1) := by decide +kernel
theorem dX9_digest_195 : decode cX9_digest 195 = .ok (.iconst 2, 1) := by decide +kernel
theorem dX9_digest_196 : decode cX9_digest 196 = .ok (.if_icmp .ge 7, 3) := by decide +kernel
theorem dX9_digest_199 : decode cX9_digest 199 = .ok (.iload_n 3, 1) := by decide +kernel
theorem dX9_digest_200 : decode cX9_digest 200 = .ok (.goto 15, 3) := by decide +kernel
theorem dX9_digest_203 : decode cX9_digest 203 = .ok (.iload_n 3, 1) := by decide +kernel
theorem dX9_digest_204 : decode cX9_digest 204 = .ok (.iconst 2, 1) := by decide +kernel
theorem dX9_digest_205 : decode cX9_digest 205 = .ok (.if_icmp .ne 8, 3) := by decide +kernel
theorem dX9_digest_208 : decode cX9_digest 208 = .ok (.bipush 7, 2) := by decide +kernel
theorem dX9_digest_210 : decode cX9_digest 210 = .ok (.goto 5, 3) := by decide +kernel
theorem dX9_digest_213 : decode cX9_digest 213 = .ok (.bipush 39, 2) := by decide +kernel
theorem dX9_digest_215 : decode cX9_digest 215 = .ok (.istore 4, 2) := by decide +kernel
theorem dX9_digest_217 : decode cX9_digest 217 = .ok (.ldc2_w 274, 3) := by decide +kernel
theorem dX9_digest_220 : decode cX9_digest 220 = .ok (.lload_n 1, 1) := by decide +kernel
theorem dX9_digest_221 : decode cX9_digest 221 = .ok (.lmul, 1) := by decide +kernel
theorem dX9_digest_222 : decode cX9_digest 222 = .ok (.aload_n 0, 1) := by decide +kernel
theorem dX9_digest_223 : decode cX9_digest 223 = .ok (.getfield 44, 3) := by decide +kernel
theorem dX9_digest_226 : decode cX9_digest 226 = .ok (.iconst 2, 1) := by decide +kernel
theorem dX9_digest_227 : decode cX9_digest 227 = .ok (.iload 4, 2) := by decide +kernel
theorem dX9_digest_229 : decode cX9_digest 229 = .ok (.imul, 1) := by decide +kernel
theorem dX9_digest_230 : decode cX9_digest 230 = .ok (.iaload, 1) := by decide +kernel
theorem dX9_digest_231 : decode cX9_digest 231 = .ok (.i2l, 1) := by decide +kernel
theorem dX9_digest_232 : decode cX9_digest 232 = .ok (.ladd, 1) := by decide +kernel
theorem dX9_digest_233 : decode cX9_digest 233 = .ok (.lstore_n 1, 1) := by decide +kernel
theorem dX9_digest_234 : decode cX9_digest 234 = .ok (.ldc2_w 274, 3) := by decide +kernel
theorem dX9_digest_237 : decode cX9_digest 237 = .ok (.lload_n 1, 1) := by decide +kernel
theorem dX9_digest_238 : decode cX9_digest 238 = .ok (.lmul, 1) := by decide +kernel
theorem dX9_digest_239 : decode cX9_digest 239 = .ok (.aload_n 0, 1) := by decide +kernel
theorem dX9_digest_240 : decode cX9_digest 240 = .ok (.getfield 44, 3) := by decide +kernel
theorem dX9_digest_243 : decode cX9_digest 243 = .ok (.iconst 2, 1) := by decide +kernel
theorem dX9_digest_244 : decode cX9_digest 244 = .ok (.iload 4, 2) := by decide +kernel
theorem dX9_digest_246 : decode cX9_digest 246 = .ok (.imul, 1) := by decide +kernel
theorem dX9_digest_247 : decode cX9_digest 247 = .ok (.iconst 1, 1) := by decide +kernel
theorem dX9_digest_248 : decode cX9_digest 248 = .ok (.iadd, 1) := by decide +kernel
theorem dX9_digest_249 : decode cX9_digest 249 = .ok (.iaload, 1) := by decide +kernel
theorem dX9_digest_250 : decode cX9_digest 250 = .ok (.i2l, 1) := by decide +kernel
theorem dX9_digest_251 : decode cX9_digest 251 = .ok (.ladd, 1) := by decide +kernel
theorem dX9_digest_252 : decode cX9_digest 252 = .ok (.lstore_n 1, 1) := by decide +kernel
theorem dX9_digest_253 : decode cX9_digest 253 = .ok (.iconst 0, 1) := by decide +kernel
theorem dX9_digest_254 : decode cX9_digest 254 = .ok (.istore 5, 2) := by decide +kernel
theorem dX9_digest_256 : decode cX9_digest 256 = .ok (.iload 5, 2) := by decide +kernel
theorem dX9_digest_258 : decode cX9_digest 258 = .ok (.iconst 3, 1) := by decide +kernel
theorem dX9_digest_259 : decode cX9_digest 259 = .ok (.if_icmp .ge 25, 3) := by decide +kernel
theorem dX9_digest_262 : decode cX9_digest 262 = .ok (.ldc2_w 274, 3) := by decide +kernel
theorem dX9_digest_265 : decode cX9_digest 265 = .ok (.lload_n 1, 1) := by decide +kernel
theorem dX9_digest_266 : decode cX9_digest 266 = .ok (.lmul, 1) := by decide +kernel
theorem dX9_digest_267 : decode cX9_digest 267 = .ok (.aload_n 0, 1) := by decide +kernel
theorem dX9_digest_268 : decode cX9_digest 268 = .ok (.iload 4, 2) := by decide +kernel
theorem dX9_digest_270 : decode cX9_digest 270 = .ok (.iload 5, 2) := by decide +kernel
theorem dX9_digest_272 : decode cX9_digest 272 = .ok (.invokevirtual 161, 3) := by decide +kernel
theorem dX9_digest_275 : decode cX9_digest 275 = .ok (.i2l, 1) := by decide +kernel
theorem dX9_digest_276 : decode cX9_digest 276 = .ok (.ladd, 1) := by decide +kernel
theorem dX9_digest_277 : decode cX9_digest 277 = .ok (.lstore_n 1, 1) := by decide +kernel
theorem dX9_digest_278 : decode cX9_digest 278 = .ok (.iinc 5 1, 3) := by decide +kernel
theorem dX9_digest_281 : decode cX9_digest 281 = .ok (.goto (-25), 3) := by decide +kernel
theorem dX9_digest_284 : decode cX9_digest 284 = .ok (.ldc2_w 274, 3) := by decide +kernel
theorem dX9_digest_287 : decode cX9_digest 287 = .ok (.lload_n 1, 1) := by decide +kernel
theorem dX9_digest_288 : decode cX9_digest 288 = .ok (.lmul, 1) := by decide +kernel
theorem dX9_digest_289 : decode cX9_digest 289 = .ok (.aload_n 0, 1) := by decide +kernel
theorem dX9_digest_290 : decode cX9_digest 290 = .ok (.iload 4, 2) := by decide +kernel
theorem dX9_digest_292 : decode cX9_digest 292 = .ok (.invokevirtual 181, 3) := by decide +kernel
theorem dX9_digest_295 : decode cX9_digest 295 = .ok (.i2l, 1) := by decide +kernel
theorem dX9_digest_296 : decode cX9_digest 296 = .ok (.ladd, 1) := by decide +kernel
theorem dX9_digest_297 : decode cX9_digest 297 = .ok (.lstore_n 1, 1) := by decide +kernel
theorem dX9_digest_298 : decode cX9_digest 298 = .ok (.iinc 3 1, 3) := by decide +kernel
theorem dX9_digest_301 : decode cX9_digest 301 = .ok (.goto (-112), 3) := by decide +kernel
theorem dX9_digest_304 : decode cX9_digest 304 = .ok (.ldc2_w 274, 3) := by decide +kernel
theorem dX9_digest_307 : decode cX9_digest 307 = .ok (.lload_n 1, 1) := by decide +kernel
theorem dX9_digest_308 : decode cX9_digest 308 = .ok (.lmul, 1) := by decide +kernel
theorem dX9_digest_309 : decode cX9_digest 309 = .ok (.aload_n 0, 1) := by decide +kernel
theorem dX9_digest_310 : decode cX9_digest 310 = .ok (.invokevirtual 188, 3) := by decide +kernel
theorem dX9_digest_313 : decode cX9_digest 313 = .ok (.i2l, 1) := by decide +kernel
theorem dX9_digest_314 : decode cX9_digest 314 = .ok (.ladd, 1) := by decide +kernel
theorem dX9_digest_315 : decode cX9_digest 315 = .ok (.lstore_n 1, 1) := by decide +kernel
theorem dX9_digest_316 : decode cX9_digest 316 = .ok (.ldc2_w 274, 3) := by decide +kernel
theorem dX9_digest_319 : decode cX9_digest 319 = .ok (.lload_n 1, 1) := by decide +kernel
theorem dX9_digest_320 : decode cX9_digest 320 = .ok (.lmul, 1) := by decide +kernel
theorem dX9_digest_321 : decode cX9_digest 321 = .ok (.aload_n 0, 1) := by decide +kernel
theorem dX9_digest_322 : decode cX9_digest 322 = .ok (.iconst 0, 1) := by decide +kernel
theorem dX9_digest_323 : decode cX9_digest 323 = .ok (.invokevirtual 194, 3) := by decide +kernel
theorem dX9_digest_326 : decode cX9_digest 326 = .ok (.i2l, 1) := by decide +kernel
theorem dX9_digest_327 : decode cX9_digest 327 = .ok (.ladd, 1) := by decide +kernel
theorem dX9_digest_328 : decode cX9_digest 328 = .ok (.lstore_n 1, 1) := by decide +kernel
theorem dX9_digest_329 : decode cX9_digest 329 = .ok (.ldc2_w 274, 3) := by decide +kernel
theorem dX9_digest_332 : decode cX9_digest 332 = .ok (.lload_n 1, 1) := by decide +kernel
theorem dX9_digest_333 : decode cX9_digest 333 = .ok (.lmul, 1) := by decide +kernel
theorem dX9_digest_334 : decode cX9_digest 334 = .ok (.aload_n 0, 1) := by decide +kernel
theorem dX9_digest_335 : decode cX9_digest 335 = .ok (.iconst 1, 1) := by decide +kernel
theorem dX9_digest_336 : decode cX9_digest 336 = .ok (.invokevirtual 194, 3) := by decide +kernel
theorem dX9_digest_339 : decode cX9_digest 339 = .ok (.i2l, 1) := by decide +kernel
theorem dX9_digest_340 : decode cX9_digest 340 = .ok (.ladd, 1) := by decide +kernel
theorem dX9_digest_341 : decode cX9_digest 341 = .ok (.lstore_n 1, 1) := by decide +kernel
theorem dX9_digest_342 : decode cX9_digest 342 = .ok (.ldc2_w 274, 3) := by decide +kernel
theorem dX9_digest_345 : decode cX9_digest 345 = .ok (.lload_n 1, 1) := by decide +kernel
theorem dX9_digest_346 : decode cX9_digest 346 = .ok (.lmul, 1) := by decide +kernel
theorem dX9_digest_347 : decode cX9_digest 347 = .ok (.aload_n 0, 1) := by decide +kernel
theorem dX9_digest_348 : decode cX9_digest 348 = .ok (.invokevirtual 197, 3) := by decide +kernel
theorem dX9_digest_351 : decode cX9_digest 351 = .ok (.i2l, 1) := by decide +kernel
theorem dX9_digest_352 : decode cX9_digest 352 = .ok (.ladd, 1) := by decide +kernel
theorem dX9_digest_353 : decode cX9_digest 353 = .ok (.lstore_n 1, 1) := by decide +kernel
theorem dX9_digest_354 : decode cX9_digest 354 = .ok (.ldc2_w 274, 3) := by decide +kernel
theorem dX9_digest_357 : decode cX9_digest 357 = .ok (.lload_n 1, 1) := by decide +kernel
theorem dX9_digest_358 : decode cX9_digest 358 = .ok (.lmul, 1) := by decide +kernel
theorem dX9_digest_359 : decode cX9_digest 359 = .ok (.aload_n 0, 1) := by decide +kernel
theorem dX9_digest_360 : decode cX9_digest 360 = .ok (.invokevirtual 203, 3) := by decide +kernel
theorem dX9_digest_363 : decode cX9_digest 363 = .ok (.i2l, 1) := by decide +kernel
theorem dX9_digest_364 : decode cX9_digest 364 = .ok (.ladd, 1) := by decide +kernel
theorem dX9_digest_365 : decode cX9_digest 365 = .ok (.lstore_n 1, 1) := by decide +kernel
theorem dX9_digest_366 : decode cX9_digest 366 = .ok (.ldc2_w 274, 3) := by decide +kernel
theorem dX9_digest_369 : decode cX9_digest 369 = .ok (.lload_n 1, 1) := by decide +kernel
theorem dX9_digest_370 : decode cX9_digest 370 = .ok (.lmul, 1) := by decide +kernel
theorem dX9_digest_371 : decode cX9_digest 371 = .ok (.aload_n 0, 1) := by decide +kernel
theorem dX9_digest_372 : decode cX9_digest 372 = .ok (.invokevirtual 206, 3) := by decide +kernel
theorem dX9_digest_375 : decode cX9_digest 375 = .ok (.i2l, 1) := by decide +kernel
theorem dX9_digest_376 : decode cX9_digest 376 = .ok (.ladd, 1) := by decide +kernel
theorem dX9_digest_377 : decode cX9_digest 377 = .ok (.lstore_n 1, 1) := by decide +kernel
theorem dX9_digest_378 : decode cX9_digest 378 = .ok (.ldc2_w 274, 3) := by decide +kernel
theorem dX9_digest_381 : decode cX9_digest 381 = .ok (.lload_n 1, 1) := by decide +kernel
theorem dX9_digest_382 : decode cX9_digest 382 = .ok (.lmul, 1) := by decide +kernel
theorem dX9_digest_383 : decode cX9_digest 383 = .ok (.aload_n 0, 1) := by decide +kernel
theorem dX9_digest_384 : decode cX9_digest 384 = .ok (.iconst 0, 1) := by decide +kernel
theorem dX9_digest_385 : decode cX9_digest 385 = .ok (.invokevirtual 209, 3) := by decide +kernel
theorem dX9_digest_388 : decode cX9_digest 388 = .ok (.i2l, 1) := by decide +kernel
theorem dX9_digest_389 : decode cX9_digest 389 = .ok (.ladd, 1) := by decide +kernel
theorem dX9_digest_390 : decode cX9_digest 390 = .ok (.lstore_n 1, 1) := by decide +kernel
theorem dX9_digest_391 : decode cX9_digest 391 = .ok (.ldc2_w 274, 3) := by decide +kernel
theorem dX9_digest_394 : decode cX9_digest 394 = .ok (.lload_n 1, 1) := by decide +kernel
theorem dX9_digest_395 : decode cX9_digest 395 = .ok (.lmul, 1) := by decide +kernel
theorem dX9_digest_396 : decode cX9_digest 396 = .ok (.aload_n 0, 1) := by decide +kernel
theorem dX9_digest_397 : decode cX9_digest 397 = .ok (.iconst 1, 1) := by decide +kernel
theorem dX9_digest_398 : decode cX9_digest 398 = .ok (.invokevirtual 209, 3) := by decide +kernel
theorem dX9_digest_401 : decode cX9_digest 401 = .ok (.i2l, 1) := by decide +kernel
theorem dX9_digest_402 : decode cX9_digest 402 = .ok (.ladd, 1) := by decide +kernel
theorem dX9_digest_403 : decode cX9_digest 403 = .ok (.lstore_n 1, 1) := by decide +kernel
theorem dX9_digest_404 : decode cX9_digest 404 = .ok (.ldc2_w 274, 3) := by decide +kernel
theorem dX9_digest_407 : decode cX9_digest 407 = .ok (.lload_n 1, 1) := by decide +kernel
theorem dX9_digest_408 : decode cX9_digest 408 = .ok (.lmul, 1) := by decide +kernel
theorem dX9_digest_409 : decode cX9_digest 409 = .ok (.aload_n 0, 1) := by decide +kernel
theorem dX9_digest_410 : decode cX9_digest 410 = .ok (.iconst 0, 1) := by decide +kernel
theorem dX9_digest_411 : decode cX9_digest 411 = .ok (.iconst 3, 1) := by decide +kernel
theorem dX9_digest_412 : decode cX9_digest 412 = .ok (.invokevirtual 212, 3) := by decide +kernel
theorem dX9_digest_415 : decode cX9_digest 415 = .ok (.i2l, 1) := by decide +kernel
theorem dX9_digest_416 : decode cX9_digest 416 = .ok (.ladd, 1) := by decide +kernel
theorem dX9_digest_417 : decode cX9_digest 417 = .ok (.lstore_n 1, 1) := by decide +kernel
theorem dX9_digest_418 : decode cX9_digest 418 = .ok (.ldc2_w 274, 3) := by decide +kernel
theorem dX9_digest_421 : decode cX9_digest 421 = .ok (.lload_n 1, 1) := by decide +kernel
theorem dX9_digest_422 : decode cX9_digest 422 = .ok (.lmul, 1) := by decide +kernel
theorem dX9_digest_423 : decode cX9_digest 423 = .ok (.aload_n 0, 1) := by decide +kernel
theorem dX9_digest_424 : decode cX9_digest 424 = .ok (.iconst 4, 1) := by decide +kernel
theorem dX9_digest_425 : decode cX9_digest 425 = .ok (.iconst 1, 1) := by decide +kernel
theorem dX9_digest_426 : decode cX9_digest 426 = .ok (.invokevirtual 212, 3) := by decide +kernel
theorem dX9_digest_429 : decode cX9_digest 429 = .ok (.i2l, 1) := by decide +kernel
theorem dX9_digest_430 : decode cX9_digest 430 = .ok (.ladd, 1) := by decide +kernel
theorem dX9_digest_431 : decode cX9_digest 431 = .ok (.lstore_n 1, 1) := by decide +kernel
theorem dX9_digest_432 : decode cX9_digest 432 = .ok (.ldc2_w 274, 3) := by decide +kernel
theorem dX9_digest_435 : decode cX9_digest 435 = .ok (.lload_n 1, 1) := by decide +kernel
theorem dX9_digest_436 : decode cX9_digest 436 = .ok (.lmul, 1) := by decide +kernel
theorem dX9_digest_437 : decode cX9_digest 437 = .ok (.aload_n 0, 1) := by decide +kernel
theorem dX9_digest_438 : decode cX9_digest 438 = .ok (.iconst 0, 1) := by decide +kernel
theorem dX9_digest_439 : decode cX9_digest 439 = .ok (.invokevirtual 215, 3) := by decide +kernel
theorem dX9_digest_442 : decode cX9_digest 442 = .ok (.i2l, 1) := by decide +kernel
theorem dX9_digest_443 : decode cX9_digest 443 = .ok (.ladd, 1) := by decide +kernel
theorem dX9_digest_444 : decode cX9_digest 444 = .ok (.lstore_n 1, 1) := by decide +kernel
theorem dX9_digest_445 : decode cX9_digest 445 = .ok (.ldc2_w 274, 3) := by decide +kernel
theorem dX9_digest_448 : decode cX9_digest 448 = .ok (.lload_n 1, 1) := by decide +kernel
theorem dX9_digest_449 : decode cX9_digest 449 = .ok (.lmul, 1) := by decide +kernel
theorem dX9_digest_450 : decode cX9_digest 450 = .ok (.aload_n 0, 1) := by decide +kernel
theorem dX9_digest_451 : decode cX9_digest 451 = .ok (.iconst 1, 1) := by decide +kernel
theorem dX9_digest_452 : decode cX9_digest 452 = .ok (.invokevirtual 215, 3) := by decide +kernel
theorem dX9_digest_455 : decode cX9_digest 455 = .ok (.i2l, 1) := by decide +kernel
theorem dX9_digest_456 : decode cX9_digest 456 = .ok (.ladd, 1) := by decide +kernel
theorem dX9_digest_457 : decode cX9_digest 457 = .ok (.lstore_n 1, 1) := by decide +kernel
theorem dX9_digest_458 : decode cX9_digest 458 = .ok (.aload_n 0, 1) := by decide +kernel
theorem dX9_digest_459 : decode cX9_digest 459 = .ok (.invokevirtual 240, 3) := by decide +kernel
theorem dX9_digest_462 : decode cX9_digest 462 = .ok (.ldc2_w 274, 3) := by decide +kernel
theorem dX9_digest_465 : decode cX9_digest 465 = .ok (.lload_n 1, 1) := by decide +kernel
theorem dX9_digest_466 : decode cX9_digest 466 = .ok (.lmul, 1) := by decide +kernel
theorem dX9_digest_467 : decode cX9_digest 467 = .ok (.aload_n 0, 1) := by decide +kernel
theorem dX9_digest_468 : decode cX9_digest 468 = .ok (.iconst 0, 1) := by decide +kernel
theorem dX9_digest_469 : decode cX9_digest 469 = .ok (.invokevirtual 243, 3) := by decide +kernel
theorem dX9_digest_472 : decode cX9_digest 472 = .ok (.i2l, 1) := by decide +kernel
theorem dX9_digest_473 : decode cX9_digest 473 = .ok (.ladd, 1) := by decide +kernel
theorem dX9_digest_474 : decode cX9_digest 474 = .ok (.lstore_n 1, 1) := by decide +kernel
theorem dX9_digest_475 : decode cX9_digest 475 = .ok (.ldc2_w 274, 3) := by decide +kernel
theorem dX9_digest_478 : decode cX9_digest 478 = .ok (.lload_n 1, 1) := by decide +kernel
theorem dX9_digest_479 : decode cX9_digest 479 = .ok (.lmul, 1) := by decide +kernel
theorem dX9_digest_480 : decode cX9_digest 480 = .ok (.aload_n 0, 1) := by decide +kernel
theorem dX9_digest_481 : decode cX9_digest 481 = .ok (.iconst 1, 1) := by decide +kernel
theorem dX9_digest_482 : decode cX9_digest 482 = .ok (.invokevirtual 243, 3) := by decide +kernel
theorem dX9_digest_485 : decode cX9_digest 485 = .ok (.i2l, 1) := by decide +kernel
theorem dX9_digest_486 : decode cX9_digest 486 = .ok (.ladd, 1) := by decide +kernel
theorem dX9_digest_487 : decode cX9_digest 487 = .ok (.lstore_n 1, 1) := by decide +kernel
theorem dX9_digest_488 : decode cX9_digest 488 = .ok (.ldc2_w 274, 3) := by decide +kernel
theorem dX9_digest_491 : decode cX9_digest 491 = .ok (.lload_n 1, 1) := by decide +kernel
theorem dX9_digest_492 : decode cX9_digest 492 = .ok (.lmul, 1) := by decide +kernel
theorem dX9_digest_493 : decode cX9_digest 493 = .ok (.aload_n 0, 1) := by decide +kernel
theorem dX9_digest_494 : decode cX9_digest 494 = .ok (.iconst 0, 1) := by decide +kernel
theorem dX9_digest_495 : decode cX9_digest 495 = .ok (.invokevirtual 246, 3) := by decide +kernel
theorem dX9_digest_498 : decode cX9_digest 498 = .ok (.i2l, 1) := by decide +kernel
theorem dX9_digest_499 : decode cX9_digest 499 = .ok (.ladd, 1) := by decide +kernel
theorem dX9_digest_500 : decode cX9_digest 500 = .ok (.lstore_n 1, 1) := by decide +kernel
theorem dX9_digest_501 : decode cX9_digest 501 = .ok (.ldc2_w 274, 3) := by decide +kernel
theorem dX9_digest_504 : decode cX9_digest 504 = .ok (.lload_n 1, 1) := by decide +kernel
theorem dX9_digest_505 : decode cX9_digest 505 = .ok (.lmul, 1) := by decide +kernel
theorem dX9_digest_506 : decode cX9_digest 506 = .ok (.aload_n 0, 1) := by decide +kernel
theorem dX9_digest_507 : decode cX9_digest 507 = .ok (.iconst 1, 1) := by decide +kernel
theorem dX9_digest_508 : decode cX9_digest 508 = .ok (.invokevirtual 246, 3) := by decide +kernel
theorem dX9_digest_511 : decode cX9_digest 511 = .ok (.i2l, 1) := by decide +kernel
theorem dX9_digest_512 : decode cX9_digest 512 = .ok (.ladd, 1) := by decide +kernel
theorem dX9_digest_513 : decode cX9_digest 513 = .ok (.lstore_n 1, 1) := by decide +kernel
theorem dX9_digest_514 : decode cX9_digest 514 = .ok (.iconst 1, 1) := by decide +kernel
theorem dX9_digest_515 : decode cX9_digest 515 = .ok (.istore_n 3, 1) := by decide +kernel
theorem dX9_digest_516 : decode cX9_digest 516 = .ok (.iload_n 3, 1) := by decide +kernel
theorem dX9_digest_517 : decode cX9_digest 517 = .ok (.bipush 7, 2) := by decide +kernel
theorem dX9_digest_519 : decode cX9_digest 519 = .ok (.if_icmp .ge 37, 3) := by decide +kernel
theorem dX9_digest_522 : decode cX9_digest 522 = .ok (.ldc2_w 274, 3) := by decide +kernel
theorem dX9_digest_525 : decode cX9_digest 525 = .ok (.lload_n 1, 1) := by decide +kernel
theorem dX9_digest_526 : decode cX9_digest 526 = .ok (.lmul, 1) := by decide +kernel
theorem dX9_digest_527 : decode cX9_digest 527 = .ok (.aload_n 0, 1) := by decide +kernel
theorem dX9_digest_528 : decode cX9_digest 528 = .ok (.iload_n 3, 1) := by decide +kernel
theorem dX9_digest_529 : decode cX9_digest 529 = .ok (.iconst 0, 1) := by decide +kernel
theorem dX9_digest_530 : decode cX9_digest 530 = .ok (.invokevirtual 260, 3) := by decide +kernel
theorem dX9_digest_533 : decode cX9_digest 533 = .ok (.i2l, 1) := by decide +kernel
theorem dX9_digest_534 : decode cX9_digest 534 = .ok (.ladd, 1) := by decide +kernel
theorem dX9_digest_535 : decode cX9_digest 535 = .ok (.lstore_n 1, 1) := by decide +kernel
theorem dX9_digest_536 : decode cX9_digest 536 = .ok (.ldc2_w 274, 3) := by decide +kernel
theorem dX9_digest_539 : decode cX9_digest 539 = .ok (.lload_n 1, 1) := by decide +kernel
theorem dX9_digest_540 : decode cX9_digest 540 = .ok (.lmul, 1) := by decide +kernel
theorem dX9_digest_541 : decode cX9_digest 541 = .ok (.aload_n 0, 1) := by decide +kernel
theorem dX9_digest_542 : decode cX9_digest 542 = .ok (.iload_n 3, 1) := by decide +kernel
theorem dX9_digest_543 : decode cX9_digest 543 = .ok (.iconst 1, 1) := by decide +kernel
theorem dX9_digest_544 : decode cX9_digest 544 = .ok (.invokevirtual 260, 3) := by decide +kernel
theorem dX9_digest_547 : decode cX9_digest 547 = .ok (.i2l, 1) := by decide +kernel
theorem dX9_digest_548 : decode cX9_digest 548 = .ok (.ladd, 1) := by decide +kernel
theorem dX9_digest_549 : decode cX9_digest 549 = .ok (.lstore_n 1, 1) := by decide +kernel
theorem dX9_digest_550 : decode cX9_digest 550 = .ok (.iinc 3 1, 3) := by decide +kernel
theorem dX9_digest_553 : decode cX9_digest 553 = .ok (.goto (-37), 3) := by decide +kernel
theorem dX9_digest_556 : decode cX9_digest 556 = .ok (.ldc2_w 274, 3) := by decide +kernel
theorem dX9_digest_559 : decode cX9_digest 559 = .ok (.lload_n 1, 1) := by decide +kernel
theorem dX9_digest_560 : decode cX9_digest 560 = .ok (.lmul, 1) := by decide +kernel
theorem dX9_digest_561 : decode cX9_digest 561 = .ok (.aload_n 0, 1) := by decide +kernel
theorem dX9_digest_562 : decode cX9_digest 562 = .ok (.bipush 9, 2) := by decide +kernel
theorem dX9_digest_564 : decode cX9_digest 564 = .ok (.invokevirtual 263, 3) := by decide +kernel
theorem dX9_digest_567 : decode cX9_digest 567 = .ok (.i2l, 1) := by decide +kernel
theorem dX9_digest_568 : decode cX9_digest 568 = .ok (.ladd, 1) := by decide +kernel
theorem dX9_digest_569 : decode cX9_digest 569 = .ok (.lstore_n 1, 1) := by decide +kernel
theorem dX9_digest_570 : decode cX9_digest 570 = .ok (.ldc2_w 274, 3) := by decide +kernel
theorem dX9_digest_573 : decode cX9_digest 573 = .ok (.lload_n 1, 1) := by decide +kernel
theorem dX9_digest_574 : decode cX9_digest 574 = .ok (.lmul, 1) := by decide +kernel
theorem dX9_digest_575 : decode cX9_digest 575 = .ok (.iconst 5, 1) := by decide +kernel
theorem dX9_digest_576 : decode cX9_digest 576 = .ok (.bipush 7, 2) := by decide +kernel
theorem dX9_digest_578 : decode cX9_digest 578 = .ok (.iconst 3, 1) := by decide +kernel
theorem dX9_digest_579 : decode cX9_digest 579 = .ok (.iconst 0, 1) := by decide +kernel
theorem dX9_digest_580 : decode cX9_digest 580 = .ok (.invokestatic 268, 3) := by decide +kernel
theorem dX9_digest_583 : decode cX9_digest 583 = .ok (.ladd, 1) := by decide +kernel
theorem dX9_digest_584 : decode cX9_digest 584 = .ok (.lstore_n 1, 1) := by decide +kernel
theorem dX9_digest_585 : decode cX9_digest 585 = .ok (.ldc2_w 274, 3) := by decide +kernel
theorem dX9_digest_588 : decode cX9_digest 588 = .ok (.lload_n 1, 1) := by decide +kernel
theorem dX9_digest_589 : decode cX9_digest 589 = .ok (.lmul, 1) := by decide +kernel
theorem dX9_digest_590 : decode cX9_digest 590 = .ok (.iconst 5, 1) := by decide +kernel
theorem dX9_digest_591 : decode cX9_digest 591 = .ok (.bipush 7, 2) := by decide +kernel
theorem dX9_digest_593 : decode cX9_digest 593 = .ok (.iconst 3, 1) := by decide +kernel
theorem dX9_digest_594 : decode cX9_digest 594 = .ok (.iconst 1, 1) := by decide +kernel
theorem dX9_digest_595 : decode cX9_digest 595 = .ok (.invokestatic 268, 3) := by decide +kernel
theorem dX9_digest_598 : decode cX9_digest 598 = .ok (.ladd, 1) := by decide +kernel
theorem dX9_digest_599 : decode cX9_digest 599 = .ok (.lstore_n 1, 1) := by decide +kernel
theorem dX9_digest_600 : decode cX9_digest 600 = .ok (.ldc2_w 274, 3) := by decide +kernel
theorem dX9_digest_603 : decode cX9_digest 603 = .ok (.lload_n 1, 1) := by decide +kernel
theorem dX9_digest_604 : decode cX9_digest 604 = .ok (.lmul, 1) := by decide +kernel
theorem dX9_digest_605 : decode cX9_digest 605 = .ok (.aload_n 0, 1) := by decide +kernel
theorem dX9_digest_606 : decode cX9_digest 606 = .ok (.iconst 1, 1) := by decide +kernel
theorem dX9_digest_607 : decode cX9_digest 607 = .ok (.invokevirtual 279, 3) := by decide +kernel
theorem dX9_digest_610 : decode cX9_digest 610 = .ok (.i2l, 1) := by decide +kernel
theorem dX9_digest_611 : decode cX9_digest 611 = .ok (.ladd, 1) := by decide +kernel
theorem dX9_digest_612 : decode cX9_digest 612 = .ok (.lreturn, 1) := by decide +kernel
