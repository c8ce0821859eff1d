theorem dL_areAllButSo_43 : decode cL_areAllButSo 43 = .ok (.istore 6, 2) := by decide +kernel
theorem dL_areAllButSo_45 : decode cL_areAllButSo 45 = .ok (.iload_n 3, 1) := by decide +kernel
theorem dL_areAllButSo_46 : decode cL_areAllButSo 46 = .ok (.ifCond .ne 11, 3) := by decide +kernel
theorem dL_areAllButSo_49 : decode cL_areAllButSo 49 = .ok (.bipush 6, 2) := by decide +kernel
theorem dL_areAllButSo_51 : decode cL_areAllButSo 51 = .ok (.iload 6, 2) := by decide +kernel
theorem dL_areAllButSo_53 : decode cL_areAllButSo 53 = .ok (.isub, 1) := by decide +kernel
theorem dL_areAllButSo_54 : decode cL_areAllButSo 54 = .ok (.goto 5, 3) := by decide +kernel
theorem dL_areAllButSo_57 : decode cL_areAllButSo 57 = .ok (.bipush 12, 2) := by decide +kernel
theorem dL_areAllButSo_59 : decode cL_areAllButSo 59 = .ok (.istore 7, 2) := by decide +kernel
theorem dL_areAllButSo_61 : decode cL_areAllButSo 61 = .ok (.iload 5, 2) := by decide +kernel
theorem dL_areAllButSo_63 : decode cL_areAllButSo 63 = .ok (.invokestatic 69, 3) := by decide +kernel
theorem dL_areAllButSo_66 : decode cL_areAllButSo 66 = .ok (.iload 7, 2) := by decide +kernel
theorem dL_areAllButSo_68 : decode cL_areAllButSo 68 = .ok (.if_icmp .ge 11, 3) := by decide +kernel
theorem dL_areAllButSo_71 : decode cL_areAllButSo 71 = .ok (.iload 5, 2) := by decide +kernel
theorem dL_areAllButSo_73 : decode cL_areAllButSo 73 = .ok (.invokestatic 69, 3) := by decide +kernel
theorem dL_areAllButSo_76 : decode cL_areAllButSo 76 = .ok (.goto 5, 3) := by decide +kernel
theorem dL_areAllButSo_79 : decode cL_areAllButSo 79 = .ok (.iload 7, 2) := by decide +kernel
theorem dL_areAllButSo_81 : decode cL_areAllButSo 81 = .ok (.istore 8, 2) := by decide +kernel
theorem dL_areAllButSo_83 : decode cL_areAllButSo 83 = .ok (.aload_n 0, 1) := by decide +kernel
theorem dL_areAllButSo_84 : decode cL_areAllButSo 84 = .ok (.invokevirtual 78, 3) := by decide +kernel
theorem dL_areAllButSo_87 : decode cL_areAllButSo 87 = .ok (.lstore 9, 2) := by decide +kernel
theorem dL_areAllButSo_89 : decode cL_areAllButSo 89 = .ok (.aload_n 0, 1) := by decide +kernel
theorem dL_areAllButSo_90 : decode cL_areAllButSo 90 = .ok (.bipush 10, 2) := by decide +kernel
theorem dL_areAllButSo_92 : decode cL_areAllButSo 92 = .ok (.iload_n 3, 1) := by decide +kernel
theorem dL_areAllButSo_93 : decode cL_areAllButSo 93 = .ok (.iadd, 1) := by decide +kernel
theorem dL_areAllButSo_94 : decode cL_areAllButSo 94 = .ok (.invokevirtual 38, 3) := by decide +kernel
theorem dL_areAllButSo_97 : decode cL_areAllButSo 97 = .ok (.pop, 1) := by decide +kernel
theorem dL_areAllButSo_98 : decode cL_areAllButSo 98 = .ok (.aload_n 0, 1) := by decide +kernel
theorem dL_areAllButSo_99 : decode cL_areAllButSo 99 = .ok (.bipush 17, 2) := by decide +kernel
theorem dL_areAllButSo_101 : decode cL_areAllButSo 101 = .ok (.invokevirtual 38, 3) := by decide +kernel
theorem dL_areAllButSo_104 : decode cL_areAllButSo 104 = .ok (.pop, 1) := by decide +kernel
theorem dL_areAllButSo_105 : decode cL_areAllButSo 105 = .ok (.aload_n 0, 1) := by decide +kernel
theorem dL_areAllButSo_106 : decode cL_areAllButSo 106 = .ok (.bipush 18, 2) := by decide +kernel
theorem dL_areAllButSo_108 : decode cL_areAllButSo 108 = .ok (.invokevirtual 38, 3) := by decide +kernel
theorem dL_areAllButSo_111 : decode cL_areAllButSo 111 = .ok (.pop, 1) := by decide +kernel
theorem dL_areAllButSo_112 : decode cL_areAllButSo 112 = .ok (.aload_n 0, 1) := by decide +kernel
theorem dL_areAllButSo_113 : decode cL_areAllButSo 113 = .ok (.iload_n 2, 1) := by decide +kernel
theorem dL_areAllButSo_114 : decode cL_areAllButSo 114 = .ok (.invokevirtual 38, 3) := by decide +kernel
theorem dL_areAllButSo_117 : decode cL_areAllButSo 117 = .ok (.pop, 1) := by decide +kernel
theorem dL_areAllButSo_118 : decode cL_areAllButSo 118 = .ok (.aload_n 0, 1) := by decide +kernel
theorem dL_areAllButSo_119 : decode cL_areAllButSo 119 = .ok (.invokevirtual 101, 3) := by decide +kernel
theorem dL_areAllButSo_122 : decode cL_areAllButSo 122 = .ok (.istore 11, 2) := by decide +kernel
theorem dL_areAllButSo_124 : decode cL_areAllButSo 124 = .ok (.iload 11, 2) := by decide +kernel
theorem dL_areAllButSo_126 : decode cL_areAllButSo 126 = .ok (.iload 5, 2) := by decide +kernel
theorem dL_areAllButSo_128 : decode cL_areAllButSo 128 = .ok (.ifCond .ne 8, 3) := by decide +kernel
theorem dL_areAllButSo_131 : decode cL_areAllButSo 131 = .ok (.bipush (-3), 2) := by decide +kernel
theorem dL_areAllButSo_133 : decode cL_areAllButSo 133 = .ok (.goto 5, 3) := by decide +kernel
theorem dL_areAllButSo_136 : decode cL_areAllButSo 136 = .ok (.iload 8, 2) := by decide +kernel
theorem dL_areAllButSo_138 : decode cL_areAllButSo 138 = .ok (.if_icmp .ne 44, 3) := by decide +kernel
theorem dL_areAllButSo_141 : decode cL_areAllButSo 141 = .ok (.iload 5, 2) := by decide +kernel
theorem dL_areAllButSo_143 : decode cL_areAllButSo 143 = .ok (.ifCond .eq 35, 3) := by decide +kernel
theorem dL_areAllButSo_146 : decode cL_areAllButSo 146 = .ok (.iload 5, 2) := by decide +kernel
theorem dL_areAllButSo_148 : decode cL_areAllButSo 148 = .ok (.invokestatic 69, 3) := by decide +kernel
theorem dL_areAllButSo_151 : decode cL_areAllButSo 151 = .ok (.iconst 1, 1) := by decide +kernel
theorem dL_areAllButSo_152 : decode cL_areAllButSo 152 = .ok (.if_icmp .ne 17, 3) := by decide +kernel
theorem dL_areAllButSo_155 : decode cL_areAllButSo 155 = .ok (.iconst 1, 1) := by decide +kernel
theorem dL_areAllButSo_156 : decode cL_areAllButSo 156 = .ok (.aload_n 0, 1) := by decide +kernel
theorem dL_areAllButSo_157 : decode cL_areAllButSo 157 = .ok (.invokevirtual 75, 3) := by decide +kernel
theorem dL_areAllButSo_160 : decode cL_areAllButSo 160 = .ok (.ishl, 1) := by decide +kernel
theorem dL_areAllButSo_161 : decode cL_areAllButSo 161 = .ok (.iload 5, 2) := by decide +kernel
theorem dL_areAllButSo_163 : decode cL_areAllButSo 163 = .ok (.if_icmp .ne 19, 3) := by decide +kernel
theorem dL_areAllButSo_166 : decode cL_areAllButSo 166 = .ok (.goto 12, 3) := by decide +kernel
theorem dL_areAllButSo_169 : decode cL_areAllButSo 169 = .ok (.aload_n 0, 1) := by decide +kernel
theorem dL_areAllButSo_170 : decode cL_areAllButSo 170 = .ok (.invokevirtual 66, 3) := by decide +kernel
theorem dL_areAllButSo_173 : decode cL_areAllButSo 173 = .ok (.iload 5, 2) := by decide +kernel
theorem dL_areAllButSo_175 : decode cL_areAllButSo 175 = .ok (.if_icmp .ne 7, 3) := by decide +kernel
theorem dL_areAllButSo_178 : decode cL_areAllButSo 178 = .ok (.iconst 1, 1) := by decide +kernel
theorem dL_areAllButSo_179 : decode cL_areAllButSo 179 = .ok (.goto 4, 3) := by decide +kernel
theorem dL_areAllButSo_182 : decode cL_areAllButSo 182 = .ok (.iconst 0, 1) := by decide +kernel
theorem dL_areAllButSo_183 : decode cL_areAllButSo 183 = .ok (.istore 12, 2) := by decide +kernel
theorem dL_areAllButSo_185 : decode cL_areAllButSo 185 = .ok (.iconst 0, 1) := by decide +kernel
theorem dL_areAllButSo_186 : decode cL_areAllButSo 186 = .ok (.istore 13, 2) := by decide +kernel
theorem dL_areAllButSo_188 : decode cL_areAllButSo 188 = .ok (.iconst 0, 1) := by decide +kernel
theorem dL_areAllButSo_189 : decode cL_areAllButSo 189 = .ok (.istore 14, 2) := by decide +kernel
theorem dL_areAllButSo_191 : decode cL_areAllButSo 191 = .ok (.iload 14, 2) := by decide +kernel
theorem dL_areAllButSo_193 : decode cL_areAllButSo 193 = .ok (.aload_n 0, 1) := by decide +kernel
theorem dL_areAllButSo_194 : decode cL_areAllButSo 194 = .ok (.invokevirtual 20, 3) := by decide +kernel
theorem dL_areAllButSo_197 : decode cL_areAllButSo 197 = .ok (.if_icmp .ge 92, 3) := by decide +kernel
theorem dL_areAllButSo_200 : decode cL_areAllButSo 200 = .ok (.iload 5, 2) := by decide +kernel
theorem dL_areAllButSo_202 : decode cL_areAllButSo 202 = .ok (.ifCond .eq 87, 3) := by decide +kernel
theorem dL_areAllButSo_205 : decode cL_areAllButSo 205 = .ok (.iload 5, 2) := by decide +kernel
theorem dL_areAllButSo_207 : decode cL_areAllButSo 207 = .ok (.iload 14, 2) := by decide +kernel
theorem dL_areAllButSo_209 : decode cL_areAllButSo 209 = .ok (.ishr, 1) := by decide +kernel
theorem dL_areAllButSo_210 : decode cL_areAllButSo 210 = .ok (.iconst 1, 1) := by decide +kernel
theorem dL_areAllButSo_211 : decode cL_areAllButSo 211 = .ok (.iand, 1) := by decide +kernel
theorem dL_areAllButSo_212 : decode cL_areAllButSo 212 = .ok (.iconst 1, 1) := by decide +kernel
theorem dL_areAllButSo_213 : decode cL_areAllButSo 213 = .ok (.if_icmp .ne 7, 3) := by decide +kernel
theorem dL_areAllButSo_216 : decode cL_areAllButSo 216 = .ok (.iconst 1, 1) := by decide +kernel
theorem dL_areAllButSo_217 : decode cL_areAllButSo 217 = .ok (.goto 4, 3) := by decide +kernel
theorem dL_areAllButSo_220 : decode cL_areAllButSo 220 = .ok (.iconst 0, 1) := by decide +kernel
theorem dL_areAllButSo_221 : decode cL_areAllButSo 221 = .ok (.istore 15, 2) := by decide +kernel
theorem dL_areAllButSo_223 : decode cL_areAllButSo 223 = .ok (.iload 13, 2) := by decide +kernel
theorem dL_areAllButSo_225 : decode cL_areAllButSo 225 = .ok (.iload 15, 2) := by decide +kernel
theorem dL_areAllButSo_227 : decode cL_areAllButSo 227 = .ok (.ifCond .eq 7, 3) := by decide +kernel
theorem dL_areAllButSo_230 : decode cL_areAllButSo 230 = .ok (.iconst 1, 1) := by decide +kernel
theorem dL_areAllButSo_231 : decode cL_areAllButSo 231 = .ok (.goto 4, 3) := by decide +kernel
theorem dL_areAllButSo_234 : decode cL_areAllButSo 234 = .ok (.iconst 0, 1) := by decide +kernel
theorem dL_areAllButSo_235 : decode cL_areAllButSo 235 = .ok (.iadd, 1) := by decide +kernel
theorem dL_areAllButSo_236 : decode cL_areAllButSo 236 = .ok (.istore 13, 2) := by decide +kernel
theorem dL_areAllButSo_238 : decode cL_areAllButSo 238 = .ok (.iload 12, 2) := by decide +kernel
theorem dL_areAllButSo_240 : decode cL_areAllButSo 240 = .ok (.ifCond .eq 40, 3) := by decide +kernel
theorem dL_areAllButSo_243 : decode cL_areAllButSo 243 = .ok (.iload 15, 2) := by decide +kernel
theorem dL_areAllButSo_245 : decode cL_areAllButSo 245 = .ok (.ifCond .eq 31, 3) := by decide +kernel
theorem dL_areAllButSo_248 : decode cL_areAllButSo 248 = .ok (.iload 13, 2) := by decide +kernel
theorem dL_areAllButSo_250 : decode cL_areAllButSo 250 = .ok (.iload 8, 2) := by decide +kernel
theorem dL_areAllButSo_252 : decode cL_areAllButSo 252 = .ok (.if_icmp .gt 24, 3) := by decide +kernel
theorem dL_areAllButSo_255 : decode cL_areAllButSo 255 = .ok (.aload_n 0, 1) := by decide +kernel
theorem dL_areAllButSo_256 : decode cL_areAllButSo 256 = .ok (.iload 14, 2) := by decide +kernel
theorem dL_areAllButSo_258 : decode cL_areAllButSo 258 = .ok (.invokevirtual 53, 3) := by decide +kernel
theorem dL_areAllButSo_261 : decode cL_areAllButSo 261 = .ok (.iload_n 3, 1) := by decide +kernel
theorem dL_areAllButSo_262 : decode cL_areAllButSo 262 = .ok (.ifCond .ne 7, 3) := by decide +kernel
theorem dL_areAllButSo_265 : decode cL_areAllButSo 265 = .ok (.iconst 4, 1) := by decide +kernel
theorem dL_areAllButSo_266 : decode cL_areAllButSo 266 = .ok (.goto 7, 3) := by decide +kernel
theorem dL_areAllButSo_269 : decode cL_areAllButSo 269 = .ok (.aload_n 0, 1) := by decide +kernel
theorem dL_areAllButSo_270 : decode cL_areAllButSo 270 = .ok (.invokevirtual 48, 3) := by decide +kernel
theorem dL_areAllButSo_273 : decode cL_areAllButSo 273 = .ok (.if_icmp .ne 7, 3) := by decide +kernel
theorem dL_areAllButSo_276 : decode cL_areAllButSo 276 = .ok (.iconst 1, 1) := by decide +kernel
theorem dL_areAllButSo_277 : decode cL_areAllButSo 277 = .ok (.goto 4, 3) := by decide +kernel
theorem dL_areAllButSo_280 : decode cL_areAllButSo 280 = .ok (.iconst 0, 1) := by decide +kernel
theorem dL_areAllButSo_281 : decode cL_areAllButSo 281 = .ok (.istore 12, 2) := by decide +kernel
theorem dL_areAllButSo_283 : decode cL_areAllButSo 283 = .ok (.iinc 14 1, 3) := by decide +kernel
theorem dL_areAllButSo_286 : decode cL_areAllButSo 286 = .ok (.goto (-95), 3) := by decide +kernel
theorem dL_areAllButSo_289 : decode cL_areAllButSo 289 = .ok (.aload_n 0, 1) := by decide +kernel
theorem dL_areAllButSo_290 : decode cL_areAllButSo 290 = .ok (.invokevirtual 107, 3) := by decide +kernel
theorem dL_areAllButSo_293 : decode cL_areAllButSo 293 = .ok (.istore 14, 2) := by decide +kernel
theorem dL_areAllButSo_295 : decode cL_areAllButSo 295 = .ok (.iload 12, 2) := by decide +kernel
theorem dL_areAllButSo_297 : decode cL_areAllButSo 297 = .ok (.ifCond .eq 22, 3) := by decide +kernel
theorem dL_areAllButSo_300 : decode cL_areAllButSo 300 = .ok (.iload 14, 2) := by decide +kernel
theorem dL_areAllButSo_302 : decode cL_areAllButSo 302 = .ok (.ifCond .lt 17, 3) := by decide +kernel
theorem dL_areAllButSo_305 : decode cL_areAllButSo 305 = .ok (.aload_n 0, 1) := by decide +kernel
theorem dL_areAllButSo_306 : decode cL_areAllButSo 306 = .ok (.invokevirtual 78, 3) := by decide +kernel
theorem dL_areAllButSo_309 : decode cL_areAllButSo 309 = .ok (.lload 9, 2) := by decide +kernel
theorem dL_areAllButSo_311 : decode cL_areAllButSo 311 = .ok (.lcmp, 1) := by decide +kernel
theorem dL_areAllButSo_312 : decode cL_areAllButSo 312 = .ok (.ifCond .ne 7, 3) := by decide +kernel
theorem dL_areAllButSo_315 : decode cL_areAllButSo 315 = .ok (.iconst 1, 1) := by decide +kernel
theorem dL_areAllButSo_316 : decode cL_areAllButSo 316 = .ok (.goto 4, 3) := by decide +kernel
theorem dL_areAllButSo_319 : decode cL_areAllButSo 319 = .ok (.iconst 0, 1) := by decide +kernel
theorem dL_areAllButSo_320 : decode cL_areAllButSo 320 = .ok (.ireturn, 1) := by decide +kernel
theorem dL_law_0 : decode cL_law 0 = .ok (.new 9, 3) := by decide +kernel
theorem dL_law_3 : decode cL_law 3 = .ok (.dup, 1) := by decide +kernel
theorem dL_law_4 : decode cL_law 4 = .ok (.invokespecial 114, 3) := by decide +kernel
theorem dL_law_7 : decode cL_law 7 = .ok (.astore_n 1, 1) := by decide +kernel
theorem dL_law_8 : decode cL_law 8 = .ok (.iconst 0, 1) := by decide +kernel
theorem dL_law_9 : decode cL_law 9 = .ok (.istore_n 2, 1) := by decide +kernel
theorem dL_law_10 : decode cL_law 10 = .ok (.iload_n 2, 1) := by decide +kernel
theorem dL_law_11 : decode cL_law 11 = .ok (.bipush 52, 2) := by decide +kernel
theorem dL_law_13 : decode cL_law 13 = .ok (.if_icmp .ge 257, 3) := by decide +kernel
theorem dL_law_16 : decode cL_law 16 = .ok (.aload_n 0, 1) := by decide +kernel
theorem dL_law_17 : decode cL_law 17 = .ok (.iload_n 2, 1) := by decide +kernel
theorem dL_law_18 : decode cL_law 18 = .ok (.invokestatic 115, 3) := by decide +kernel
theorem dL_law_21 : decode cL_law 21 = .ok (.istore_n 3, 1) := by decide +kernel
theorem dL_law_22 : decode cL_law 22 = .ok (.sipush 7919, 3) := by decide +kernel
theorem dL_law_25 : decode cL_law 25 = .ok (.iload_n 3, 1) := by decide +kernel
theorem dL_law_26 : decode cL_law 26 = .ok (.imul, 1) := by decide +kernel
theorem dL_law_27 : decode cL_law 27 = .ok (.ldc 119, 2) := by decide +kernel
theorem dL_law_29 : decode cL_law 29 = .ok (.iload_n 2, 1) := by decide +kernel
theorem dL_law_30 : decode cL_law 30 = .ok (.imul, 1) := by decide +kernel
theorem dL_law_31 : decode cL_law 31 = .ok (.iadd, 1) := by decide +kernel
theorem dL_law_32 : decode cL_law 32 = .ok (.istore 4, 2) := by decide +kernel
theorem dL_law_34 : decode cL_law 34 = .ok (.iconst 1, 1) := by decide +kernel
theorem dL_law_35 : decode cL_law 35 = .ok (.istore 5, 2) := by decide +kernel
theorem dL_law_37 : decode cL_law 37 = .ok (.aload_n 1, 1) := by decide +kernel
theorem dL_law_38 : decode cL_law 38 = .ok (.invokevirtual 20, 3) := by decide +kernel
theorem dL_law_41 : decode cL_law 41 = .ok (.iconst 5, 1) := by decide +kernel
theorem dL_law_42 : decode cL_law 42 = .ok (.if_icmp .lt 10, 3) := by decide +kernel
theorem dL_law_45 : decode cL_law 45 = .ok (.iload_n 3, 1) := by decide +kernel
theorem dL_law_46 : decode cL_law 46 = .ok (.bipush 7, 2) := by decide +kernel
theorem dL_law_48 : decode cL_law 48 = .ok (.iand, 1) := by decide +kernel
theorem dL_law_49 : decode cL_law 49 = .ok (.ifCond .ne 44, 3) := by decide +kernel
theorem dL_law_52 : decode cL_law 52 = .ok (.aload_n 1, 1) := by decide +kernel
theorem dL_law_53 : decode cL_law 53 = .ok (.iload 4, 2) := by decide +kernel
theorem dL_law_55 : decode cL_law 55 = .ok (.iconst 3, 1) := by decide +kernel
theorem dL_law_56 : decode cL_law 56 = .ok (.ishr, 1) := by decide +kernel
theorem dL_law_57 : decode cL_law 57 = .ok (.invokestatic 120, 3) := by decide +kernel
theorem dL_law_60 : decode cL_law 60 = .ok (.aload_n 1, 1) := by decide +kernel
theorem dL_law_61 : decode cL_law 61 = .ok (.invokevirtual 72, 3) := by decide +kernel
theorem dL_law_64 : decode cL_law 64 = .ok (.ifCond .eq 19, 3) := by decide +kernel
theorem dL_law_67 : decode cL_law 67 = .ok (.aload_n 1, 1) := by decide +kernel
theorem dL_law_68 : decode cL_law 68 = .ok (.invokevirtual 20, 3) := by decide +kernel
theorem dL_law_71 : decode cL_law 71 = .ok (.bipush 12, 2) := by decide +kernel
theorem dL_law_73 : decode cL_law 73 = .ok (.if_icmp .eq 10, 3) := by decide +kernel
theorem dL_law_76 : decode cL_law 76 = .ok (.aload_n 1, 1) := by decide +kernel
theorem dL_law_77 : decode cL_law 77 = .ok (.invokevirtual 86, 3) := by decide +kernel
theorem dL_law_80 : decode cL_law 80 = .ok (.ifCond .le 7, 3) := by decide +kernel
theorem dL_law_83 : decode cL_law 83 = .ok (.iconst 1, 1) := by decide +kernel
theorem dL_law_84 : decode cL_law 84 = .ok (.goto 4, 3) := by decide +kernel
theorem dL_law_87 : decode cL_law 87 = .ok (.iconst 0, 1) := by decide +kernel
theorem dL_law_88 : decode cL_law 88 = .ok (.istore 5, 2) := by decide +kernel
theorem dL_law_90 : decode cL_law 90 = .ok (.goto 135, 3) := by decide +kernel
theorem dL_law_93 : decode cL_law 93 = .ok (.aload_n 1, 1) := by decide +kernel
theorem dL_law_94 : decode cL_law 94 = .ok (.invokevirtual 72, 3) := by decide +kernel
theorem dL_law_97 : decode cL_law 97 = .ok (.ifCond .eq 22, 3) := by decide +kernel
theorem dL_law_100 : decode cL_law 100 = .ok (.iload_n 3, 1) := by decide +kernel
theorem dL_law_101 : decode cL_law 101 = .ok (.iconst 3, 1) := by decide +kernel
theorem dL_law_102 : decode cL_law 102 = .ok (.iand, 1) := by decide +kernel
theorem dL_law_103 : decode cL_law 103 = .ok (.ifCond .le 16, 3) := by decide +kernel
theorem dL_law_106 : decode cL_law 106 = .ok (.aload_n 1, 1) := by decide +kernel
theorem dL_law_107 : decode cL_law 107 = .ok (.iload 4, 2) := by decide +kernel
theorem dL_law_109 : decode cL_law 109 = .ok (.iconst 4, 1) := by decide +kernel
theorem dL_law_110 : decode cL_law 110 = .ok (.ishr, 1) := by decide +kernel
