theorem dL_isEnterSo_30 : decode cL_isEnterSo 30 = .ok (.invokevirtual 95, 3) := by decide +kernel
theorem dL_isEnterSo_33 : decode cL_isEnterSo 33 = .ok (.istore 9, 2) := by decide +kernel
theorem dL_isEnterSo_35 : decode cL_isEnterSo 35 = .ok (.aload_n 0, 1) := by decide +kernel
theorem dL_isEnterSo_36 : decode cL_isEnterSo 36 = .ok (.invokevirtual 98, 3) := by decide +kernel
theorem dL_isEnterSo_39 : decode cL_isEnterSo 39 = .ok (.istore 10, 2) := by decide +kernel
theorem dL_isEnterSo_41 : decode cL_isEnterSo 41 = .ok (.aload_n 0, 1) := by decide +kernel
theorem dL_isEnterSo_42 : decode cL_isEnterSo 42 = .ok (.invokevirtual 78, 3) := by decide +kernel
theorem dL_isEnterSo_45 : decode cL_isEnterSo 45 = .ok (.lload_n 2, 1) := by decide +kernel
theorem dL_isEnterSo_46 : decode cL_isEnterSo 46 = .ok (.lcmp, 1) := by decide +kernel
theorem dL_isEnterSo_47 : decode cL_isEnterSo 47 = .ok (.ifCond .ne 7, 3) := by decide +kernel
theorem dL_isEnterSo_50 : decode cL_isEnterSo 50 = .ok (.iconst 1, 1) := by decide +kernel
theorem dL_isEnterSo_51 : decode cL_isEnterSo 51 = .ok (.goto 4, 3) := by decide +kernel
theorem dL_isEnterSo_54 : decode cL_isEnterSo 54 = .ok (.iconst 0, 1) := by decide +kernel
theorem dL_isEnterSo_55 : decode cL_isEnterSo 55 = .ok (.istore 11, 2) := by decide +kernel
theorem dL_isEnterSo_57 : decode cL_isEnterSo 57 = .ok (.aload_n 0, 1) := by decide +kernel
theorem dL_isEnterSo_58 : decode cL_isEnterSo 58 = .ok (.invokevirtual 101, 3) := by decide +kernel
theorem dL_isEnterSo_61 : decode cL_isEnterSo 61 = .ok (.istore 12, 2) := by decide +kernel
theorem dL_isEnterSo_63 : decode cL_isEnterSo 63 = .ok (.iload 11, 2) := by decide +kernel
theorem dL_isEnterSo_65 : decode cL_isEnterSo 65 = .ok (.ifCond .eq 191, 3) := by decide +kernel
theorem dL_isEnterSo_68 : decode cL_isEnterSo 68 = .ok (.iload 12, 2) := by decide +kernel
theorem dL_isEnterSo_70 : decode cL_isEnterSo 70 = .ok (.iload 10, 2) := by decide +kernel
theorem dL_isEnterSo_72 : decode cL_isEnterSo 72 = .ok (.if_icmp .ne 184, 3) := by decide +kernel
theorem dL_isEnterSo_75 : decode cL_isEnterSo 75 = .ok (.iload 12, 2) := by decide +kernel
theorem dL_isEnterSo_77 : decode cL_isEnterSo 77 = .ok (.bipush (-5), 2) := by decide +kernel
theorem dL_isEnterSo_79 : decode cL_isEnterSo 79 = .ok (.if_icmp .lt 177, 3) := by decide +kernel
theorem dL_isEnterSo_82 : decode cL_isEnterSo 82 = .ok (.iload 12, 2) := by decide +kernel
theorem dL_isEnterSo_84 : decode cL_isEnterSo 84 = .ok (.bipush 12, 2) := by decide +kernel
theorem dL_isEnterSo_86 : decode cL_isEnterSo 86 = .ok (.if_icmp .gt 170, 3) := by decide +kernel
theorem dL_isEnterSo_89 : decode cL_isEnterSo 89 = .ok (.aload_n 0, 1) := by decide +kernel
theorem dL_isEnterSo_90 : decode cL_isEnterSo 90 = .ok (.invokevirtual 86, 3) := by decide +kernel
theorem dL_isEnterSo_93 : decode cL_isEnterSo 93 = .ok (.iload 6, 2) := by decide +kernel
theorem dL_isEnterSo_95 : decode cL_isEnterSo 95 = .ok (.iload 12, 2) := by decide +kernel
theorem dL_isEnterSo_97 : decode cL_isEnterSo 97 = .ok (.iconst (-1), 1) := by decide +kernel
theorem dL_isEnterSo_98 : decode cL_isEnterSo 98 = .ok (.if_icmp .ne 7, 3) := by decide +kernel
theorem dL_isEnterSo_101 : decode cL_isEnterSo 101 = .ok (.iconst 1, 1) := by decide +kernel
theorem dL_isEnterSo_102 : decode cL_isEnterSo 102 = .ok (.goto 4, 3) := by decide +kernel
theorem dL_isEnterSo_105 : decode cL_isEnterSo 105 = .ok (.iconst 0, 1) := by decide +kernel
theorem dL_isEnterSo_106 : decode cL_isEnterSo 106 = .ok (.iadd, 1) := by decide +kernel
theorem dL_isEnterSo_107 : decode cL_isEnterSo 107 = .ok (.if_icmp .ne 149, 3) := by decide +kernel
theorem dL_isEnterSo_110 : decode cL_isEnterSo 110 = .ok (.aload_n 0, 1) := by decide +kernel
theorem dL_isEnterSo_111 : decode cL_isEnterSo 111 = .ok (.invokevirtual 92, 3) := by decide +kernel
theorem dL_isEnterSo_114 : decode cL_isEnterSo 114 = .ok (.iload 8, 2) := by decide +kernel
theorem dL_isEnterSo_116 : decode cL_isEnterSo 116 = .ok (.iload 12, 2) := by decide +kernel
theorem dL_isEnterSo_118 : decode cL_isEnterSo 118 = .ok (.iconst (-1), 1) := by decide +kernel
theorem dL_isEnterSo_119 : decode cL_isEnterSo 119 = .ok (.if_icmp .ge 14, 3) := by decide +kernel
theorem dL_isEnterSo_122 : decode cL_isEnterSo 122 = .ok (.iload 12, 2) := by decide +kernel
theorem dL_isEnterSo_124 : decode cL_isEnterSo 124 = .ok (.bipush (-5), 2) := by decide +kernel
theorem dL_isEnterSo_126 : decode cL_isEnterSo 126 = .ok (.if_icmp .le 7, 3) := by decide +kernel
theorem dL_isEnterSo_129 : decode cL_isEnterSo 129 = .ok (.iconst 1, 1) := by decide +kernel
theorem dL_isEnterSo_130 : decode cL_isEnterSo 130 = .ok (.goto 4, 3) := by decide +kernel
theorem dL_isEnterSo_133 : decode cL_isEnterSo 133 = .ok (.iconst 0, 1) := by decide +kernel
theorem dL_isEnterSo_134 : decode cL_isEnterSo 134 = .ok (.iadd, 1) := by decide +kernel
theorem dL_isEnterSo_135 : decode cL_isEnterSo 135 = .ok (.if_icmp .ne 121, 3) := by decide +kernel
theorem dL_isEnterSo_138 : decode cL_isEnterSo 138 = .ok (.aload_n 0, 1) := by decide +kernel
theorem dL_isEnterSo_139 : decode cL_isEnterSo 139 = .ok (.invokevirtual 89, 3) := by decide +kernel
theorem dL_isEnterSo_142 : decode cL_isEnterSo 142 = .ok (.iload 7, 2) := by decide +kernel
theorem dL_isEnterSo_144 : decode cL_isEnterSo 144 = .ok (.iload 12, 2) := by decide +kernel
theorem dL_isEnterSo_146 : decode cL_isEnterSo 146 = .ok (.ifCond .lt 7, 3) := by decide +kernel
theorem dL_isEnterSo_149 : decode cL_isEnterSo 149 = .ok (.iconst 1, 1) := by decide +kernel
theorem dL_isEnterSo_150 : decode cL_isEnterSo 150 = .ok (.goto 4, 3) := by decide +kernel
theorem dL_isEnterSo_153 : decode cL_isEnterSo 153 = .ok (.iconst 0, 1) := by decide +kernel
theorem dL_isEnterSo_154 : decode cL_isEnterSo 154 = .ok (.iadd, 1) := by decide +kernel
theorem dL_isEnterSo_155 : decode cL_isEnterSo 155 = .ok (.if_icmp .ne 101, 3) := by decide +kernel
theorem dL_isEnterSo_158 : decode cL_isEnterSo 158 = .ok (.iload 12, 2) := by decide +kernel
theorem dL_isEnterSo_160 : decode cL_isEnterSo 160 = .ok (.ifCond .ge 13, 3) := by decide +kernel
theorem dL_isEnterSo_163 : decode cL_isEnterSo 163 = .ok (.aload_n 0, 1) := by decide +kernel
theorem dL_isEnterSo_164 : decode cL_isEnterSo 164 = .ok (.invokestatic 82, 3) := by decide +kernel
theorem dL_isEnterSo_167 : decode cL_isEnterSo 167 = .ok (.lload 4, 2) := by decide +kernel
theorem dL_isEnterSo_169 : decode cL_isEnterSo 169 = .ok (.lcmp, 1) := by decide +kernel
theorem dL_isEnterSo_170 : decode cL_isEnterSo 170 = .ok (.ifCond .ne 86, 3) := by decide +kernel
theorem dL_isEnterSo_173 : decode cL_isEnterSo 173 = .ok (.iload 12, 2) := by decide +kernel
theorem dL_isEnterSo_175 : decode cL_isEnterSo 175 = .ok (.ifCond .ne 13, 3) := by decide +kernel
theorem dL_isEnterSo_178 : decode cL_isEnterSo 178 = .ok (.aload_n 0, 1) := by decide +kernel
theorem dL_isEnterSo_179 : decode cL_isEnterSo 179 = .ok (.invokestatic 82, 3) := by decide +kernel
theorem dL_isEnterSo_182 : decode cL_isEnterSo 182 = .ok (.lload 4, 2) := by decide +kernel
theorem dL_isEnterSo_184 : decode cL_isEnterSo 184 = .ok (.lcmp, 1) := by decide +kernel
theorem dL_isEnterSo_185 : decode cL_isEnterSo 185 = .ok (.ifCond .ne 71, 3) := by decide +kernel
theorem dL_isEnterSo_188 : decode cL_isEnterSo 188 = .ok (.iload 12, 2) := by decide +kernel
theorem dL_isEnterSo_190 : decode cL_isEnterSo 190 = .ok (.iconst (-1), 1) := by decide +kernel
theorem dL_isEnterSo_191 : decode cL_isEnterSo 191 = .ok (.if_icmp .eq 10, 3) := by decide +kernel
theorem dL_isEnterSo_194 : decode cL_isEnterSo 194 = .ok (.iload 12, 2) := by decide +kernel
theorem dL_isEnterSo_196 : decode cL_isEnterSo 196 = .ok (.bipush (-5), 2) := by decide +kernel
theorem dL_isEnterSo_198 : decode cL_isEnterSo 198 = .ok (.if_icmp .ne 17, 3) := by decide +kernel
theorem dL_isEnterSo_201 : decode cL_isEnterSo 201 = .ok (.aload_n 0, 1) := by decide +kernel
theorem dL_isEnterSo_202 : decode cL_isEnterSo 202 = .ok (.invokevirtual 72, 3) := by decide +kernel
theorem dL_isEnterSo_205 : decode cL_isEnterSo 205 = .ok (.invokestatic 69, 3) := by decide +kernel
theorem dL_isEnterSo_208 : decode cL_isEnterSo 208 = .ok (.iconst 1, 1) := by decide +kernel
theorem dL_isEnterSo_209 : decode cL_isEnterSo 209 = .ok (.if_icmp .le 47, 3) := by decide +kernel
theorem dL_isEnterSo_212 : decode cL_isEnterSo 212 = .ok (.goto 10, 3) := by decide +kernel
theorem dL_isEnterSo_215 : decode cL_isEnterSo 215 = .ok (.aload_n 0, 1) := by decide +kernel
theorem dL_isEnterSo_216 : decode cL_isEnterSo 216 = .ok (.invokevirtual 72, 3) := by decide +kernel
theorem dL_isEnterSo_219 : decode cL_isEnterSo 219 = .ok (.ifCond .ne 37, 3) := by decide +kernel
theorem dL_isEnterSo_222 : decode cL_isEnterSo 222 = .ok (.aload_n 0, 1) := by decide +kernel
theorem dL_isEnterSo_223 : decode cL_isEnterSo 223 = .ok (.invokevirtual 104, 3) := by decide +kernel
theorem dL_isEnterSo_226 : decode cL_isEnterSo 226 = .ok (.ifCond .ne 30, 3) := by decide +kernel
theorem dL_isEnterSo_229 : decode cL_isEnterSo 229 = .ok (.aload_n 0, 1) := by decide +kernel
theorem dL_isEnterSo_230 : decode cL_isEnterSo 230 = .ok (.invokevirtual 95, 3) := by decide +kernel
theorem dL_isEnterSo_233 : decode cL_isEnterSo 233 = .ok (.iload 9, 2) := by decide +kernel
theorem dL_isEnterSo_235 : decode cL_isEnterSo 235 = .ok (.bipush 6, 2) := by decide +kernel
theorem dL_isEnterSo_237 : decode cL_isEnterSo 237 = .ok (.if_icmp .ge 10, 3) := by decide +kernel
theorem dL_isEnterSo_240 : decode cL_isEnterSo 240 = .ok (.iload 9, 2) := by decide +kernel
theorem dL_isEnterSo_242 : decode cL_isEnterSo 242 = .ok (.iconst 1, 1) := by decide +kernel
theorem dL_isEnterSo_243 : decode cL_isEnterSo 243 = .ok (.iadd, 1) := by decide +kernel
theorem dL_isEnterSo_244 : decode cL_isEnterSo 244 = .ok (.goto 5, 3) := by decide +kernel
theorem dL_isEnterSo_247 : decode cL_isEnterSo 247 = .ok (.bipush 6, 2) := by decide +kernel
theorem dL_isEnterSo_249 : decode cL_isEnterSo 249 = .ok (.if_icmp .ne 7, 3) := by decide +kernel
theorem dL_isEnterSo_252 : decode cL_isEnterSo 252 = .ok (.iconst 1, 1) := by decide +kernel
theorem dL_isEnterSo_253 : decode cL_isEnterSo 253 = .ok (.goto 4, 3) := by decide +kernel
theorem dL_isEnterSo_256 : decode cL_isEnterSo 256 = .ok (.iconst 0, 1) := by decide +kernel
theorem dL_isEnterSo_257 : decode cL_isEnterSo 257 = .ok (.istore 11, 2) := by decide +kernel
theorem dL_isEnterSo_259 : decode cL_isEnterSo 259 = .ok (.iload_n 1, 1) := by decide +kernel
theorem dL_isEnterSo_260 : decode cL_isEnterSo 260 = .ok (.ifCond .eq 35, 3) := by decide +kernel
theorem dL_isEnterSo_263 : decode cL_isEnterSo 263 = .ok (.aload_n 0, 1) := by decide +kernel
theorem dL_isEnterSo_264 : decode cL_isEnterSo 264 = .ok (.invokevirtual 107, 3) := by decide +kernel
theorem dL_isEnterSo_267 : decode cL_isEnterSo 267 = .ok (.istore 13, 2) := by decide +kernel
theorem dL_isEnterSo_269 : decode cL_isEnterSo 269 = .ok (.iload 11, 2) := by decide +kernel
theorem dL_isEnterSo_271 : decode cL_isEnterSo 271 = .ok (.ifCond .eq 21, 3) := by decide +kernel
theorem dL_isEnterSo_274 : decode cL_isEnterSo 274 = .ok (.iload 13, 2) := by decide +kernel
theorem dL_isEnterSo_276 : decode cL_isEnterSo 276 = .ok (.ifCond .lt 16, 3) := by decide +kernel
theorem dL_isEnterSo_279 : decode cL_isEnterSo 279 = .ok (.aload_n 0, 1) := by decide +kernel
theorem dL_isEnterSo_280 : decode cL_isEnterSo 280 = .ok (.invokevirtual 78, 3) := by decide +kernel
theorem dL_isEnterSo_283 : decode cL_isEnterSo 283 = .ok (.lload_n 2, 1) := by decide +kernel
theorem dL_isEnterSo_284 : decode cL_isEnterSo 284 = .ok (.lcmp, 1) := by decide +kernel
theorem dL_isEnterSo_285 : decode cL_isEnterSo 285 = .ok (.ifCond .ne 7, 3) := by decide +kernel
theorem dL_isEnterSo_288 : decode cL_isEnterSo 288 = .ok (.iconst 1, 1) := by decide +kernel
theorem dL_isEnterSo_289 : decode cL_isEnterSo 289 = .ok (.goto 4, 3) := by decide +kernel
theorem dL_isEnterSo_292 : decode cL_isEnterSo 292 = .ok (.iconst 0, 1) := by decide +kernel
theorem dL_isEnterSo_293 : decode cL_isEnterSo 293 = .ok (.istore 11, 2) := by decide +kernel
theorem dL_isEnterSo_295 : decode cL_isEnterSo 295 = .ok (.iload 11, 2) := by decide +kernel
theorem dL_isEnterSo_297 : decode cL_isEnterSo 297 = .ok (.ireturn, 1) := by decide +kernel
set_option maxRecDepth 20000 in
theorem ggL_isAnswerSo_X5_candidates : GoodIn wsL_isAnswerSo wsX5_candidates := goodIn_r _ [5, 6, 7, 411, 412, 413, 414, 415, 416, 417, 418, 419, 420, 421, 422, 423, 424, 425, 426] (by decide +kernel) (by decide +kernel)
set_option maxRecDepth 20000 in
theorem gL_isAnswerSo_X5_candidates : GoodIn wsL_isAnswerSo (wsV RL 72 RX5 yX5_candidates wsX5_candidates) := goodIn_app (goodIn_of _ (by decide +kernel)) ggL_isAnswerSo_X5_candidates
set_option maxRecDepth 20000 in
theorem ggL_isAnswerSo_L_low : GoodIn wsL_isAnswerSo wsL_low := goodIn_r _ [11, 12] (by decide +kernel) (by decide +kernel)
set_option maxRecDepth 20000 in
theorem gL_isAnswerSo_L_low : GoodIn wsL_isAnswerSo (va_wsS RL 14 yL_low wsL_low) := goodIn_app (goodIn_of _ (by decide +kernel)) ggL_isAnswerSo_L_low
set_option maxRecDepth 20000 in
theorem ggL_isAnswerSo_X5_objects : GoodIn wsL_isAnswerSo wsX5_objects := goodIn_r _ [16, 6, 17, 18, 411, 412, 413, 414, 415, 416, 417, 418, 419, 420, 421, 422, 423, 424, 425, 426, 427, 428, 429, 430, 431, 432] (by decide +kernel) (by decide +kernel)
set_option maxRecDepth 20000 in
theorem gL_isAnswerSo_X5_objects : GoodIn wsL_isAnswerSo (wsV RL 20 RX5 yX5_objects wsX5_objects) := goodIn_app (goodIn_of _ (by decide +kernel)) ggL_isAnswerSo_X5_objects
set_option maxRecDepth 20000 in
theorem ggL_isAnswerSo_X5_adjective : GoodIn wsL_isAnswerSo wsX5_adjective := goodIn_ca (goodIn_r _ [22, 23, 24, 6, 17, 25, 26, 27, 28, 29, 30, 31, 411, 412, 413, 414, 415, 416, 417, 418, 419, 420, 421, 422, 423, 424, 425, 426, 427, 428, 429, 430, 431, 432] (by decide +kernel) (by decide +kernel)) (goodIn_sub (fun _ h => List.mem_cons_of_mem _ (List.mem_append_left _ (List.mem_append_left _ (List.mem_append_right _ h)))) (by decide +kernel))
set_option maxRecDepth 20000 in
theorem gL_isAnswerSo_X5_adjective : GoodIn wsL_isAnswerSo (wsV RL 41 RX5 yX5_adjective wsX5_adjective) := goodIn_app (goodIn_of _ (by decide +kernel)) ggL_isAnswerSo_X5_adjective
set_option maxRecDepth 20000 in
theorem ggL_isAnswerSo_X5_appendWord : GoodIn wsL_isAnswerSo wsX5_appendWord := goodIn_ca (goodIn_ca (goodIn_r _ [35, 23, 24, 36, 37, 38, 39, 40, 41, 42, 43, 44, 45, 46, 47, 48, 49, 50, 51, 52, 4, 53, 54, 55, 56, 57, 58, 59, 60, 61, 62, 63, 64, 65, 411, 412, 413, 414, 415, 416, 417, 433, 434] (by decide +kernel) (by decide +kernel)) (goodIn_sub (fun _ h => List.mem_cons_of_mem _ (List.mem_append_left _ (List.mem_append_left _ (List.mem_append_right _ h)))) (by decide +kernel))) (goodIn_sub (fun _ h => List.mem_cons_of_mem _ (List.mem_append_left _ (List.mem_append_right _ h))) (by decide +kernel))
set_option maxRecDepth 20000 in
theorem gL_isAnswerSo_X5_appendWord : GoodIn wsL_isAnswerSo (wsV RL 38 RX5 yX5_appendWord wsX5_appendWord) := goodIn_app (goodIn_of _ (by decide +kernel)) ggL_isAnswerSo_X5_appendWord
set_option maxRecDepth 20000 in
theorem ggL_isAnswerSo_X5_ifEntered : GoodIn wsL_isAnswerSo wsX5_ifEntered := goodIn_ca (goodIn_r _ [69, 70, 71, 72, 6, 73, 74, 75, 76, 77, 4, 78, 38, 39, 79, 80, 81, 82, 83, 84, 85, 86, 87, 88, 89, 90, 91, 92, 93, 94, 95, 96, 97, 98, 99, 100, 101, 102, 103, 104, 105, 40, 41, 42, 43, 44, 45, 46, 47, 48, 49, 50, 106, 107, 108, 109, 52, 53, 54, 55, 56, 57, 110, 111, 112, 113, 114, 115, 116, 117, 118, 119, 120, 121, 122, 123, 124, 125, 126, 127, 128, 129, 130, 131, 132, 133, 134, 135, 136, 137, 138, 139, 140, 141, 142, 143, 144, 145, 146, 147, 148, 149, 150, 151, 152, 153, 154, 155, 156, 157, 158, 159, 160, 161, 162, 163, 164, 165, 166, 167, 168, 169, 170, 171, 172, 173, 174, 175, 176, 177, 178, 179, 180, 181, 182, 183, 184, 185, 186, 29, 187, 188, 189, 190, 31, 191, 192, 193, 194, 195, 196, 197, 198, 199, 200, 201, 202, 203, 204, 205, 206, 207, 208, 209, 210, 211, 212, 213, 214, 215, 216, 217, 218, 219, 220, 221, 222, 223, 224, 225, 226, 227, 228, 229, 230, 231, 232, 233, 234, 235, 236, 237, 238, 239, 240, 241, 242, 243, 244, 245, 246, 247, 248, 249, 250, 251, 252, 253, 254, 255, 256, 257, 258, 259, 260, 261, 262, 263, 264, 265, 266, 267, 268, 269, 270, 271, 272, 273, 274, 275, 276, 277, 278, 279, 280, 281, 282, 283, 284, 285, 286, 287, 288, 289, 290, 291, 292, 293, 294, 295, 296, 297, 298, 299, 300, 301, 302, 27, 28, 30, 303, 304, 305, 306, 307, 308, 309, 310, 311, 411, 412, 413, 414, 415, 416, 417, 435, 436, 437, 433, 434, 418, 419, 420, 421, 422, 423, 424, 425, 426, 438, 439, 440, 441, 442, 443, 444, 445, 427, 428, 429, 430, 431, 432] (by decide +kernel) (by decide +kernel)) (goodIn_sub (fun _ h => List.mem_cons_of_mem _ (List.mem_append_right _ h)) (by decide +kernel))
set_option maxRecDepth 20000 in
theorem gL_isAnswerSo_X5_ifEntered : GoodIn wsL_isAnswerSo (wsV RL 98 RX5 yX5_ifEntered wsX5_ifEntered) := goodIn_app (goodIn_of _ (by decide +kernel)) ggL_isAnswerSo_X5_ifEntered
set_option maxRecDepth 20000 in
theorem ggL_isAnswerSo_L_isEnterSo : GoodIn wsL_isAnswerSo wsL_isEnterSo := goodIn_ca (goodIn_ca (goodIn_ca (goodIn_r _ [314, 315, 316, 317, 4, 318, 319, 6, 17, 18, 320, 25, 321, 322, 323, 14, 15, 16, 324, 325, 326, 327, 328, 329, 330, 331, 332, 333, 334, 335, 336, 337, 238, 239, 29, 240, 191, 192, 241, 242, 243, 244, 31, 190, 338, 2, 3, 5, 7, 339, 340, 341, 342, 343, 344, 345, 346, 347, 348, 349, 350, 351, 352, 353, 354, 355, 356, 357, 358, 359, 360, 361, 362, 363, 364, 246, 247, 248, 249, 250, 251, 252, 253, 254, 208, 209, 210, 188, 189, 365, 366, 10, 367, 368, 369, 13, 370, 371, 372, 373, 23, 24, 26, 27, 28, 30, 374, 375, 376, 377, 378, 379, 380, 381, 382, 383, 384, 385, 66, 67, 68, 69, 70, 71, 72, 73, 74, 75, 76, 77, 78, 38, 39, 79, 80, 81, 82, 83, 84, 85, 86, 87, 88, 89, 90, 91, 92, 93, 94, 95, 96, 97, 98, 99, 100, 101, 102, 103, 104, 105, 40, 41, 42, 43, 44, 45, 46, 47, 48, 49, 50, 106, 107, 108, 109, 52, 53, 54, 55, 56, 57, 110, 111, 112, 113, 114, 115, 116, 117, 118, 119, 120, 121, 122, 123, 124, 125, 126, 127, 128, 129, 130, 131, 132, 133, 134, 135, 136, 137, 138, 139, 140, 141, 142, 143, 144, 145, 146, 147, 148, 149, 150, 151, 152, 153, 154, 155, 156, 157, 158, 159, 160, 161, 162, 163, 164, 165, 166, 167, 168, 169, 170, 171, 172, 173, 174, 175, 176, 177, 178, 179, 180, 181, 182, 183, 184, 185, 186, 187, 193, 194, 195, 196, 197, 198, 199, 200, 201, 202, 203, 204, 205, 206, 207, 211, 212, 213, 214, 215, 216, 217, 218, 219, 220, 221, 222, 223, 224, 225, 226, 227, 228, 229, 230, 231, 232, 233, 234, 235, 236, 237, 245, 255, 256, 257, 258, 259, 260, 261, 262, 263, 264, 265, 266, 267, 268, 269, 270, 271, 272, 273, 274, 275, 276, 277, 278, 279, 280, 281, 282, 283, 284, 285, 286, 287, 288, 289, 290, 291, 292, 293, 294, 295, 296, 297, 298, 299, 300, 301, 302, 303, 304, 305, 306, 307, 308, 309, 310, 311, 386, 387, 388, 389, 390, 391, 392, 393, 394, 395, 396, 397, 398, 399, 1, 400, 401, 402, 403, 404, 405, 406, 407, 408, 409, 410, 36, 37, 411, 412, 413, 414, 415, 416, 417, 418, 419, 420, 421, 422, 423, 424, 425, 426, 427, 428, 429, 430, 431, 432, 435, 436, 437, 433, 434, 438, 439, 440, 441, 442, 443, 444, 445] (by decide +kernel) (by decide +kernel)) (goodIn_sub (fun _ h => List.mem_cons_of_mem _ (List.mem_append_left _ (List.mem_append_left _ (List.mem_append_right _ h)))) (by decide +kernel))) (goodIn_sub (fun _ h => List.mem_cons_of_mem _ (List.mem_append_right _ h)) (by decide +kernel))) (goodIn_sub (fun _ h => List.mem_cons_of_mem _ (List.mem_append_left _ (List.mem_append_right _ h))) (by decide +kernel))
set_option maxRecDepth 20000 in
theorem gL_isAnswerSo_L_isEnterSo : GoodIn wsL_isAnswerSo (va_wsS RL 110 yL_isEnterSo wsL_isEnterSo) := goodIn_app (goodIn_of _ (by decide +kernel)) ggL_isAnswerSo_L_isEnterSo
theorem dL_isAnswerSo_0 : decode cL_isAnswerSo 0 = .ok (.aload_n 0, 1) := by decide +kernel
theorem dL_isAnswerSo_1 : decode cL_isAnswerSo 1 = .ok (.invokevirtual 72, 3) := by decide +kernel
theorem dL_isAnswerSo_4 : decode cL_isAnswerSo 4 = .ok (.istore_n 2, 1) := by decide +kernel
theorem dL_isAnswerSo_5 : decode cL_isAnswerSo 5 = .ok (.iload_n 1, 1) := by decide +kernel
theorem dL_isAnswerSo_6 : decode cL_isAnswerSo 6 = .ok (.bipush 12, 2) := by decide +kernel
theorem dL_isAnswerSo_8 : decode cL_isAnswerSo 8 = .ok (.invokestatic 14, 3) := by decide +kernel
theorem dL_isAnswerSo_11 : decode cL_isAnswerSo 11 = .ok (.istore_n 3, 1) := by decide +kernel
theorem dL_isAnswerSo_12 : decode cL_isAnswerSo 12 = .ok (.iconst 0, 1) := by decide +kernel
theorem dL_isAnswerSo_13 : decode cL_isAnswerSo 13 = .ok (.istore 4, 2) := by decide +kernel
theorem dL_isAnswerSo_15 : decode cL_isAnswerSo 15 = .ok (.iload 4, 2) := by decide +kernel
theorem dL_isAnswerSo_17 : decode cL_isAnswerSo 17 = .ok (.bipush 12, 2) := by decide +kernel
theorem dL_isAnswerSo_19 : decode cL_isAnswerSo 19 = .ok (.if_icmp .ge 24, 3) := by decide +kernel
theorem dL_isAnswerSo_22 : decode cL_isAnswerSo 22 = .ok (.iload_n 2, 1) := by decide +kernel
theorem dL_isAnswerSo_23 : decode cL_isAnswerSo 23 = .ok (.iload_n 3, 1) := by decide +kernel
theorem dL_isAnswerSo_24 : decode cL_isAnswerSo 24 = .ok (.ishr, 1) := by decide +kernel
theorem dL_isAnswerSo_25 : decode cL_isAnswerSo 25 = .ok (.iconst 1, 1) := by decide +kernel
theorem dL_isAnswerSo_26 : decode cL_isAnswerSo 26 = .ok (.iand, 1) := by decide +kernel
theorem dL_isAnswerSo_27 : decode cL_isAnswerSo 27 = .ok (.ifCond .ne 16, 3) := by decide +kernel
theorem dL_isAnswerSo_30 : decode cL_isAnswerSo 30 = .ok (.iload_n 3, 1) := by decide +kernel
theorem dL_isAnswerSo_31 : decode cL_isAnswerSo 31 = .ok (.iconst 1, 1) := by decide +kernel
theorem dL_isAnswerSo_32 : decode cL_isAnswerSo 32 = .ok (.iadd, 1) := by decide +kernel
theorem dL_isAnswerSo_33 : decode cL_isAnswerSo 33 = .ok (.bipush 12, 2) := by decide +kernel
theorem dL_isAnswerSo_35 : decode cL_isAnswerSo 35 = .ok (.irem, 1) := by decide +kernel
theorem dL_isAnswerSo_36 : decode cL_isAnswerSo 36 = .ok (.istore_n 3, 1) := by decide +kernel
theorem dL_isAnswerSo_37 : decode cL_isAnswerSo 37 = .ok (.iinc 4 1, 3) := by decide +kernel
theorem dL_isAnswerSo_40 : decode cL_isAnswerSo 40 = .ok (.goto (-25), 3) := by decide +kernel
theorem dL_isAnswerSo_43 : decode cL_isAnswerSo 43 = .ok (.iconst 0, 1) := by decide +kernel
theorem dL_isAnswerSo_44 : decode cL_isAnswerSo 44 = .ok (.istore 4, 2) := by decide +kernel
theorem dL_isAnswerSo_46 : decode cL_isAnswerSo 46 = .ok (.iconst 0, 1) := by decide +kernel
theorem dL_isAnswerSo_47 : decode cL_isAnswerSo 47 = .ok (.istore 5, 2) := by decide +kernel
theorem dL_isAnswerSo_49 : decode cL_isAnswerSo 49 = .ok (.iload 5, 2) := by decide +kernel
theorem dL_isAnswerSo_51 : decode cL_isAnswerSo 51 = .ok (.aload_n 0, 1) := by decide +kernel
theorem dL_isAnswerSo_52 : decode cL_isAnswerSo 52 = .ok (.invokevirtual 20, 3) := by decide +kernel
theorem dL_isAnswerSo_55 : decode cL_isAnswerSo 55 = .ok (.if_icmp .ge 43, 3) := by decide +kernel
theorem dL_isAnswerSo_58 : decode cL_isAnswerSo 58 = .ok (.iload 4, 2) := by decide +kernel
theorem dL_isAnswerSo_60 : decode cL_isAnswerSo 60 = .ok (.iload_n 2, 1) := by decide +kernel
theorem dL_isAnswerSo_61 : decode cL_isAnswerSo 61 = .ok (.iload 5, 2) := by decide +kernel
theorem dL_isAnswerSo_63 : decode cL_isAnswerSo 63 = .ok (.ishr, 1) := by decide +kernel
theorem dL_isAnswerSo_64 : decode cL_isAnswerSo 64 = .ok (.iconst 1, 1) := by decide +kernel
theorem dL_isAnswerSo_65 : decode cL_isAnswerSo 65 = .ok (.iand, 1) := by decide +kernel
theorem dL_isAnswerSo_66 : decode cL_isAnswerSo 66 = .ok (.iconst 1, 1) := by decide +kernel
theorem dL_isAnswerSo_67 : decode cL_isAnswerSo 67 = .ok (.if_icmp .ne 21, 3) := by decide +kernel
