set_option maxRecDepth 20000 in
theorem gL_isKey_X5_gapDay : GoodIn wsL_isKey (wsV RL 52 RX5 yX5_gapDay wsX5_gapDay) := goodIn_app (goodIn_of _ (by decide +kernel)) ggL_isKey_X5_gapDay
set_option maxRecDepth 20000 in
theorem ggL_isKey_X5_versionsOf : GoodIn wsL_isKey wsX5_versionsOf := goodIn_ca (goodIn_ca (goodIn_r _ [107, 6, 7, 8, 9, 4, 10, 11, 12, 108, 109, 110, 16, 111, 18, 24, 25, 26, 27, 28, 29, 30, 31, 32, 33, 131, 132, 133, 134, 135, 136, 137, 138, 139, 140, 141, 142, 143, 144, 145, 146, 147, 148] (by decide +kernel) (by decide +kernel)) (goodIn_sub (fun _ h => List.mem_cons_of_mem _ (List.mem_append_left _ (List.mem_append_left _ (List.mem_append_left _ (List.mem_append_right _ h))))) (by decide +kernel))) (goodIn_sub (fun _ h => List.mem_cons_of_mem _ (List.mem_append_left _ (List.mem_append_left _ (List.mem_append_left _ (List.mem_append_left _ (List.mem_append_right _ h)))))) (by decide +kernel))
set_option maxRecDepth 20000 in
theorem gL_isKey_X5_versionsOf : GoodIn wsL_isKey (wsV RL 56 RX5 yX5_versionsOf wsX5_versionsOf) := goodIn_app (goodIn_of _ (by decide +kernel)) ggL_isKey_X5_versionsOf
set_option maxRecDepth 20000 in
theorem ggL_isKey_X5_gaps : GoodIn wsL_isKey wsX5_gaps := goodIn_ca (goodIn_ca (goodIn_r _ [115, 6, 7, 8, 9, 4, 10, 11, 12, 116, 117, 118, 16, 119, 18, 24, 25, 26, 27, 28, 29, 30, 31, 32, 33, 95, 96, 97, 98, 19, 66, 99, 100, 101, 102, 20, 21, 22, 23, 131, 132, 133, 134, 135, 136, 137, 138, 139, 140, 141, 142, 143, 144, 145, 146, 147, 148] (by decide +kernel) (by decide +kernel)) (goodIn_sub (fun _ h => List.mem_cons_of_mem _ (List.mem_append_left _ (List.mem_append_left _ (List.mem_append_left _ (List.mem_append_right _ h))))) (by decide +kernel))) (goodIn_sub (fun _ h => List.mem_cons_of_mem _ (List.mem_append_left _ (List.mem_append_left _ (List.mem_append_left _ (List.mem_append_left _ (List.mem_append_right _ h)))))) (by decide +kernel))
set_option maxRecDepth 20000 in
theorem gL_isKey_X5_gaps : GoodIn wsL_isKey (wsV RL 59 RX5 yX5_gaps wsX5_gaps) := goodIn_app (goodIn_of _ (by decide +kernel)) ggL_isKey_X5_gaps
set_option maxRecDepth 20000 in
theorem ggL_isKey_X5_coverage : GoodIn wsL_isKey wsX5_coverage := goodIn_ca (goodIn_ca (goodIn_ca (goodIn_r _ [123, 124, 125, 6, 7, 8, 9, 4, 10, 11, 12, 108, 109, 110, 16, 111, 18, 24, 25, 26, 27, 28, 29, 30, 31, 32, 33, 126, 127, 128, 129, 130, 63, 64, 65, 66, 19, 103, 100, 101, 102, 20, 21, 22, 23, 131, 132, 133, 134, 135, 136, 137, 138, 139, 140, 141, 142, 143, 144, 145, 146, 147, 148] (by decide +kernel) (by decide +kernel)) (goodIn_sub (fun _ h => List.mem_cons_of_mem _ (List.mem_append_right _ h)) (by decide +kernel))) (goodIn_sub (fun _ h => List.mem_cons_of_mem _ (List.mem_append_left _ (List.mem_append_left _ (List.mem_append_left _ (List.mem_append_right _ h))))) (by decide +kernel))) (goodIn_sub (fun _ h => List.mem_cons_of_mem _ (List.mem_append_left _ (List.mem_append_left _ (List.mem_append_left _ (List.mem_append_left _ (List.mem_append_right _ h)))))) (by decide +kernel))
set_option maxRecDepth 20000 in
theorem gL_isKey_X5_coverage : GoodIn wsL_isKey (wsV RL 62 RX5 yX5_coverage wsX5_coverage) := goodIn_app (goodIn_of _ (by decide +kernel)) ggL_isKey_X5_coverage
theorem dL_isKey_0 : decode cL_isKey 0 = .ok (.iconst 0, 1) := by decide +kernel
theorem dL_isKey_1 : decode cL_isKey 1 = .ok (.istore 4, 2) := by decide +kernel
theorem dL_isKey_3 : decode cL_isKey 3 = .ok (.iconst 0, 1) := by decide +kernel
theorem dL_isKey_4 : decode cL_isKey 4 = .ok (.istore 5, 2) := by decide +kernel
theorem dL_isKey_6 : decode cL_isKey 6 = .ok (.iconst 0, 1) := by decide +kernel
theorem dL_isKey_7 : decode cL_isKey 7 = .ok (.istore 6, 2) := by decide +kernel
theorem dL_isKey_9 : decode cL_isKey 9 = .ok (.iconst (-1), 1) := by decide +kernel
theorem dL_isKey_10 : decode cL_isKey 10 = .ok (.istore 7, 2) := by decide +kernel
theorem dL_isKey_12 : decode cL_isKey 12 = .ok (.iconst 0, 1) := by decide +kernel
theorem dL_isKey_13 : decode cL_isKey 13 = .ok (.istore 8, 2) := by decide +kernel
theorem dL_isKey_15 : decode cL_isKey 15 = .ok (.iload 8, 2) := by decide +kernel
theorem dL_isKey_17 : decode cL_isKey 17 = .ok (.sipush 1000, 3) := by decide +kernel
theorem dL_isKey_20 : decode cL_isKey 20 = .ok (.if_icmp .ge 271, 3) := by decide +kernel
theorem dL_isKey_23 : decode cL_isKey 23 = .ok (.aload_n 2, 1) := by decide +kernel
theorem dL_isKey_24 : decode cL_isKey 24 = .ok (.iload 8, 2) := by decide +kernel
theorem dL_isKey_26 : decode cL_isKey 26 = .ok (.iaload, 1) := by decide +kernel
theorem dL_isKey_27 : decode cL_isKey 27 = .ok (.istore 9, 2) := by decide +kernel
theorem dL_isKey_29 : decode cL_isKey 29 = .ok (.iload 9, 2) := by decide +kernel
theorem dL_isKey_31 : decode cL_isKey 31 = .ok (.ifCond .lt 199, 3) := by decide +kernel
theorem dL_isKey_34 : decode cL_isKey 34 = .ok (.iload 7, 2) := by decide +kernel
theorem dL_isKey_36 : decode cL_isKey 36 = .ok (.ifCond .ge 7, 3) := by decide +kernel
theorem dL_isKey_39 : decode cL_isKey 39 = .ok (.iload 8, 2) := by decide +kernel
theorem dL_isKey_41 : decode cL_isKey 41 = .ok (.istore 7, 2) := by decide +kernel
theorem dL_isKey_43 : decode cL_isKey 43 = .ok (.iinc 6 1, 3) := by decide +kernel
theorem dL_isKey_46 : decode cL_isKey 46 = .ok (.iload 8, 2) := by decide +kernel
theorem dL_isKey_48 : decode cL_isKey 48 = .ok (.ifCond .le 17, 3) := by decide +kernel
theorem dL_isKey_51 : decode cL_isKey 51 = .ok (.aload_n 2, 1) := by decide +kernel
theorem dL_isKey_52 : decode cL_isKey 52 = .ok (.iload 8, 2) := by decide +kernel
theorem dL_isKey_54 : decode cL_isKey 54 = .ok (.iconst 1, 1) := by decide +kernel
theorem dL_isKey_55 : decode cL_isKey 55 = .ok (.isub, 1) := by decide +kernel
theorem dL_isKey_56 : decode cL_isKey 56 = .ok (.iaload, 1) := by decide +kernel
theorem dL_isKey_57 : decode cL_isKey 57 = .ok (.iload 9, 2) := by decide +kernel
theorem dL_isKey_59 : decode cL_isKey 59 = .ok (.if_icmp .ne 6, 3) := by decide +kernel
theorem dL_isKey_62 : decode cL_isKey 62 = .ok (.goto 223, 3) := by decide +kernel
theorem dL_isKey_65 : decode cL_isKey 65 = .ok (.iload 8, 2) := by decide +kernel
theorem dL_isKey_67 : decode cL_isKey 67 = .ok (.istore 10, 2) := by decide +kernel
theorem dL_isKey_69 : decode cL_isKey 69 = .ok (.iload 10, 2) := by decide +kernel
theorem dL_isKey_71 : decode cL_isKey 71 = .ok (.sipush 1000, 3) := by decide +kernel
theorem dL_isKey_74 : decode cL_isKey 74 = .ok (.if_icmp .ge 18, 3) := by decide +kernel
theorem dL_isKey_77 : decode cL_isKey 77 = .ok (.aload_n 2, 1) := by decide +kernel
theorem dL_isKey_78 : decode cL_isKey 78 = .ok (.iload 10, 2) := by decide +kernel
theorem dL_isKey_80 : decode cL_isKey 80 = .ok (.iaload, 1) := by decide +kernel
theorem dL_isKey_81 : decode cL_isKey 81 = .ok (.iload 9, 2) := by decide +kernel
theorem dL_isKey_83 : decode cL_isKey 83 = .ok (.if_icmp .ne 9, 3) := by decide +kernel
theorem dL_isKey_86 : decode cL_isKey 86 = .ok (.iinc 10 1, 3) := by decide +kernel
theorem dL_isKey_89 : decode cL_isKey 89 = .ok (.goto (-20), 3) := by decide +kernel
theorem dL_isKey_92 : decode cL_isKey 92 = .ok (.aload_n 0, 1) := by decide +kernel
theorem dL_isKey_93 : decode cL_isKey 93 = .ok (.iload_n 1, 1) := by decide +kernel
theorem dL_isKey_94 : decode cL_isKey 94 = .ok (.iload 4, 2) := by decide +kernel
theorem dL_isKey_96 : decode cL_isKey 96 = .ok (.invokevirtual 39, 3) := by decide +kernel
theorem dL_isKey_99 : decode cL_isKey 99 = .ok (.iload 9, 2) := by decide +kernel
theorem dL_isKey_101 : decode cL_isKey 101 = .ok (.if_icmp .ne 121, 3) := by decide +kernel
theorem dL_isKey_104 : decode cL_isKey 104 = .ok (.aload_n 0, 1) := by decide +kernel
theorem dL_isKey_105 : decode cL_isKey 105 = .ok (.iload 9, 2) := by decide +kernel
theorem dL_isKey_107 : decode cL_isKey 107 = .ok (.iconst 0, 1) := by decide +kernel
theorem dL_isKey_108 : decode cL_isKey 108 = .ok (.invokevirtual 42, 3) := by decide +kernel
theorem dL_isKey_111 : decode cL_isKey 111 = .ok (.iload_n 1, 1) := by decide +kernel
theorem dL_isKey_112 : decode cL_isKey 112 = .ok (.if_icmp .ne 110, 3) := by decide +kernel
theorem dL_isKey_115 : decode cL_isKey 115 = .ok (.aload_n 0, 1) := by decide +kernel
theorem dL_isKey_116 : decode cL_isKey 116 = .ok (.iload 9, 2) := by decide +kernel
theorem dL_isKey_118 : decode cL_isKey 118 = .ok (.iconst 1, 1) := by decide +kernel
theorem dL_isKey_119 : decode cL_isKey 119 = .ok (.invokevirtual 42, 3) := by decide +kernel
theorem dL_isKey_122 : decode cL_isKey 122 = .ok (.iload 8, 2) := by decide +kernel
theorem dL_isKey_124 : decode cL_isKey 124 = .ok (.if_icmp .ne 98, 3) := by decide +kernel
theorem dL_isKey_127 : decode cL_isKey 127 = .ok (.aload_n 0, 1) := by decide +kernel
theorem dL_isKey_128 : decode cL_isKey 128 = .ok (.iload 9, 2) := by decide +kernel
theorem dL_isKey_130 : decode cL_isKey 130 = .ok (.iconst 2, 1) := by decide +kernel
theorem dL_isKey_131 : decode cL_isKey 131 = .ok (.invokevirtual 42, 3) := by decide +kernel
theorem dL_isKey_134 : decode cL_isKey 134 = .ok (.iload 10, 2) := by decide +kernel
theorem dL_isKey_136 : decode cL_isKey 136 = .ok (.if_icmp .ne 86, 3) := by decide +kernel
theorem dL_isKey_139 : decode cL_isKey 139 = .ok (.aload_n 0, 1) := by decide +kernel
theorem dL_isKey_140 : decode cL_isKey 140 = .ok (.iload 9, 2) := by decide +kernel
theorem dL_isKey_142 : decode cL_isKey 142 = .ok (.iconst 5, 1) := by decide +kernel
theorem dL_isKey_143 : decode cL_isKey 143 = .ok (.invokevirtual 42, 3) := by decide +kernel
theorem dL_isKey_146 : decode cL_isKey 146 = .ok (.iload 10, 2) := by decide +kernel
theorem dL_isKey_148 : decode cL_isKey 148 = .ok (.iload 8, 2) := by decide +kernel
theorem dL_isKey_150 : decode cL_isKey 150 = .ok (.isub, 1) := by decide +kernel
theorem dL_isKey_151 : decode cL_isKey 151 = .ok (.if_icmp .ne 71, 3) := by decide +kernel
theorem dL_isKey_154 : decode cL_isKey 154 = .ok (.aload_n 0, 1) := by decide +kernel
theorem dL_isKey_155 : decode cL_isKey 155 = .ok (.iload 9, 2) := by decide +kernel
theorem dL_isKey_157 : decode cL_isKey 157 = .ok (.iconst 3, 1) := by decide +kernel
theorem dL_isKey_158 : decode cL_isKey 158 = .ok (.invokevirtual 42, 3) := by decide +kernel
theorem dL_isKey_161 : decode cL_isKey 161 = .ok (.aload_n 3, 1) := by decide +kernel
theorem dL_isKey_162 : decode cL_isKey 162 = .ok (.iconst 3, 1) := by decide +kernel
theorem dL_isKey_163 : decode cL_isKey 163 = .ok (.iload 9, 2) := by decide +kernel
theorem dL_isKey_165 : decode cL_isKey 165 = .ok (.imul, 1) := by decide +kernel
theorem dL_isKey_166 : decode cL_isKey 166 = .ok (.iaload, 1) := by decide +kernel
theorem dL_isKey_167 : decode cL_isKey 167 = .ok (.if_icmp .ne 55, 3) := by decide +kernel
theorem dL_isKey_170 : decode cL_isKey 170 = .ok (.aload_n 0, 1) := by decide +kernel
theorem dL_isKey_171 : decode cL_isKey 171 = .ok (.iload 9, 2) := by decide +kernel
theorem dL_isKey_173 : decode cL_isKey 173 = .ok (.invokevirtual 45, 3) := by decide +kernel
theorem dL_isKey_176 : decode cL_isKey 176 = .ok (.aload_n 3, 1) := by decide +kernel
theorem dL_isKey_177 : decode cL_isKey 177 = .ok (.iconst 3, 1) := by decide +kernel
theorem dL_isKey_178 : decode cL_isKey 178 = .ok (.iload 9, 2) := by decide +kernel
theorem dL_isKey_180 : decode cL_isKey 180 = .ok (.imul, 1) := by decide +kernel
theorem dL_isKey_181 : decode cL_isKey 181 = .ok (.iconst 1, 1) := by decide +kernel
theorem dL_isKey_182 : decode cL_isKey 182 = .ok (.iadd, 1) := by decide +kernel
theorem dL_isKey_183 : decode cL_isKey 183 = .ok (.iaload, 1) := by decide +kernel
theorem dL_isKey_184 : decode cL_isKey 184 = .ok (.iconst 1, 1) := by decide +kernel
theorem dL_isKey_185 : decode cL_isKey 185 = .ok (.if_icmp .ne 7, 3) := by decide +kernel
theorem dL_isKey_188 : decode cL_isKey 188 = .ok (.iconst 1, 1) := by decide +kernel
theorem dL_isKey_189 : decode cL_isKey 189 = .ok (.goto 4, 3) := by decide +kernel
theorem dL_isKey_192 : decode cL_isKey 192 = .ok (.iconst 0, 1) := by decide +kernel
theorem dL_isKey_193 : decode cL_isKey 193 = .ok (.if_icmp .ne 29, 3) := by decide +kernel
theorem dL_isKey_196 : decode cL_isKey 196 = .ok (.aload_n 0, 1) := by decide +kernel
theorem dL_isKey_197 : decode cL_isKey 197 = .ok (.iload_n 1, 1) := by decide +kernel
theorem dL_isKey_198 : decode cL_isKey 198 = .ok (.iload 8, 2) := by decide +kernel
theorem dL_isKey_200 : decode cL_isKey 200 = .ok (.invokevirtual 49, 3) := by decide +kernel
theorem dL_isKey_203 : decode cL_isKey 203 = .ok (.iload 9, 2) := by decide +kernel
theorem dL_isKey_205 : decode cL_isKey 205 = .ok (.if_icmp .ne 17, 3) := by decide +kernel
theorem dL_isKey_208 : decode cL_isKey 208 = .ok (.aload_n 0, 1) := by decide +kernel
theorem dL_isKey_209 : decode cL_isKey 209 = .ok (.iload_n 1, 1) := by decide +kernel
theorem dL_isKey_210 : decode cL_isKey 210 = .ok (.iload 10, 2) := by decide +kernel
theorem dL_isKey_212 : decode cL_isKey 212 = .ok (.iconst 1, 1) := by decide +kernel
theorem dL_isKey_213 : decode cL_isKey 213 = .ok (.isub, 1) := by decide +kernel
theorem dL_isKey_214 : decode cL_isKey 214 = .ok (.invokevirtual 49, 3) := by decide +kernel
theorem dL_isKey_217 : decode cL_isKey 217 = .ok (.iload 9, 2) := by decide +kernel
theorem dL_isKey_219 : decode cL_isKey 219 = .ok (.if_icmp .eq 5, 3) := by decide +kernel
theorem dL_isKey_222 : decode cL_isKey 222 = .ok (.iconst (-1), 1) := by decide +kernel
theorem dL_isKey_223 : decode cL_isKey 223 = .ok (.ireturn, 1) := by decide +kernel
theorem dL_isKey_224 : decode cL_isKey 224 = .ok (.iinc 4 1, 3) := by decide +kernel
theorem dL_isKey_227 : decode cL_isKey 227 = .ok (.goto 58, 3) := by decide +kernel
theorem dL_isKey_230 : decode cL_isKey 230 = .ok (.iload 7, 2) := by decide +kernel
theorem dL_isKey_232 : decode cL_isKey 232 = .ok (.ifCond .lt 53, 3) := by decide +kernel
theorem dL_isKey_235 : decode cL_isKey 235 = .ok (.aload_n 2, 1) := by decide +kernel
theorem dL_isKey_236 : decode cL_isKey 236 = .ok (.iload 8, 2) := by decide +kernel
theorem dL_isKey_238 : decode cL_isKey 238 = .ok (.iconst 1, 1) := by decide +kernel
theorem dL_isKey_239 : decode cL_isKey 239 = .ok (.isub, 1) := by decide +kernel
theorem dL_isKey_240 : decode cL_isKey 240 = .ok (.iaload, 1) := by decide +kernel
theorem dL_isKey_241 : decode cL_isKey 241 = .ok (.ifCond .lt 44, 3) := by decide +kernel
theorem dL_isKey_244 : decode cL_isKey 244 = .ok (.aload_n 2, 1) := by decide +kernel
theorem dL_isKey_245 : decode cL_isKey 245 = .ok (.iload 8, 2) := by decide +kernel
theorem dL_isKey_247 : decode cL_isKey 247 = .ok (.invokestatic 18, 3) := by decide +kernel
theorem dL_isKey_250 : decode cL_isKey 250 = .ok (.istore 10, 2) := by decide +kernel
theorem dL_isKey_252 : decode cL_isKey 252 = .ok (.aload_n 0, 1) := by decide +kernel
theorem dL_isKey_253 : decode cL_isKey 253 = .ok (.iload_n 1, 1) := by decide +kernel
theorem dL_isKey_254 : decode cL_isKey 254 = .ok (.iload 5, 2) := by decide +kernel
theorem dL_isKey_256 : decode cL_isKey 256 = .ok (.iconst 0, 1) := by decide +kernel
theorem dL_isKey_257 : decode cL_isKey 257 = .ok (.invokevirtual 52, 3) := by decide +kernel
theorem dL_isKey_260 : decode cL_isKey 260 = .ok (.iload 8, 2) := by decide +kernel
theorem dL_isKey_262 : decode cL_isKey 262 = .ok (.if_icmp .ne 18, 3) := by decide +kernel
theorem dL_isKey_265 : decode cL_isKey 265 = .ok (.aload_n 0, 1) := by decide +kernel
theorem dL_isKey_266 : decode cL_isKey 266 = .ok (.iload_n 1, 1) := by decide +kernel
theorem dL_isKey_267 : decode cL_isKey 267 = .ok (.iload 5, 2) := by decide +kernel
theorem dL_isKey_269 : decode cL_isKey 269 = .ok (.iconst 1, 1) := by decide +kernel
theorem dL_isKey_270 : decode cL_isKey 270 = .ok (.invokevirtual 52, 3) := by decide +kernel
theorem dL_isKey_273 : decode cL_isKey 273 = .ok (.iload 10, 2) := by decide +kernel
theorem dL_isKey_275 : decode cL_isKey 275 = .ok (.iconst 1, 1) := by decide +kernel
theorem dL_isKey_276 : decode cL_isKey 276 = .ok (.isub, 1) := by decide +kernel
theorem dL_isKey_277 : decode cL_isKey 277 = .ok (.if_icmp .eq 5, 3) := by decide +kernel
theorem dL_isKey_280 : decode cL_isKey 280 = .ok (.iconst (-1), 1) := by decide +kernel
theorem dL_isKey_281 : decode cL_isKey 281 = .ok (.ireturn, 1) := by decide +kernel
theorem dL_isKey_282 : decode cL_isKey 282 = .ok (.iinc 5 1, 3) := by decide +kernel
theorem dL_isKey_285 : decode cL_isKey 285 = .ok (.iinc 8 1, 3) := by decide +kernel
theorem dL_isKey_288 : decode cL_isKey 288 = .ok (.goto (-273), 3) := by decide +kernel
theorem dL_isKey_291 : decode cL_isKey 291 = .ok (.aload_n 0, 1) := by decide +kernel
theorem dL_isKey_292 : decode cL_isKey 292 = .ok (.iload_n 1, 1) := by decide +kernel
theorem dL_isKey_293 : decode cL_isKey 293 = .ok (.invokevirtual 56, 3) := by decide +kernel
theorem dL_isKey_296 : decode cL_isKey 296 = .ok (.iload 4, 2) := by decide +kernel
theorem dL_isKey_298 : decode cL_isKey 298 = .ok (.if_icmp .ne 38, 3) := by decide +kernel
theorem dL_isKey_301 : decode cL_isKey 301 = .ok (.aload_n 0, 1) := by decide +kernel
theorem dL_isKey_302 : decode cL_isKey 302 = .ok (.iload_n 1, 1) := by decide +kernel
theorem dL_isKey_303 : decode cL_isKey 303 = .ok (.invokevirtual 59, 3) := by decide +kernel
theorem dL_isKey_306 : decode cL_isKey 306 = .ok (.iload 5, 2) := by decide +kernel
theorem dL_isKey_308 : decode cL_isKey 308 = .ok (.if_icmp .ne 28, 3) := by decide +kernel
theorem dL_isKey_311 : decode cL_isKey 311 = .ok (.iload 7, 2) := by decide +kernel
theorem dL_isKey_313 : decode cL_isKey 313 = .ok (.ifCond .lt 25, 3) := by decide +kernel
theorem dL_isKey_316 : decode cL_isKey 316 = .ok (.aload_n 0, 1) := by decide +kernel
theorem dL_isKey_317 : decode cL_isKey 317 = .ok (.iload_n 1, 1) := by decide +kernel
theorem dL_isKey_318 : decode cL_isKey 318 = .ok (.invokevirtual 62, 3) := by decide +kernel
theorem dL_isKey_321 : decode cL_isKey 321 = .ok (.iload 6, 2) := by decide +kernel
theorem dL_isKey_323 : decode cL_isKey 323 = .ok (.i2d, 1) := by decide +kernel
theorem dL_isKey_324 : decode cL_isKey 324 = .ok (.sipush 1000, 3) := by decide +kernel
theorem dL_isKey_327 : decode cL_isKey 327 = .ok (.iload 7, 2) := by decide +kernel
theorem dL_isKey_329 : decode cL_isKey 329 = .ok (.isub, 1) := by decide +kernel
theorem dL_isKey_330 : decode cL_isKey 330 = .ok (.i2d, 1) := by decide +kernel
theorem dL_isKey_331 : decode cL_isKey 331 = .ok (.ddiv, 1) := by decide +kernel
theorem dL_isKey_332 : decode cL_isKey 332 = .ok (.dcmp .l, 1) := by decide +kernel
theorem dL_isKey_333 : decode cL_isKey 333 = .ok (.ifCond .eq 5, 3) := by decide +kernel
theorem dL_isKey_336 : decode cL_isKey 336 = .ok (.iconst (-1), 1) := by decide +kernel
theorem dL_isKey_337 : decode cL_isKey 337 = .ok (.ireturn, 1) := by decide +kernel
theorem dL_isKey_338 : decode cL_isKey 338 = .ok (.iload 4, 2) := by decide +kernel
theorem dL_isKey_340 : decode cL_isKey 340 = .ok (.ireturn, 1) := by decide +kernel
set_option maxRecDepth 20000 in
theorem ggL_law_X5_init : GoodIn wsL_law wsX5_init := goodIn_r _ [8, 9, 10, 11, 12, 13, 14, 15, 16, 17, 18, 19, 20, 21, 22, 23, 24, 25, 26, 27, 28, 29, 30, 31, 32, 33, 34, 35, 36, 37, 38, 39, 40, 41, 42, 43, 4, 44, 45, 46, 47, 48, 49, 50, 51, 52, 53, 54, 55, 56, 57, 58, 59, 60, 61, 62, 63, 64, 65, 66, 67, 68, 357, 358, 359, 349, 350, 351, 352, 353, 354, 355, 356, 360, 361, 362, 363, 364, 365, 366, 367, 368, 369, 370, 371, 372, 373, 374, 375, 376, 377, 378] (by decide +kernel) (by decide +kernel)
set_option maxRecDepth 20000 in
theorem gL_law_X5_init : GoodIn wsL_law (wsX5_init) := ggL_law_X5_init
set_option maxRecDepth 20000 in
theorem ggL_law_L_draw : GoodIn wsL_law wsL_draw := goodIn_ca (goodIn_ca (goodIn_r _ [72, 73, 74, 71, 75, 76] (by decide +kernel) (by decide +kernel)) (goodIn_sub (fun _ h => List.mem_append_left _ (List.mem_append_left _ (List.mem_append_left _ (List.mem_append_left _ (List.mem_append_left _ (List.mem_append_left _ (List.mem_append_right _ h))))))) (by decide +kernel))) (goodIn_sub (fun _ h => List.mem_append_left _ (List.mem_append_left _ (List.mem_append_left _ (List.mem_append_left _ (List.mem_append_left _ (List.mem_append_right _ h)))))) (by decide +kernel))
set_option maxRecDepth 20000 in
theorem gL_law_L_draw : GoodIn wsL_law (va_wsS RL 67 yL_draw wsL_draw) := goodIn_app (goodIn_of _ (by decide +kernel)) ggL_law_L_draw
set_option maxRecDepth 20000 in
theorem ggL_law_L_fill : GoodIn wsL_law wsL_fill := goodIn_ca (goodIn_r _ [79] (by decide +kernel) (by decide +kernel)) (goodIn_sub (fun _ h => List.mem_append_left _ (List.mem_append_left _ (List.mem_append_left _ (List.mem_append_left _ (List.mem_append_left _ (List.mem_append_right _ h)))))) (by decide +kernel))
set_option maxRecDepth 20000 in
theorem gL_law_L_fill : GoodIn wsL_law (va_wsS RL 14 yL_fill wsL_fill) := goodIn_app (goodIn_of _ (by decide +kernel)) ggL_law_L_fill
set_option maxRecDepth 20000 in
theorem ggL_law_L_change : GoodIn wsL_law wsL_change := goodIn_ca (goodIn_r _ [82, 77, 78, 71, 79, 83, 84, 85] (by decide +kernel) (by decide +kernel)) (goodIn_sub (fun _ h => List.mem_append_left _ (List.mem_append_left _ (List.mem_append_left _ (List.mem_append_left _ (List.mem_append_left _ (List.mem_append_right _ h)))))) (by decide +kernel))
set_option maxRecDepth 20000 in
theorem gL_law_L_change : GoodIn wsL_law (va_wsS RL 73 yL_change wsL_change) := goodIn_app (goodIn_of _ (by decide +kernel)) ggL_law_L_change
set_option maxRecDepth 20000 in
theorem ggL_law_X5_change : GoodIn wsL_law wsX5_change := goodIn_ca (goodIn_ca (goodIn_ca (goodIn_ca (goodIn_r _ [89, 90, 91, 15, 92, 93, 94, 2, 95, 96, 97, 98, 99, 100, 101, 102, 103, 104, 105, 19, 106, 45, 49, 47, 107, 108, 109, 110, 111, 46, 112, 113, 114, 115, 44, 116, 117, 118, 119, 50, 120, 121, 122, 123, 124, 125, 126, 127, 128, 129, 130, 131, 132, 133, 134, 135, 136, 137, 138, 139, 140, 141, 142, 143, 144, 145, 146, 147, 148, 37, 149, 150, 54, 55, 57, 151, 349, 350, 351, 352, 353, 354, 355, 356, 357, 358, 359, 360, 361, 362, 363, 364, 365, 366, 374, 375, 376, 377, 378] (by decide +kernel) (by decide +kernel)) (goodIn_sub (fun _ h => List.mem_append_left _ (List.mem_append_left _ (List.mem_append_left _ (List.mem_append_left _ (List.mem_append_right _ h))))) (by decide +kernel))) (goodIn_sub (fun _ h => List.mem_append_left _ (List.mem_append_left _ (List.mem_append_left _ (List.mem_append_right _ h)))) (by decide +kernel))) (goodIn_sub (fun _ h => List.mem_append_left _ (List.mem_append_left _ (List.mem_append_right _ h))) (by decide +kernel))) (goodIn_sub (fun _ h => List.mem_append_left _ (List.mem_append_left _ (List.mem_append_left _ (List.mem_append_left _ (List.mem_append_left _ (List.mem_append_right _ h)))))) (by decide +kernel))
set_option maxRecDepth 20000 in
theorem gL_law_X5_change : GoodIn wsL_law (wsV RL 77 RX5 yX5_change wsX5_change) := goodIn_app (goodIn_of _ (by decide +kernel)) ggL_law_X5_change
set_option maxRecDepth 20000 in
theorem ggL_law_L_fact : GoodIn wsL_law wsL_fact := goodIn_ca (goodIn_r _ [154, 83, 84, 71, 85, 77, 78, 79] (by decide +kernel) (by decide +kernel)) (goodIn_sub (fun _ h => List.mem_append_left _ (List.mem_append_left _ (List.mem_append_left _ (List.mem_append_left _ (List.mem_append_left _ (List.mem_append_right _ h)))))) (by decide +kernel))
set_option maxRecDepth 20000 in
theorem gL_law_L_fact : GoodIn wsL_law (va_wsS RL 80 yL_fact wsL_fact) := goodIn_app (goodIn_of _ (by decide +kernel)) ggL_law_L_fact
set_option maxRecDepth 20000 in
theorem ggL_law_L_cell : GoodIn wsL_law wsL_cell := goodIn_ca (goodIn_r _ [75, 76] (by decide +kernel) (by decide +kernel)) (goodIn_sub (fun _ h => List.mem_append_left _ (List.mem_append_left _ (List.mem_append_left _ (List.mem_append_left _ (List.mem_append_left _ (List.mem_append_right _ h)))))) (by decide +kernel))
set_option maxRecDepth 20000 in
theorem gL_law_L_cell : GoodIn wsL_law (va_wsS RL 8 yL_cell wsL_cell) := goodIn_app (goodIn_of _ (by decide +kernel)) ggL_law_L_cell
set_option maxRecDepth 20000 in
theorem ggL_law_X5_addFact : GoodIn wsL_law wsX5_addFact := goodIn_ca (goodIn_ca (goodIn_ca (goodIn_ca (goodIn_r _ [158, 90, 91, 15, 144, 92, 93, 94, 2, 95, 96, 97, 98, 99, 100, 101, 102, 159, 160, 161, 37, 162, 150, 163, 121, 122, 19, 123, 49, 45, 107, 108, 109, 110, 111, 46, 112, 113, 114, 115, 44, 116, 117, 118, 119, 50, 124, 125, 126, 127, 128, 129, 130, 131, 47, 140, 141, 142, 143, 145, 146, 147, 148, 149, 54, 55, 57, 151, 164, 165, 166, 167, 56, 168, 349, 350, 351, 352, 353, 354, 355, 356, 357, 358, 359, 374, 375, 376, 377, 378, 360, 361, 362, 363, 364, 365, 366] (by decide +kernel) (by decide +kernel)) (goodIn_sub (fun _ h => List.mem_append_left _ (List.mem_append_left _ (List.mem_append_left _ (List.mem_append_left _ (List.mem_append_right _ h))))) (by decide +kernel))) (goodIn_sub (fun _ h => List.mem_append_left _ (List.mem_append_left _ (List.mem_append_left _ (List.mem_append_right _ h)))) (by decide +kernel))) (goodIn_sub (fun _ h => List.mem_append_left _ (List.mem_append_left _ (List.mem_append_right _ h))) (by decide +kernel))) (goodIn_sub (fun _ h => List.mem_append_left _ (List.mem_append_left _ (List.mem_append_left _ (List.mem_append_left _ (List.mem_append_left _ (List.mem_append_right _ h)))))) (by decide +kernel))
set_option maxRecDepth 20000 in
theorem gL_law_X5_addFact : GoodIn wsL_law (wsV RL 84 RX5 yX5_addFact wsX5_addFact) := goodIn_app (goodIn_of _ (by decide +kernel)) ggL_law_X5_addFact
set_option maxRecDepth 20000 in
theorem ggL_law_L_close : GoodIn wsL_law wsL_close := goodIn_ca (goodIn_ca (goodIn_ca (goodIn_ca (goodIn_ca (goodIn_r _ [171, 172, 173, 174, 175, 176, 177, 178, 2, 179, 180, 181, 90, 91, 15, 92, 182, 144, 183, 93, 94, 95, 96, 97, 98, 99, 100, 101, 102, 184, 108, 109, 19, 110, 111, 45, 46, 112, 113, 114, 115, 44, 116, 117, 118, 119, 50, 185, 186, 187, 37, 188, 150, 57, 55, 140, 141, 142, 143, 145, 146, 147, 148, 149, 54, 151, 349, 350, 351, 352, 353, 354, 355, 356, 357, 358, 359, 360, 361, 362, 363, 364, 365, 366, 374, 375, 376, 377, 378] (by decide +kernel) (by decide +kernel)) (goodIn_sub (fun _ h => List.mem_append_left _ (List.mem_append_right _ h)) (by decide +kernel))) (goodIn_sub (fun _ h => List.mem_append_left _ (List.mem_append_left _ (List.mem_append_left _ (List.mem_append_left _ (List.mem_append_left _ (List.mem_append_right _ h)))))) (by decide +kernel))) (goodIn_sub (fun _ h => List.mem_append_left _ (List.mem_append_left _ (List.mem_append_left _ (List.mem_append_left _ (List.mem_append_right _ h))))) (by decide +kernel))) (goodIn_sub (fun _ h => List.mem_append_left _ (List.mem_append_left _ (List.mem_append_left _ (List.mem_append_right _ h)))) (by decide +kernel))) (goodIn_sub (fun _ h => List.mem_append_left _ (List.mem_append_left _ (List.mem_append_right _ h))) (by decide +kernel))
set_option maxRecDepth 20000 in
theorem gL_law_L_close : GoodIn wsL_law (va_wsS RL 87 yL_close wsL_close) := goodIn_app (goodIn_of _ (by decide +kernel)) ggL_law_L_close
set_option maxRecDepth 20000 in
theorem ggL_law_L_remove : GoodIn wsL_law wsL_remove := goodIn_ca (goodIn_ca (goodIn_ca (goodIn_r _ [191, 172, 175, 192, 193, 194, 2, 195, 90, 91, 15, 144, 92, 196, 197, 198, 199, 96, 97, 200, 117, 118, 19, 119, 111, 50, 201, 202, 203, 37, 204, 150, 57, 205, 206, 207, 208, 44, 46, 45, 116, 112, 113, 114, 115, 209, 210, 211, 212, 213, 214, 215, 216, 140, 141, 142, 143, 145, 146, 147, 148, 149, 54, 55, 151, 108, 109, 110, 349, 350, 351, 352, 353, 354, 355, 356, 357, 358, 359, 360, 361, 362, 363, 364, 365, 366, 374, 375, 376, 377, 378] (by decide +kernel) (by decide +kernel)) (goodIn_sub (fun _ h => List.mem_append_left _ (List.mem_append_left _ (List.mem_append_left _ (List.mem_append_left _ (List.mem_append_right _ h))))) (by decide +kernel))) (goodIn_sub (fun _ h => List.mem_append_left _ (List.mem_append_left _ (List.mem_append_left _ (List.mem_append_right _ h)))) (by decide +kernel))) (goodIn_sub (fun _ h => List.mem_append_left _ (List.mem_append_left _ (List.mem_append_left _ (List.mem_append_left _ (List.mem_append_left _ (List.mem_append_right _ h)))))) (by decide +kernel))
set_option maxRecDepth 20000 in
theorem gL_law_L_remove : GoodIn wsL_law (va_wsS RL 90 yL_remove wsL_remove) := goodIn_app (goodIn_of _ (by decide +kernel)) ggL_law_L_remove
set_option maxRecDepth 20000 in
theorem ggL_law_X5_join : GoodIn wsL_law wsX5_join := goodIn_ca (goodIn_ca (goodIn_r _ [220, 15, 92, 93, 94, 2, 95, 96, 97, 221, 222, 223, 19, 224, 111, 45, 124, 125, 126, 127, 112, 113, 114, 115, 44, 116, 117, 118, 119, 50, 225, 226, 227, 228, 46, 47, 49, 229, 214, 215, 216, 140, 141, 142, 143, 144, 145, 146, 147, 148, 37, 149, 150, 54, 55, 57, 151, 108, 109, 110, 349, 350, 351, 352, 353, 354, 355, 356, 357, 358, 359, 360, 361, 362, 363, 364, 365, 366, 374, 375, 376, 377, 378] (by decide +kernel) (by decide +kernel)) (goodIn_sub (fun _ h => List.mem_append_left _ (List.mem_append_left _ (List.mem_append_left _ (List.mem_append_right _ h)))) (by decide +kernel))) (goodIn_sub (fun _ h => List.mem_append_left _ (List.mem_append_left _ (List.mem_append_left _ (List.mem_append_left _ (List.mem_append_left _ (List.mem_append_right _ h)))))) (by decide +kernel))
set_option maxRecDepth 20000 in
theorem gL_law_X5_join : GoodIn wsL_law (wsV RL 93 RX5 yX5_join wsX5_join) := goodIn_app (goodIn_of _ (by decide +kernel)) ggL_law_X5_join
set_option maxRecDepth 20000 in
theorem ggL_law_X5_pointedAnew : GoodIn wsL_law wsX5_pointedAnew := goodIn_r _ [233, 145, 349, 350, 351, 352, 353, 354, 355, 356] (by decide +kernel) (by decide +kernel)
set_option maxRecDepth 20000 in
theorem gL_law_X5_pointedAnew : GoodIn wsL_law (wsV RL 96 RX5 yX5_pointedAnew wsX5_pointedAnew) := goodIn_app (goodIn_of _ (by decide +kernel)) ggL_law_X5_pointedAnew
set_option maxRecDepth 20000 in
theorem ggL_law_L_isKey : GoodIn wsL_law wsL_isKey := goodIn_ca (goodIn_ca (goodIn_ca (goodIn_ca (goodIn_ca (goodIn_r _ [236, 237, 238, 239, 2, 240, 15, 92, 93, 94, 95, 96, 97, 241, 242, 243, 19, 244, 111, 45, 124, 125, 126, 127, 112, 113, 114, 115, 44, 116, 117, 118, 119, 50, 245, 246, 247, 180, 181, 248, 249, 250, 251, 101, 102, 252, 182, 183, 253, 144, 196, 197, 198, 199, 200, 201, 202, 203, 37, 204, 150, 57, 254, 255, 256, 257, 46, 258, 259, 260, 261, 262, 263, 264, 265, 266, 98, 99, 100, 184, 108, 109, 110, 83, 84, 71, 85, 267, 268, 269, 270, 271, 272, 273, 274, 275, 276, 277, 278, 279, 280, 281, 282, 283, 284, 285, 286, 287, 288, 289, 290, 291, 292, 293, 294, 295, 296, 297, 298, 299, 300, 301, 302, 303, 304, 305, 306, 307, 308, 309, 310, 349, 350, 351, 352, 353, 354, 355, 356, 357, 358, 359, 360, 361, 362, 363, 364, 365, 366, 374, 375, 376, 377, 378] (by decide +kernel) (by decide +kernel)) (goodIn_sub (fun _ h => List.mem_append_left _ (List.mem_append_left _ (List.mem_append_left _ (List.mem_append_left _ (List.mem_append_left _ (List.mem_append_right _ h)))))) (by decide +kernel))) (goodIn_sub (fun _ h => List.mem_append_left _ (List.mem_append_left _ (List.mem_append_left _ (List.mem_append_right _ h)))) (by decide +kernel))) (goodIn_sub (fun _ h => List.mem_append_left _ (List.mem_append_right _ h)) (by decide +kernel))) (goodIn_sub (fun _ h => List.mem_append_left _ (List.mem_append_left _ (List.mem_append_right _ h))) (by decide +kernel))) (goodIn_sub (fun _ h => List.mem_append_right _ h) (by decide +kernel))
set_option maxRecDepth 20000 in
theorem gL_law_L_isKey : GoodIn wsL_law (va_wsS RL 100 yL_isKey wsL_isKey) := goodIn_app (goodIn_of _ (by decide +kernel)) ggL_law_L_isKey
set_option maxRecDepth 20000 in
theorem ggL_law_X5_fact : GoodIn wsL_law wsX5_fact := goodIn_ca (goodIn_ca (goodIn_ca (goodIn_r _ [314, 96, 97, 101, 102, 15, 144, 315, 316, 317, 318, 319, 92, 320, 321, 322, 19, 323, 47, 116, 117, 118, 119, 111, 50, 349, 350, 351, 352, 353, 354, 355, 356, 357, 358, 359, 374, 375, 376, 377, 378, 360, 361, 362, 363, 364, 365, 366] (by decide +kernel) (by decide +kernel)) (goodIn_sub (fun _ h => List.mem_append_left _ (List.mem_append_left _ (List.mem_append_left _ (List.mem_append_right _ h)))) (by decide +kernel))) (goodIn_sub (fun _ h => List.mem_append_left _ (List.mem_append_left _ (List.mem_append_left _ (List.mem_append_left _ (List.mem_append_left _ (List.mem_append_right _ h)))))) (by decide +kernel))) (goodIn_sub (fun _ h => List.mem_append_left _ (List.mem_append_left _ (List.mem_append_right _ h))) (by decide +kernel))
set_option maxRecDepth 20000 in
theorem gL_law_X5_fact : GoodIn wsL_law (wsV RL 104 RX5 yX5_fact wsX5_fact) := goodIn_app (goodIn_of _ (by decide +kernel)) ggL_law_X5_fact
set_option maxRecDepth 20000 in
theorem ggL_law_X5_versionsOf : GoodIn wsL_law wsX5_versionsOf := goodIn_ca (goodIn_ca (goodIn_r _ [287, 15, 92, 93, 94, 2, 95, 96, 97, 288, 289, 290, 19, 291, 111, 112, 113, 114, 115, 44, 116, 117, 118, 119, 50, 349, 350, 351, 352, 353, 354, 355, 356, 357, 358, 359, 360, 361, 362, 363, 364, 365, 366] (by decide +kernel) (by decide +kernel)) (goodIn_sub (fun _ h => List.mem_append_left _ (List.mem_append_left _ (List.mem_append_left _ (List.mem_append_right _ h)))) (by decide +kernel))) (goodIn_sub (fun _ h => List.mem_append_left _ (List.mem_append_left _ (List.mem_append_left _ (List.mem_append_left _ (List.mem_append_left _ (List.mem_append_right _ h)))))) (by decide +kernel))
set_option maxRecDepth 20000 in
theorem gL_law_X5_versionsOf : GoodIn wsL_law (wsV RL 56 RX5 yX5_versionsOf wsX5_versionsOf) := goodIn_app (goodIn_of _ (by decide +kernel)) ggL_law_X5_versionsOf
set_option maxRecDepth 20000 in
theorem ggL_law_X5_versionAt : GoodIn wsL_law wsX5_versionAt := goodIn_ca (goodIn_ca (goodIn_ca (goodIn_r _ [240, 15, 92, 93, 94, 2, 95, 96, 97, 241, 242, 243, 19, 244, 111, 45, 124, 125, 126, 127, 112, 113, 114, 115, 44, 116, 117, 118, 119, 50, 245, 246, 247, 180, 181, 349, 350, 351, 352, 353, 354, 355, 356, 357, 358, 359, 360, 361, 362, 363, 364, 365, 366] (by decide +kernel) (by decide +kernel)) (goodIn_sub (fun _ h => List.mem_append_left _ (List.mem_append_left _ (List.mem_append_left _ (List.mem_append_right _ h)))) (by decide +kernel))) (goodIn_sub (fun _ h => List.mem_append_left _ (List.mem_append_left _ (List.mem_append_left _ (List.mem_append_left _ (List.mem_append_left _ (List.mem_append_right _ h)))))) (by decide +kernel))) (goodIn_sub (fun _ h => List.mem_append_left _ (List.mem_append_right _ h)) (by decide +kernel))
set_option maxRecDepth 20000 in
theorem gL_law_X5_versionAt : GoodIn wsL_law (wsV RL 39 RX5 yX5_versionAt wsX5_versionAt) := goodIn_app (goodIn_of _ (by decide +kernel)) ggL_law_X5_versionAt
set_option maxRecDepth 20000 in
theorem ggL_law_X5_amountOf : GoodIn wsL_law wsX5_amountOf := goodIn_ca (goodIn_ca (goodIn_r _ [327, 15, 144, 196, 197, 198, 2, 199, 96, 97, 92, 200, 117, 118, 19, 119, 111, 50, 328, 329, 330, 37, 331, 150, 57, 56, 349, 350, 351, 352, 353, 354, 355, 356, 357, 358, 359, 360, 361, 362, 363, 364, 365, 366, 374, 375, 376, 377, 378] (by decide +kernel) (by decide +kernel)) (goodIn_sub (fun _ h => List.mem_append_left _ (List.mem_append_left _ (List.mem_append_left _ (List.mem_append_right _ h)))) (by decide +kernel))) (goodIn_sub (fun _ h => List.mem_append_left _ (List.mem_append_left _ (List.mem_append_left _ (List.mem_append_left _ (List.mem_append_left _ (List.mem_append_right _ h)))))) (by decide +kernel))
set_option maxRecDepth 20000 in
theorem gL_law_X5_amountOf : GoodIn wsL_law (wsV RL 106 RX5 yX5_amountOf wsX5_amountOf) := goodIn_app (goodIn_of _ (by decide +kernel)) ggL_law_X5_amountOf
set_option maxRecDepth 20000 in
theorem ggL_law_X5_version : GoodIn wsL_law wsX5_version := goodIn_ca (goodIn_ca (goodIn_ca (goodIn_r _ [251, 101, 102, 15, 92, 252, 182, 183, 253, 144, 196, 197, 198, 2, 199, 96, 97, 200, 117, 118, 19, 119, 111, 50, 201, 202, 203, 37, 204, 150, 57, 254, 255, 256, 257, 46, 45, 116, 349, 350, 351, 352, 353, 354, 355, 356, 357, 358, 359, 360, 361, 362, 363, 364, 365, 366, 374, 375, 376, 377, 378] (by decide +kernel) (by decide +kernel)) (goodIn_sub (fun _ h => List.mem_append_left _ (List.mem_append_left _ (List.mem_append_left _ (List.mem_append_left _ (List.mem_append_left _ (List.mem_append_right _ h)))))) (by decide +kernel))) (goodIn_sub (fun _ h => List.mem_append_left _ (List.mem_append_left _ (List.mem_append_right _ h))) (by decide +kernel))) (goodIn_sub (fun _ h => List.mem_append_left _ (List.mem_append_left _ (List.mem_append_left _ (List.mem_append_right _ h)))) (by decide +kernel))
set_option maxRecDepth 20000 in
theorem gL_law_X5_version : GoodIn wsL_law (wsV RL 42 RX5 yX5_version wsX5_version) := goodIn_app (goodIn_of _ (by decide +kernel)) ggL_law_X5_version
set_option maxRecDepth 20000 in
theorem ggL_law_X5_versionCount : GoodIn wsL_law wsX5_versionCount := goodIn_ca (goodIn_r _ [335, 15, 92, 336, 337, 338, 19, 339, 111, 116, 117, 118, 119, 50, 349, 350, 351, 352, 353, 354, 355, 356, 357, 358, 359, 360, 361, 362, 363, 364, 365, 366] (by decide +kernel) (by decide +kernel)) (goodIn_sub (fun _ h => List.mem_append_left _ (List.mem_append_left _ (List.mem_append_left _ (List.mem_append_left _ (List.mem_append_left _ (List.mem_append_right _ h)))))) (by decide +kernel))
set_option maxRecDepth 20000 in
theorem gL_law_X5_versionCount : GoodIn wsL_law (wsV RL 110 RX5 yX5_versionCount wsX5_versionCount) := goodIn_app (goodIn_of _ (by decide +kernel)) ggL_law_X5_versionCount
set_option maxRecDepth 20000 in
theorem ggL_law_X5_removedCount : GoodIn wsL_law wsX5_removedCount := goodIn_ca (goodIn_r _ [343, 15, 92, 344, 336, 337, 338, 19, 339, 111, 116, 117, 118, 119, 50, 349, 350, 351, 352, 353, 354, 355, 356, 357, 358, 359, 360, 361, 362, 363, 364, 365, 366] (by decide +kernel) (by decide +kernel)) (goodIn_sub (fun _ h => List.mem_append_left _ (List.mem_append_left _ (List.mem_append_left _ (List.mem_append_left _ (List.mem_append_left _ (List.mem_append_right _ h)))))) (by decide +kernel))
set_option maxRecDepth 20000 in
theorem gL_law_X5_removedCount : GoodIn wsL_law (wsV RL 113 RX5 yX5_removedCount wsX5_removedCount) := goodIn_app (goodIn_of _ (by decide +kernel)) ggL_law_X5_removedCount
set_option maxRecDepth 20000 in
theorem ggL_law_X5_factCount : GoodIn wsL_law wsX5_factCount := goodIn_r _ [348, 15, 144, 315, 349, 350, 351, 352, 353, 354, 355, 356, 357, 358, 359, 374, 375, 376, 377, 378] (by decide +kernel) (by decide +kernel)
set_option maxRecDepth 20000 in
theorem gL_law_X5_factCount : GoodIn wsL_law (wsV RL 116 RX5 yX5_factCount wsX5_factCount) := goodIn_app (goodIn_of _ (by decide +kernel)) ggL_law_X5_factCount
theorem dL_law_0 : decode cL_law 0 = .ok (.new 22, 3) := by decide +kernel
theorem dL_law_3 : decode cL_law 3 = .ok (.dup, 1) := by decide +kernel
theorem dL_law_4 : decode cL_law 4 = .ok (.invokespecial 66, 3) := by decide +kernel
theorem dL_law_7 : decode cL_law 7 = .ok (.astore_n 1, 1) := by decide +kernel
theorem dL_law_8 : decode cL_law 8 = .ok (.iconst 1, 1) := by decide +kernel
theorem dL_law_9 : decode cL_law 9 = .ok (.aload_n 0, 1) := by decide +kernel
theorem dL_law_10 : decode cL_law 10 = .ok (.iconst 0, 1) := by decide +kernel
theorem dL_law_11 : decode cL_law 11 = .ok (.iconst 3, 1) := by decide +kernel
theorem dL_law_12 : decode cL_law 12 = .ok (.invokestatic 67, 3) := by decide +kernel
theorem dL_law_15 : decode cL_law 15 = .ok (.iadd, 1) := by decide +kernel
theorem dL_law_16 : decode cL_law 16 = .ok (.istore_n 2, 1) := by decide +kernel
theorem dL_law_17 : decode cL_law 17 = .ok (.aload_n 0, 1) := by decide +kernel
theorem dL_law_18 : decode cL_law 18 = .ok (.iconst 1, 1) := by decide +kernel
theorem dL_law_19 : decode cL_law 19 = .ok (.iconst 2, 1) := by decide +kernel
theorem dL_law_20 : decode cL_law 20 = .ok (.invokestatic 67, 3) := by decide +kernel
theorem dL_law_23 : decode cL_law 23 = .ok (.ifCond .ne 9, 3) := by decide +kernel
theorem dL_law_26 : decode cL_law 26 = .ok (.sipush 1000, 3) := by decide +kernel
theorem dL_law_29 : decode cL_law 29 = .ok (.goto 5, 3) := by decide +kernel
theorem dL_law_32 : decode cL_law 32 = .ok (.bipush 12, 2) := by decide +kernel
theorem dL_law_34 : decode cL_law 34 = .ok (.istore_n 3, 1) := by decide +kernel
theorem dL_law_35 : decode cL_law 35 = .ok (.iload_n 2, 1) := by decide +kernel
theorem dL_law_36 : decode cL_law 36 = .ok (.sipush 1000, 3) := by decide +kernel
theorem dL_law_39 : decode cL_law 39 = .ok (.multianewarray 71 2, 4) := by decide +kernel
theorem dL_law_43 : decode cL_law 43 = .ok (.astore 4, 2) := by decide +kernel
theorem dL_law_45 : decode cL_law 45 = .ok (.iconst 0, 1) := by decide +kernel
theorem dL_law_46 : decode cL_law 46 = .ok (.istore 5, 2) := by decide +kernel
theorem dL_law_48 : decode cL_law 48 = .ok (.iload 5, 2) := by decide +kernel
theorem dL_law_50 : decode cL_law 50 = .ok (.iload_n 2, 1) := by decide +kernel
theorem dL_law_51 : decode cL_law 51 = .ok (.if_icmp .ge 22, 3) := by decide +kernel
theorem dL_law_54 : decode cL_law 54 = .ok (.aload 4, 2) := by decide +kernel
theorem dL_law_56 : decode cL_law 56 = .ok (.iload 5, 2) := by decide +kernel
theorem dL_law_58 : decode cL_law 58 = .ok (.aaload, 1) := by decide +kernel
theorem dL_law_59 : decode cL_law 59 = .ok (.iconst 0, 1) := by decide +kernel
theorem dL_law_60 : decode cL_law 60 = .ok (.sipush 1000, 3) := by decide +kernel
theorem dL_law_63 : decode cL_law 63 = .ok (.iconst (-1), 1) := by decide +kernel
theorem dL_law_64 : decode cL_law 64 = .ok (.invokestatic 14, 3) := by decide +kernel
theorem dL_law_67 : decode cL_law 67 = .ok (.iinc 5 1, 3) := by decide +kernel
theorem dL_law_70 : decode cL_law 70 = .ok (.goto (-22), 3) := by decide +kernel
theorem dL_law_73 : decode cL_law 73 = .ok (.sipush 180, 3) := by decide +kernel
theorem dL_law_76 : decode cL_law 76 = .ok (.newarray .int, 2) := by decide +kernel
theorem dL_law_78 : decode cL_law 78 = .ok (.astore 5, 2) := by decide +kernel
theorem dL_law_80 : decode cL_law 80 = .ok (.sipush 180, 3) := by decide +kernel
theorem dL_law_83 : decode cL_law 83 = .ok (.newarray .int, 2) := by decide +kernel
theorem dL_law_85 : decode cL_law 85 = .ok (.astore 6, 2) := by decide +kernel
theorem dL_law_87 : decode cL_law 87 = .ok (.iconst 0, 1) := by decide +kernel
theorem dL_law_88 : decode cL_law 88 = .ok (.istore 7, 2) := by decide +kernel
theorem dL_law_90 : decode cL_law 90 = .ok (.iconst 0, 1) := by decide +kernel
theorem dL_law_91 : decode cL_law 91 = .ok (.istore 8, 2) := by decide +kernel
theorem dL_law_93 : decode cL_law 93 = .ok (.iconst 5, 1) := by decide +kernel
