set_option maxRecDepth 20000 in
theorem ggL_isChange_L_does : GoodIn wsL_isChange wsL_does := goodIn_ca (goodIn_ca (goodIn_ca (goodIn_r _ [4, 5, 6, 7, 8, 9, 10, 11, 12, 13, 14, 15, 16, 17, 18, 19, 20, 21, 22, 23, 24, 25, 26, 27, 28, 29, 30, 31, 32, 33, 34, 35, 36, 37, 38, 39, 40, 41, 42, 43, 44, 45, 46, 47, 48, 49, 50, 51, 52, 53, 54, 55, 3, 56, 57, 58, 59, 60, 61, 62, 63, 64, 65, 66, 67, 68, 69, 70, 71, 72, 73, 74, 75, 76, 77, 78, 79, 80, 81, 82, 83, 84, 85, 86, 87, 88, 89, 90, 91, 92, 93, 94, 95, 96, 97, 98, 99, 100, 101, 102, 103, 104, 105, 106, 107, 108, 109, 110, 111, 112, 113, 114, 115, 116, 117, 118, 119, 120, 121, 122, 123, 124, 125, 126, 127, 128, 129, 130, 131, 132, 133, 134, 135, 136, 137, 138, 139, 140, 141, 142, 143, 144, 145, 146, 147, 148, 149, 150, 151, 152, 153, 154, 155, 156, 157, 158, 159, 160, 161, 162, 163, 164, 165, 166, 167, 168, 169, 170, 171, 172, 173, 174, 175, 176, 177, 178, 179, 180, 181, 182, 183, 184, 185, 186, 187, 188, 189, 190, 191, 192, 193, 194, 195, 196, 197, 198, 199, 200, 201, 202, 203, 204, 205, 206, 207, 208, 209, 210, 211, 212, 213, 214, 215, 216, 217, 218, 219, 220, 221, 222, 223, 224, 225, 226, 227] (by decide +kernel) (by decide +kernel)) (goodIn_sub (fun _ h => List.mem_cons_of_mem _ (List.mem_append_left _ (List.mem_append_left _ (List.mem_append_right _ h)))) (by decide +kernel))) (goodIn_sub (fun _ h => List.mem_cons_of_mem _ (List.mem_append_left _ (List.mem_append_right _ h))) (by decide +kernel))) (goodIn_sub (fun _ h => List.mem_cons_of_mem _ (List.mem_append_right _ h)) (by decide +kernel))
set_option maxRecDepth 20000 in
theorem gL_isChange_L_does : GoodIn wsL_isChange (va_wsS RL 97 yL_does wsL_does) := goodIn_app (goodIn_of _ (by decide +kernel)) ggL_isChange_L_does
theorem dL_isChange_0 : decode cL_isChange 0 = .ok (.iload 4, 2) := by decide +kernel
theorem dL_isChange_2 : decode cL_isChange 2 = .ok (.bipush 9, 2) := by decide +kernel
theorem dL_isChange_4 : decode cL_isChange 4 = .ok (.irem, 1) := by decide +kernel
theorem dL_isChange_5 : decode cL_isChange 5 = .ok (.ifCond .ne 7, 3) := by decide +kernel
theorem dL_isChange_8 : decode cL_isChange 8 = .ok (.iconst 2, 1) := by decide +kernel
theorem dL_isChange_9 : decode cL_isChange 9 = .ok (.goto 7, 3) := by decide +kernel
theorem dL_isChange_12 : decode cL_isChange 12 = .ok (.iload 4, 2) := by decide +kernel
theorem dL_isChange_14 : decode cL_isChange 14 = .ok (.iconst 2, 1) := by decide +kernel
theorem dL_isChange_15 : decode cL_isChange 15 = .ok (.irem, 1) := by decide +kernel
theorem dL_isChange_16 : decode cL_isChange 16 = .ok (.istore 7, 2) := by decide +kernel
theorem dL_isChange_18 : decode cL_isChange 18 = .ok (.iload 5, 2) := by decide +kernel
theorem dL_isChange_20 : decode cL_isChange 20 = .ok (.bipush 25, 2) := by decide +kernel
theorem dL_isChange_22 : decode cL_isChange 22 = .ok (.irem, 1) := by decide +kernel
theorem dL_isChange_23 : decode cL_isChange 23 = .ok (.ifCond .ne 8, 3) := by decide +kernel
theorem dL_isChange_26 : decode cL_isChange 26 = .ok (.bipush 12, 2) := by decide +kernel
theorem dL_isChange_28 : decode cL_isChange 28 = .ok (.goto 8, 3) := by decide +kernel
theorem dL_isChange_31 : decode cL_isChange 31 = .ok (.iload 5, 2) := by decide +kernel
theorem dL_isChange_33 : decode cL_isChange 33 = .ok (.bipush 6, 2) := by decide +kernel
theorem dL_isChange_35 : decode cL_isChange 35 = .ok (.irem, 1) := by decide +kernel
theorem dL_isChange_36 : decode cL_isChange 36 = .ok (.istore 8, 2) := by decide +kernel
theorem dL_isChange_38 : decode cL_isChange 38 = .ok (.iload 7, 2) := by decide +kernel
theorem dL_isChange_40 : decode cL_isChange 40 = .ok (.iconst 2, 1) := by decide +kernel
theorem dL_isChange_41 : decode cL_isChange 41 = .ok (.if_icmp .ge 19, 3) := by decide +kernel
theorem dL_isChange_44 : decode cL_isChange 44 = .ok (.iload_n 3, 1) := by decide +kernel
theorem dL_isChange_45 : decode cL_isChange 45 = .ok (.iconst 2, 1) := by decide +kernel
theorem dL_isChange_46 : decode cL_isChange 46 = .ok (.if_icmp .eq 10, 3) := by decide +kernel
theorem dL_isChange_49 : decode cL_isChange 49 = .ok (.iload 8, 2) := by decide +kernel
theorem dL_isChange_51 : decode cL_isChange 51 = .ok (.bipush 12, 2) := by decide +kernel
theorem dL_isChange_53 : decode cL_isChange 53 = .ok (.if_icmp .ge 7, 3) := by decide +kernel
theorem dL_isChange_56 : decode cL_isChange 56 = .ok (.iconst 1, 1) := by decide +kernel
theorem dL_isChange_57 : decode cL_isChange 57 = .ok (.goto 4, 3) := by decide +kernel
theorem dL_isChange_60 : decode cL_isChange 60 = .ok (.iconst 0, 1) := by decide +kernel
theorem dL_isChange_61 : decode cL_isChange 61 = .ok (.istore 9, 2) := by decide +kernel
theorem dL_isChange_63 : decode cL_isChange 63 = .ok (.iload 9, 2) := by decide +kernel
theorem dL_isChange_65 : decode cL_isChange 65 = .ok (.ifCond .eq 23, 3) := by decide +kernel
theorem dL_isChange_68 : decode cL_isChange 68 = .ok (.bipush 12, 2) := by decide +kernel
theorem dL_isChange_70 : decode cL_isChange 70 = .ok (.iload 7, 2) := by decide +kernel
theorem dL_isChange_72 : decode cL_isChange 72 = .ok (.imul, 1) := by decide +kernel
theorem dL_isChange_73 : decode cL_isChange 73 = .ok (.iload_n 3, 1) := by decide +kernel
theorem dL_isChange_74 : decode cL_isChange 74 = .ok (.iconst 2, 1) := by decide +kernel
theorem dL_isChange_75 : decode cL_isChange 75 = .ok (.if_icmp .ne 7, 3) := by decide +kernel
theorem dL_isChange_78 : decode cL_isChange 78 = .ok (.iconst 0, 1) := by decide +kernel
theorem dL_isChange_79 : decode cL_isChange 79 = .ok (.goto 5, 3) := by decide +kernel
theorem dL_isChange_82 : decode cL_isChange 82 = .ok (.iload 8, 2) := by decide +kernel
theorem dL_isChange_84 : decode cL_isChange 84 = .ok (.iadd, 1) := by decide +kernel
theorem dL_isChange_85 : decode cL_isChange 85 = .ok (.goto 4, 3) := by decide +kernel
theorem dL_isChange_88 : decode cL_isChange 88 = .ok (.iconst 0, 1) := by decide +kernel
theorem dL_isChange_89 : decode cL_isChange 89 = .ok (.istore 10, 2) := by decide +kernel
theorem dL_isChange_91 : decode cL_isChange 91 = .ok (.aload_n 2, 1) := by decide +kernel
theorem dL_isChange_92 : decode cL_isChange 92 = .ok (.iconst 1, 1) := by decide +kernel
theorem dL_isChange_93 : decode cL_isChange 93 = .ok (.iaload, 1) := by decide +kernel
theorem dL_isChange_94 : decode cL_isChange 94 = .ok (.bipush 12, 2) := by decide +kernel
theorem dL_isChange_96 : decode cL_isChange 96 = .ok (.if_icmp .ne 7, 3) := by decide +kernel
theorem dL_isChange_99 : decode cL_isChange 99 = .ok (.iconst 1, 1) := by decide +kernel
theorem dL_isChange_100 : decode cL_isChange 100 = .ok (.goto 4, 3) := by decide +kernel
theorem dL_isChange_103 : decode cL_isChange 103 = .ok (.iconst 0, 1) := by decide +kernel
theorem dL_isChange_104 : decode cL_isChange 104 = .ok (.istore 11, 2) := by decide +kernel
theorem dL_isChange_106 : decode cL_isChange 106 = .ok (.iload_n 3, 1) := by decide +kernel
theorem dL_isChange_107 : decode cL_isChange 107 = .ok (.ifCond .ne 146, 3) := by decide +kernel
theorem dL_isChange_110 : decode cL_isChange 110 = .ok (.iload 6, 2) := by decide +kernel
theorem dL_isChange_112 : decode cL_isChange 112 = .ok (.bipush 40, 2) := by decide +kernel
theorem dL_isChange_114 : decode cL_isChange 114 = .ok (.irem, 1) := by decide +kernel
theorem dL_isChange_115 : decode cL_isChange 115 = .ok (.ifCond .ne 8, 3) := by decide +kernel
theorem dL_isChange_118 : decode cL_isChange 118 = .ok (.bipush 100, 2) := by decide +kernel
theorem dL_isChange_120 : decode cL_isChange 120 = .ok (.goto 8, 3) := by decide +kernel
theorem dL_isChange_123 : decode cL_isChange 123 = .ok (.iload 6, 2) := by decide +kernel
theorem dL_isChange_125 : decode cL_isChange 125 = .ok (.bipush 10, 2) := by decide +kernel
theorem dL_isChange_127 : decode cL_isChange 127 = .ok (.irem, 1) := by decide +kernel
theorem dL_isChange_128 : decode cL_isChange 128 = .ok (.istore 12, 2) := by decide +kernel
theorem dL_isChange_130 : decode cL_isChange 130 = .ok (.iload 4, 2) := by decide +kernel
theorem dL_isChange_132 : decode cL_isChange 132 = .ok (.bipush 18, 2) := by decide +kernel
theorem dL_isChange_134 : decode cL_isChange 134 = .ok (.idiv, 1) := by decide +kernel
theorem dL_isChange_135 : decode cL_isChange 135 = .ok (.bipush 10, 2) := by decide +kernel
theorem dL_isChange_137 : decode cL_isChange 137 = .ok (.irem, 1) := by decide +kernel
theorem dL_isChange_138 : decode cL_isChange 138 = .ok (.istore 13, 2) := by decide +kernel
theorem dL_isChange_140 : decode cL_isChange 140 = .ok (.iload 5, 2) := by decide +kernel
theorem dL_isChange_142 : decode cL_isChange 142 = .ok (.bipush 25, 2) := by decide +kernel
theorem dL_isChange_144 : decode cL_isChange 144 = .ok (.idiv, 1) := by decide +kernel
theorem dL_isChange_145 : decode cL_isChange 145 = .ok (.bipush 10, 2) := by decide +kernel
theorem dL_isChange_147 : decode cL_isChange 147 = .ok (.irem, 1) := by decide +kernel
theorem dL_isChange_148 : decode cL_isChange 148 = .ok (.istore 14, 2) := by decide +kernel
theorem dL_isChange_150 : decode cL_isChange 150 = .ok (.iload 9, 2) := by decide +kernel
theorem dL_isChange_152 : decode cL_isChange 152 = .ok (.ifCond .ne 8, 3) := by decide +kernel
theorem dL_isChange_155 : decode cL_isChange 155 = .ok (.bipush (-30), 2) := by decide +kernel
theorem dL_isChange_157 : decode cL_isChange 157 = .ok (.goto 37, 3) := by decide +kernel
theorem dL_isChange_160 : decode cL_isChange 160 = .ok (.iload 12, 2) := by decide +kernel
theorem dL_isChange_162 : decode cL_isChange 162 = .ok (.bipush 99, 2) := by decide +kernel
theorem dL_isChange_164 : decode cL_isChange 164 = .ok (.if_icmp .le 8, 3) := by decide +kernel
theorem dL_isChange_167 : decode cL_isChange 167 = .ok (.bipush (-20), 2) := by decide +kernel
theorem dL_isChange_169 : decode cL_isChange 169 = .ok (.goto 25, 3) := by decide +kernel
theorem dL_isChange_172 : decode cL_isChange 172 = .ok (.iload 11, 2) := by decide +kernel
theorem dL_isChange_174 : decode cL_isChange 174 = .ok (.ifCond .eq 8, 3) := by decide +kernel
theorem dL_isChange_177 : decode cL_isChange 177 = .ok (.bipush (-10), 2) := by decide +kernel
theorem dL_isChange_179 : decode cL_isChange 179 = .ok (.goto 15, 3) := by decide +kernel
theorem dL_isChange_182 : decode cL_isChange 182 = .ok (.aload_n 1, 1) := by decide +kernel
theorem dL_isChange_183 : decode cL_isChange 183 = .ok (.iload 10, 2) := by decide +kernel
theorem dL_isChange_185 : decode cL_isChange 185 = .ok (.iaload, 1) := by decide +kernel
theorem dL_isChange_186 : decode cL_isChange 186 = .ok (.ifCond .ge 7, 3) := by decide +kernel
theorem dL_isChange_189 : decode cL_isChange 189 = .ok (.iconst 1, 1) := by decide +kernel
theorem dL_isChange_190 : decode cL_isChange 190 = .ok (.goto 4, 3) := by decide +kernel
theorem dL_isChange_193 : decode cL_isChange 193 = .ok (.iconst 0, 1) := by decide +kernel
theorem dL_isChange_194 : decode cL_isChange 194 = .ok (.istore 15, 2) := by decide +kernel
theorem dL_isChange_196 : decode cL_isChange 196 = .ok (.iload 15, 2) := by decide +kernel
theorem dL_isChange_198 : decode cL_isChange 198 = .ok (.ifCond .lt 29, 3) := by decide +kernel
theorem dL_isChange_201 : decode cL_isChange 201 = .ok (.aload_n 1, 1) := by decide +kernel
theorem dL_isChange_202 : decode cL_isChange 202 = .ok (.iload 10, 2) := by decide +kernel
theorem dL_isChange_204 : decode cL_isChange 204 = .ok (.iload 12, 2) := by decide +kernel
theorem dL_isChange_206 : decode cL_isChange 206 = .ok (.bipush 100, 2) := by decide +kernel
theorem dL_isChange_208 : decode cL_isChange 208 = .ok (.iload 13, 2) := by decide +kernel
theorem dL_isChange_210 : decode cL_isChange 210 = .ok (.imul, 1) := by decide +kernel
theorem dL_isChange_211 : decode cL_isChange 211 = .ok (.iadd, 1) := by decide +kernel
theorem dL_isChange_212 : decode cL_isChange 212 = .ok (.sipush 10000, 3) := by decide +kernel
theorem dL_isChange_215 : decode cL_isChange 215 = .ok (.iload 14, 2) := by decide +kernel
theorem dL_isChange_217 : decode cL_isChange 217 = .ok (.imul, 1) := by decide +kernel
theorem dL_isChange_218 : decode cL_isChange 218 = .ok (.iadd, 1) := by decide +kernel
theorem dL_isChange_219 : decode cL_isChange 219 = .ok (.iastore, 1) := by decide +kernel
theorem dL_isChange_220 : decode cL_isChange 220 = .ok (.aload_n 2, 1) := by decide +kernel
theorem dL_isChange_221 : decode cL_isChange 221 = .ok (.iconst 1, 1) := by decide +kernel
theorem dL_isChange_222 : decode cL_isChange 222 = .ok (.dup2, 1) := by decide +kernel
theorem dL_isChange_223 : decode cL_isChange 223 = .ok (.iaload, 1) := by decide +kernel
theorem dL_isChange_224 : decode cL_isChange 224 = .ok (.iconst 1, 1) := by decide +kernel
theorem dL_isChange_225 : decode cL_isChange 225 = .ok (.iadd, 1) := by decide +kernel
theorem dL_isChange_226 : decode cL_isChange 226 = .ok (.iastore, 1) := by decide +kernel
theorem dL_isChange_227 : decode cL_isChange 227 = .ok (.aload_n 0, 1) := by decide +kernel
theorem dL_isChange_228 : decode cL_isChange 228 = .ok (.iconst 0, 1) := by decide +kernel
theorem dL_isChange_229 : decode cL_isChange 229 = .ok (.iload 7, 2) := by decide +kernel
theorem dL_isChange_231 : decode cL_isChange 231 = .ok (.iload 8, 2) := by decide +kernel
theorem dL_isChange_233 : decode cL_isChange 233 = .ok (.iload 12, 2) := by decide +kernel
theorem dL_isChange_235 : decode cL_isChange 235 = .ok (.iload 13, 2) := by decide +kernel
theorem dL_isChange_237 : decode cL_isChange 237 = .ok (.iload 14, 2) := by decide +kernel
theorem dL_isChange_239 : decode cL_isChange 239 = .ok (.invokestatic 97, 3) := by decide +kernel
theorem dL_isChange_242 : decode cL_isChange 242 = .ok (.iload 15, 2) := by decide +kernel
theorem dL_isChange_244 : decode cL_isChange 244 = .ok (.if_icmp .ne 7, 3) := by decide +kernel
theorem dL_isChange_247 : decode cL_isChange 247 = .ok (.iconst 1, 1) := by decide +kernel
theorem dL_isChange_248 : decode cL_isChange 248 = .ok (.goto 4, 3) := by decide +kernel
theorem dL_isChange_251 : decode cL_isChange 251 = .ok (.iconst 0, 1) := by decide +kernel
theorem dL_isChange_252 : decode cL_isChange 252 = .ok (.ireturn, 1) := by decide +kernel
theorem dL_isChange_253 : decode cL_isChange 253 = .ok (.iload_n 3, 1) := by decide +kernel
theorem dL_isChange_254 : decode cL_isChange 254 = .ok (.iconst 1, 1) := by decide +kernel
theorem dL_isChange_255 : decode cL_isChange 255 = .ok (.if_icmp .ne 73, 3) := by decide +kernel
theorem dL_isChange_258 : decode cL_isChange 258 = .ok (.iload 9, 2) := by decide +kernel
theorem dL_isChange_260 : decode cL_isChange 260 = .ok (.ifCond .ne 8, 3) := by decide +kernel
theorem dL_isChange_263 : decode cL_isChange 263 = .ok (.bipush (-30), 2) := by decide +kernel
theorem dL_isChange_265 : decode cL_isChange 265 = .ok (.goto 21, 3) := by decide +kernel
theorem dL_isChange_268 : decode cL_isChange 268 = .ok (.aload_n 1, 1) := by decide +kernel
theorem dL_isChange_269 : decode cL_isChange 269 = .ok (.iload 10, 2) := by decide +kernel
theorem dL_isChange_271 : decode cL_isChange 271 = .ok (.iaload, 1) := by decide +kernel
theorem dL_isChange_272 : decode cL_isChange 272 = .ok (.ifCond .lt 8, 3) := by decide +kernel
theorem dL_isChange_275 : decode cL_isChange 275 = .ok (.iload 11, 2) := by decide +kernel
theorem dL_isChange_277 : decode cL_isChange 277 = .ok (.ifCond .eq 8, 3) := by decide +kernel
theorem dL_isChange_280 : decode cL_isChange 280 = .ok (.bipush (-10), 2) := by decide +kernel
theorem dL_isChange_282 : decode cL_isChange 282 = .ok (.goto 4, 3) := by decide +kernel
theorem dL_isChange_285 : decode cL_isChange 285 = .ok (.iconst 0, 1) := by decide +kernel
theorem dL_isChange_286 : decode cL_isChange 286 = .ok (.istore 12, 2) := by decide +kernel
theorem dL_isChange_288 : decode cL_isChange 288 = .ok (.iload 12, 2) := by decide +kernel
theorem dL_isChange_290 : decode cL_isChange 290 = .ok (.ifCond .ne 15, 3) := by decide +kernel
theorem dL_isChange_293 : decode cL_isChange 293 = .ok (.aload_n 1, 1) := by decide +kernel
theorem dL_isChange_294 : decode cL_isChange 294 = .ok (.iload 10, 2) := by decide +kernel
theorem dL_isChange_296 : decode cL_isChange 296 = .ok (.iconst (-1), 1) := by decide +kernel
theorem dL_isChange_297 : decode cL_isChange 297 = .ok (.iastore, 1) := by decide +kernel
theorem dL_isChange_298 : decode cL_isChange 298 = .ok (.aload_n 2, 1) := by decide +kernel
theorem dL_isChange_299 : decode cL_isChange 299 = .ok (.iconst 1, 1) := by decide +kernel
theorem dL_isChange_300 : decode cL_isChange 300 = .ok (.dup2, 1) := by decide +kernel
theorem dL_isChange_301 : decode cL_isChange 301 = .ok (.iaload, 1) := by decide +kernel
theorem dL_isChange_302 : decode cL_isChange 302 = .ok (.iconst 1, 1) := by decide +kernel
theorem dL_isChange_303 : decode cL_isChange 303 = .ok (.iadd, 1) := by decide +kernel
theorem dL_isChange_304 : decode cL_isChange 304 = .ok (.iastore, 1) := by decide +kernel
theorem dL_isChange_305 : decode cL_isChange 305 = .ok (.aload_n 0, 1) := by decide +kernel
theorem dL_isChange_306 : decode cL_isChange 306 = .ok (.iconst 1, 1) := by decide +kernel
theorem dL_isChange_307 : decode cL_isChange 307 = .ok (.iload 7, 2) := by decide +kernel
theorem dL_isChange_309 : decode cL_isChange 309 = .ok (.iload 8, 2) := by decide +kernel
theorem dL_isChange_311 : decode cL_isChange 311 = .ok (.iconst 0, 1) := by decide +kernel
theorem dL_isChange_312 : decode cL_isChange 312 = .ok (.iconst 0, 1) := by decide +kernel
theorem dL_isChange_313 : decode cL_isChange 313 = .ok (.iconst 0, 1) := by decide +kernel
theorem dL_isChange_314 : decode cL_isChange 314 = .ok (.invokestatic 97, 3) := by decide +kernel
theorem dL_isChange_317 : decode cL_isChange 317 = .ok (.iload 12, 2) := by decide +kernel
theorem dL_isChange_319 : decode cL_isChange 319 = .ok (.if_icmp .ne 7, 3) := by decide +kernel
theorem dL_isChange_322 : decode cL_isChange 322 = .ok (.iconst 1, 1) := by decide +kernel
theorem dL_isChange_323 : decode cL_isChange 323 = .ok (.goto 4, 3) := by decide +kernel
theorem dL_isChange_326 : decode cL_isChange 326 = .ok (.iconst 0, 1) := by decide +kernel
theorem dL_isChange_327 : decode cL_isChange 327 = .ok (.ireturn, 1) := by decide +kernel
theorem dL_isChange_328 : decode cL_isChange 328 = .ok (.iconst 0, 1) := by decide +kernel
theorem dL_isChange_329 : decode cL_isChange 329 = .ok (.istore 12, 2) := by decide +kernel
theorem dL_isChange_331 : decode cL_isChange 331 = .ok (.iload 10, 2) := by decide +kernel
theorem dL_isChange_333 : decode cL_isChange 333 = .ok (.istore 13, 2) := by decide +kernel
theorem dL_isChange_335 : decode cL_isChange 335 = .ok (.iload 13, 2) := by decide +kernel
theorem dL_isChange_337 : decode cL_isChange 337 = .ok (.iload 10, 2) := by decide +kernel
theorem dL_isChange_339 : decode cL_isChange 339 = .ok (.bipush 12, 2) := by decide +kernel
theorem dL_isChange_341 : decode cL_isChange 341 = .ok (.iadd, 1) := by decide +kernel
theorem dL_isChange_342 : decode cL_isChange 342 = .ok (.if_icmp .ge 48, 3) := by decide +kernel
theorem dL_isChange_345 : decode cL_isChange 345 = .ok (.iload 9, 2) := by decide +kernel
theorem dL_isChange_347 : decode cL_isChange 347 = .ok (.ifCond .eq 43, 3) := by decide +kernel
theorem dL_isChange_350 : decode cL_isChange 350 = .ok (.iload 12, 2) := by decide +kernel
theorem dL_isChange_352 : decode cL_isChange 352 = .ok (.aload_n 1, 1) := by decide +kernel
theorem dL_isChange_353 : decode cL_isChange 353 = .ok (.iload 13, 2) := by decide +kernel
theorem dL_isChange_355 : decode cL_isChange 355 = .ok (.iaload, 1) := by decide +kernel
theorem dL_isChange_356 : decode cL_isChange 356 = .ok (.ifCond .ge 7, 3) := by decide +kernel
theorem dL_isChange_359 : decode cL_isChange 359 = .ok (.iconst 0, 1) := by decide +kernel
theorem dL_isChange_360 : decode cL_isChange 360 = .ok (.goto 4, 3) := by decide +kernel
theorem dL_isChange_363 : decode cL_isChange 363 = .ok (.iconst 1, 1) := by decide +kernel
theorem dL_isChange_364 : decode cL_isChange 364 = .ok (.iadd, 1) := by decide +kernel
theorem dL_isChange_365 : decode cL_isChange 365 = .ok (.istore 12, 2) := by decide +kernel
theorem dL_isChange_367 : decode cL_isChange 367 = .ok (.aload_n 1, 1) := by decide +kernel
theorem dL_isChange_368 : decode cL_isChange 368 = .ok (.iload 13, 2) := by decide +kernel
theorem dL_isChange_370 : decode cL_isChange 370 = .ok (.iload 11, 2) := by decide +kernel
theorem dL_isChange_372 : decode cL_isChange 372 = .ok (.ifCond .eq 10, 3) := by decide +kernel
theorem dL_isChange_375 : decode cL_isChange 375 = .ok (.aload_n 1, 1) := by decide +kernel
theorem dL_isChange_376 : decode cL_isChange 376 = .ok (.iload 13, 2) := by decide +kernel
theorem dL_isChange_378 : decode cL_isChange 378 = .ok (.iaload, 1) := by decide +kernel
theorem dL_isChange_379 : decode cL_isChange 379 = .ok (.goto 4, 3) := by decide +kernel
theorem dL_isChange_382 : decode cL_isChange 382 = .ok (.iconst (-1), 1) := by decide +kernel
theorem dL_isChange_383 : decode cL_isChange 383 = .ok (.iastore, 1) := by decide +kernel
theorem dL_isChange_384 : decode cL_isChange 384 = .ok (.iinc 13 1, 3) := by decide +kernel
theorem dL_isChange_387 : decode cL_isChange 387 = .ok (.goto (-52), 3) := by decide +kernel
theorem dL_isChange_390 : decode cL_isChange 390 = .ok (.iload 9, 2) := by decide +kernel
theorem dL_isChange_392 : decode cL_isChange 392 = .ok (.ifCond .ne 8, 3) := by decide +kernel
theorem dL_isChange_395 : decode cL_isChange 395 = .ok (.bipush (-30), 2) := by decide +kernel
theorem dL_isChange_397 : decode cL_isChange 397 = .ok (.goto 15, 3) := by decide +kernel
theorem dL_isChange_400 : decode cL_isChange 400 = .ok (.iload 11, 2) := by decide +kernel
theorem dL_isChange_402 : decode cL_isChange 402 = .ok (.ifCond .eq 8, 3) := by decide +kernel
theorem dL_isChange_405 : decode cL_isChange 405 = .ok (.bipush (-10), 2) := by decide +kernel
theorem dL_isChange_407 : decode cL_isChange 407 = .ok (.goto 5, 3) := by decide +kernel
theorem dL_isChange_410 : decode cL_isChange 410 = .ok (.iload 12, 2) := by decide +kernel
theorem dL_isChange_412 : decode cL_isChange 412 = .ok (.istore 13, 2) := by decide +kernel
theorem dL_isChange_414 : decode cL_isChange 414 = .ok (.aload_n 2, 1) := by decide +kernel
theorem dL_isChange_415 : decode cL_isChange 415 = .ok (.iconst 1, 1) := by decide +kernel
theorem dL_isChange_416 : decode cL_isChange 416 = .ok (.dup2, 1) := by decide +kernel
theorem dL_isChange_417 : decode cL_isChange 417 = .ok (.iaload, 1) := by decide +kernel
theorem dL_isChange_418 : decode cL_isChange 418 = .ok (.iload 13, 2) := by decide +kernel
theorem dL_isChange_420 : decode cL_isChange 420 = .ok (.ifCond .lt 7, 3) := by decide +kernel
theorem dL_isChange_423 : decode cL_isChange 423 = .ok (.iconst 1, 1) := by decide +kernel
theorem dL_isChange_424 : decode cL_isChange 424 = .ok (.goto 4, 3) := by decide +kernel
theorem dL_isChange_427 : decode cL_isChange 427 = .ok (.iconst 0, 1) := by decide +kernel
theorem dL_isChange_428 : decode cL_isChange 428 = .ok (.iadd, 1) := by decide +kernel
theorem dL_isChange_429 : decode cL_isChange 429 = .ok (.iastore, 1) := by decide +kernel
theorem dL_isChange_430 : decode cL_isChange 430 = .ok (.aload_n 0, 1) := by decide +kernel
theorem dL_isChange_431 : decode cL_isChange 431 = .ok (.iconst 2, 1) := by decide +kernel
theorem dL_isChange_432 : decode cL_isChange 432 = .ok (.iload 7, 2) := by decide +kernel
theorem dL_isChange_434 : decode cL_isChange 434 = .ok (.iconst 0, 1) := by decide +kernel
theorem dL_isChange_435 : decode cL_isChange 435 = .ok (.iconst 0, 1) := by decide +kernel
theorem dL_isChange_436 : decode cL_isChange 436 = .ok (.iconst 0, 1) := by decide +kernel
theorem dL_isChange_437 : decode cL_isChange 437 = .ok (.iconst 0, 1) := by decide +kernel
theorem dL_isChange_438 : decode cL_isChange 438 = .ok (.invokestatic 97, 3) := by decide +kernel
theorem dL_isChange_441 : decode cL_isChange 441 = .ok (.iload 13, 2) := by decide +kernel
theorem dL_isChange_443 : decode cL_isChange 443 = .ok (.if_icmp .ne 7, 3) := by decide +kernel
theorem dL_isChange_446 : decode cL_isChange 446 = .ok (.iconst 1, 1) := by decide +kernel
theorem dL_isChange_447 : decode cL_isChange 447 = .ok (.goto 4, 3) := by decide +kernel
theorem dL_isChange_450 : decode cL_isChange 450 = .ok (.iconst 0, 1) := by decide +kernel
theorem dL_isChange_451 : decode cL_isChange 451 = .ok (.ireturn, 1) := by decide +kernel
theorem dL_cuts_0 : decode cL_cuts 0 = .ok (.iconst 0, 1) := by decide +kernel
theorem dL_cuts_1 : decode cL_cuts 1 = .ok (.istore_n 2, 1) := by decide +kernel
theorem dL_cuts_2 : decode cL_cuts 2 = .ok (.iconst 0, 1) := by decide +kernel
theorem dL_cuts_3 : decode cL_cuts 3 = .ok (.istore_n 3, 1) := by decide +kernel
theorem dL_cuts_4 : decode cL_cuts 4 = .ok (.iload_n 3, 1) := by decide +kernel
theorem dL_cuts_5 : decode cL_cuts 5 = .ok (.bipush 21, 2) := by decide +kernel
theorem dL_cuts_7 : decode cL_cuts 7 = .ok (.if_icmp .ge 51, 3) := by decide +kernel
theorem dL_cuts_10 : decode cL_cuts 10 = .ok (.aload_n 0, 1) := by decide +kernel
theorem dL_cuts_11 : decode cL_cuts 11 = .ok (.iload_n 3, 1) := by decide +kernel
theorem dL_cuts_12 : decode cL_cuts 12 = .ok (.iconst 1, 1) := by decide +kernel
theorem dL_cuts_13 : decode cL_cuts 13 = .ok (.iadd, 1) := by decide +kernel
theorem dL_cuts_14 : decode cL_cuts 14 = .ok (.iaload, 1) := by decide +kernel
theorem dL_cuts_15 : decode cL_cuts 15 = .ok (.iconst 1, 1) := by decide +kernel
theorem dL_cuts_16 : decode cL_cuts 16 = .ok (.if_icmp .eq 12, 3) := by decide +kernel
theorem dL_cuts_19 : decode cL_cuts 19 = .ok (.aload_n 0, 1) := by decide +kernel
theorem dL_cuts_20 : decode cL_cuts 20 = .ok (.iload_n 3, 1) := by decide +kernel
theorem dL_cuts_21 : decode cL_cuts 21 = .ok (.iconst 1, 1) := by decide +kernel
theorem dL_cuts_22 : decode cL_cuts 22 = .ok (.iadd, 1) := by decide +kernel
theorem dL_cuts_23 : decode cL_cuts 23 = .ok (.iaload, 1) := by decide +kernel
theorem dL_cuts_24 : decode cL_cuts 24 = .ok (.iconst 2, 1) := by decide +kernel
theorem dL_cuts_25 : decode cL_cuts 25 = .ok (.if_icmp .ne 27, 3) := by decide +kernel
theorem dL_cuts_28 : decode cL_cuts 28 = .ok (.aload_n 1, 1) := by decide +kernel
theorem dL_cuts_29 : decode cL_cuts 29 = .ok (.iconst 0, 1) := by decide +kernel
theorem dL_cuts_30 : decode cL_cuts 30 = .ok (.iaload, 1) := by decide +kernel
theorem dL_cuts_31 : decode cL_cuts 31 = .ok (.aload_n 0, 1) := by decide +kernel
theorem dL_cuts_32 : decode cL_cuts 32 = .ok (.iload_n 3, 1) := by decide +kernel
theorem dL_cuts_33 : decode cL_cuts 33 = .ok (.iconst 2, 1) := by decide +kernel
theorem dL_cuts_34 : decode cL_cuts 34 = .ok (.iadd, 1) := by decide +kernel
theorem dL_cuts_35 : decode cL_cuts 35 = .ok (.iaload, 1) := by decide +kernel
theorem dL_cuts_36 : decode cL_cuts 36 = .ok (.isub, 1) := by decide +kernel
theorem dL_cuts_37 : decode cL_cuts 37 = .ok (.aload_n 1, 1) := by decide +kernel
theorem dL_cuts_38 : decode cL_cuts 38 = .ok (.iconst 2, 1) := by decide +kernel
theorem dL_cuts_39 : decode cL_cuts 39 = .ok (.iaload, 1) := by decide +kernel
theorem dL_cuts_40 : decode cL_cuts 40 = .ok (.if_icmp .le 12, 3) := by decide +kernel
theorem dL_cuts_43 : decode cL_cuts 43 = .ok (.aload_n 0, 1) := by decide +kernel
theorem dL_cuts_44 : decode cL_cuts 44 = .ok (.iload_n 3, 1) := by decide +kernel
theorem dL_cuts_45 : decode cL_cuts 45 = .ok (.iconst 1, 1) := by decide +kernel
theorem dL_cuts_46 : decode cL_cuts 46 = .ok (.iadd, 1) := by decide +kernel
theorem dL_cuts_47 : decode cL_cuts 47 = .ok (.iconst 3, 1) := by decide +kernel
theorem dL_cuts_48 : decode cL_cuts 48 = .ok (.iastore, 1) := by decide +kernel
theorem dL_cuts_49 : decode cL_cuts 49 = .ok (.iinc 2 1, 3) := by decide +kernel
theorem dL_cuts_52 : decode cL_cuts 52 = .ok (.iinc 3 7, 3) := by decide +kernel
theorem dL_cuts_55 : decode cL_cuts 55 = .ok (.goto (-51), 3) := by decide +kernel
theorem dL_cuts_58 : decode cL_cuts 58 = .ok (.iload_n 2, 1) := by decide +kernel
theorem dL_cuts_59 : decode cL_cuts 59 = .ok (.ireturn, 1) := by decide +kernel
set_option maxRecDepth 20000 in
theorem ggL_isBook_L_does : GoodIn wsL_isBook wsL_does := goodIn_ca (goodIn_ca (goodIn_ca (goodIn_r _ [4, 5, 6, 7, 8, 9, 10, 11, 12, 13, 14, 15, 16, 17, 18, 19, 20, 21, 22, 23, 24, 25, 26, 27, 28, 29, 30, 31, 32, 33, 34, 35, 36, 37, 38, 39, 40, 41, 42, 43, 44, 45, 46, 47, 48, 49, 50, 51, 52, 53, 54, 55, 3, 56, 57, 58, 59, 60, 61, 62, 63, 64, 65, 66, 67, 68, 69, 70, 71, 72, 73, 74, 75, 76, 77, 78, 79, 80, 81, 82, 83, 84, 85, 86, 87, 88, 89, 90, 91, 92, 93, 94, 95, 96, 97, 98, 99, 100, 101, 102, 103, 104, 105, 106, 107, 108, 109, 110, 111, 112, 113, 114, 115, 116, 117, 118, 119, 120, 121, 122, 123, 124, 125, 126, 127, 128, 129, 130, 131, 132, 133, 134, 135, 136, 137, 138, 139, 140, 141, 142, 143, 144, 145, 146, 147, 148, 149, 150, 151, 152, 153, 154, 155, 156, 157, 158, 159, 160, 161, 162, 163, 164, 165, 166, 167, 168, 169, 170, 171, 172, 173, 174, 175, 176, 177, 178, 179, 180, 181, 182, 183, 184, 185, 186, 187, 188, 189, 190, 191, 192, 193, 194, 195, 196, 197, 198, 199, 200, 201, 202, 203, 204, 205, 206, 207, 208, 209, 210, 211, 212, 213, 214, 215, 216, 217, 218, 219, 220, 221, 222, 223, 224, 225, 226, 227] (by decide +kernel) (by decide +kernel)) (goodIn_sub (fun _ h => List.mem_cons_of_mem _ (List.mem_append_left _ (List.mem_append_left _ (List.mem_append_right _ h)))) (by decide +kernel))) (goodIn_sub (fun _ h => List.mem_cons_of_mem _ (List.mem_append_left _ (List.mem_append_right _ h))) (by decide +kernel))) (goodIn_sub (fun _ h => List.mem_cons_of_mem _ (List.mem_append_right _ h)) (by decide +kernel))
set_option maxRecDepth 20000 in
theorem gL_isBook_L_does : GoodIn wsL_isBook (va_wsS RL 97 yL_does wsL_does) := goodIn_app (goodIn_of _ (by decide +kernel)) ggL_isBook_L_does
theorem dL_isBook_0 : decode cL_isBook 0 = .ok (.iload 4, 2) := by decide +kernel
theorem dL_isBook_2 : decode cL_isBook 2 = .ok (.bipush 9, 2) := by decide +kernel
theorem dL_isBook_4 : decode cL_isBook 4 = .ok (.irem, 1) := by decide +kernel
theorem dL_isBook_5 : decode cL_isBook 5 = .ok (.ifCond .ne 7, 3) := by decide +kernel
theorem dL_isBook_8 : decode cL_isBook 8 = .ok (.iconst 3, 1) := by decide +kernel
theorem dL_isBook_9 : decode cL_isBook 9 = .ok (.goto 7, 3) := by decide +kernel
theorem dL_isBook_12 : decode cL_isBook 12 = .ok (.iload 4, 2) := by decide +kernel
theorem dL_isBook_14 : decode cL_isBook 14 = .ok (.iconst 3, 1) := by decide +kernel
theorem dL_isBook_15 : decode cL_isBook 15 = .ok (.irem, 1) := by decide +kernel
theorem dL_isBook_16 : decode cL_isBook 16 = .ok (.istore 7, 2) := by decide +kernel
theorem dL_isBook_18 : decode cL_isBook 18 = .ok (.iload 5, 2) := by decide +kernel
theorem dL_isBook_20 : decode cL_isBook 20 = .ok (.bipush 9, 2) := by decide +kernel
theorem dL_isBook_22 : decode cL_isBook 22 = .ok (.irem, 1) := by decide +kernel
theorem dL_isBook_23 : decode cL_isBook 23 = .ok (.ifCond .ne 7, 3) := by decide +kernel
theorem dL_isBook_26 : decode cL_isBook 26 = .ok (.iconst 2, 1) := by decide +kernel
theorem dL_isBook_27 : decode cL_isBook 27 = .ok (.goto 7, 3) := by decide +kernel
theorem dL_isBook_30 : decode cL_isBook 30 = .ok (.iload 5, 2) := by decide +kernel
theorem dL_isBook_32 : decode cL_isBook 32 = .ok (.iconst 2, 1) := by decide +kernel
theorem dL_isBook_33 : decode cL_isBook 33 = .ok (.irem, 1) := by decide +kernel
theorem dL_isBook_34 : decode cL_isBook 34 = .ok (.istore 8, 2) := by decide +kernel
theorem dL_isBook_36 : decode cL_isBook 36 = .ok (.iconst 0, 1) := by decide +kernel
theorem dL_isBook_37 : decode cL_isBook 37 = .ok (.istore 9, 2) := by decide +kernel
theorem dL_isBook_39 : decode cL_isBook 39 = .ok (.iload_n 3, 1) := by decide +kernel
theorem dL_isBook_40 : decode cL_isBook 40 = .ok (.iconst 5, 1) := by decide +kernel
theorem dL_isBook_41 : decode cL_isBook 41 = .ok (.if_icmp .ne 32, 3) := by decide +kernel
theorem dL_isBook_44 : decode cL_isBook 44 = .ok (.iload 4, 2) := by decide +kernel
theorem dL_isBook_46 : decode cL_isBook 46 = .ok (.bipush 9, 2) := by decide +kernel
theorem dL_isBook_48 : decode cL_isBook 48 = .ok (.idiv, 1) := by decide +kernel
theorem dL_isBook_49 : decode cL_isBook 49 = .ok (.iconst 4, 1) := by decide +kernel
theorem dL_isBook_50 : decode cL_isBook 50 = .ok (.irem, 1) := by decide +kernel
theorem dL_isBook_51 : decode cL_isBook 51 = .ok (.iconst 3, 1) := by decide +kernel
theorem dL_isBook_52 : decode cL_isBook 52 = .ok (.if_icmp .ge 17, 3) := by decide +kernel
theorem dL_isBook_55 : decode cL_isBook 55 = .ok (.iload 6, 2) := by decide +kernel
theorem dL_isBook_57 : decode cL_isBook 57 = .ok (.bipush 101, 2) := by decide +kernel
theorem dL_isBook_59 : decode cL_isBook 59 = .ok (.irem, 1) := by decide +kernel
theorem dL_isBook_60 : decode cL_isBook 60 = .ok (.bipush 100, 2) := by decide +kernel
theorem dL_isBook_62 : decode cL_isBook 62 = .ok (.if_icmp .ge 7, 3) := by decide +kernel
theorem dL_isBook_65 : decode cL_isBook 65 = .ok (.iconst 1, 1) := by decide +kernel
theorem dL_isBook_66 : decode cL_isBook 66 = .ok (.goto 22, 3) := by decide +kernel
theorem dL_isBook_69 : decode cL_isBook 69 = .ok (.iconst 0, 1) := by decide +kernel
theorem dL_isBook_70 : decode cL_isBook 70 = .ok (.goto 18, 3) := by decide +kernel
theorem dL_isBook_73 : decode cL_isBook 73 = .ok (.iload 6, 2) := by decide +kernel
theorem dL_isBook_75 : decode cL_isBook 75 = .ok (.bipush 9, 2) := by decide +kernel
theorem dL_isBook_77 : decode cL_isBook 77 = .ok (.irem, 1) := by decide +kernel
theorem dL_isBook_78 : decode cL_isBook 78 = .ok (.bipush 8, 2) := by decide +kernel
theorem dL_isBook_80 : decode cL_isBook 80 = .ok (.if_icmp .ge 7, 3) := by decide +kernel
theorem dL_isBook_83 : decode cL_isBook 83 = .ok (.iconst 1, 1) := by decide +kernel
theorem dL_isBook_84 : decode cL_isBook 84 = .ok (.goto 4, 3) := by decide +kernel
theorem dL_isBook_87 : decode cL_isBook 87 = .ok (.iconst 0, 1) := by decide +kernel
theorem dL_isBook_88 : decode cL_isBook 88 = .ok (.istore 10, 2) := by decide +kernel
theorem dL_isBook_90 : decode cL_isBook 90 = .ok (.iconst 0, 1) := by decide +kernel
theorem dL_isBook_91 : decode cL_isBook 91 = .ok (.istore 11, 2) := by decide +kernel
theorem dL_isBook_93 : decode cL_isBook 93 = .ok (.iload 11, 2) := by decide +kernel
theorem dL_isBook_95 : decode cL_isBook 95 = .ok (.iconst 3, 1) := by decide +kernel
theorem dL_isBook_96 : decode cL_isBook 96 = .ok (.if_icmp .ge 120, 3) := by decide +kernel
theorem dL_isBook_99 : decode cL_isBook 99 = .ok (.iload 7, 2) := by decide +kernel
theorem dL_isBook_101 : decode cL_isBook 101 = .ok (.iconst 3, 1) := by decide +kernel
theorem dL_isBook_102 : decode cL_isBook 102 = .ok (.if_icmp .ge 114, 3) := by decide +kernel
theorem dL_isBook_105 : decode cL_isBook 105 = .ok (.iload 8, 2) := by decide +kernel
theorem dL_isBook_107 : decode cL_isBook 107 = .ok (.iconst 2, 1) := by decide +kernel
theorem dL_isBook_108 : decode cL_isBook 108 = .ok (.if_icmp .ge 108, 3) := by decide +kernel
theorem dL_isBook_111 : decode cL_isBook 111 = .ok (.iload 10, 2) := by decide +kernel
theorem dL_isBook_113 : decode cL_isBook 113 = .ok (.ifCond .eq 103, 3) := by decide +kernel
theorem dL_isBook_116 : decode cL_isBook 116 = .ok (.aload_n 2, 1) := by decide +kernel
theorem dL_isBook_117 : decode cL_isBook 117 = .ok (.bipush 7, 2) := by decide +kernel
theorem dL_isBook_119 : decode cL_isBook 119 = .ok (.iload 11, 2) := by decide +kernel
theorem dL_isBook_121 : decode cL_isBook 121 = .ok (.imul, 1) := by decide +kernel
theorem dL_isBook_122 : decode cL_isBook 122 = .ok (.iaload, 1) := by decide +kernel
theorem dL_isBook_123 : decode cL_isBook 123 = .ok (.iload 7, 2) := by decide +kernel
theorem dL_isBook_125 : decode cL_isBook 125 = .ok (.if_icmp .ne 34, 3) := by decide +kernel
theorem dL_isBook_128 : decode cL_isBook 128 = .ok (.aload_n 2, 1) := by decide +kernel
theorem dL_isBook_129 : decode cL_isBook 129 = .ok (.bipush 7, 2) := by decide +kernel
theorem dL_isBook_131 : decode cL_isBook 131 = .ok (.iload 11, 2) := by decide +kernel
theorem dL_isBook_133 : decode cL_isBook 133 = .ok (.imul, 1) := by decide +kernel
theorem dL_isBook_134 : decode cL_isBook 134 = .ok (.iconst 1, 1) := by decide +kernel
theorem dL_isBook_135 : decode cL_isBook 135 = .ok (.iadd, 1) := by decide +kernel
theorem dL_isBook_136 : decode cL_isBook 136 = .ok (.iaload, 1) := by decide +kernel
theorem dL_isBook_137 : decode cL_isBook 137 = .ok (.ifCond .le 22, 3) := by decide +kernel
theorem dL_isBook_140 : decode cL_isBook 140 = .ok (.aload_n 2, 1) := by decide +kernel
theorem dL_isBook_141 : decode cL_isBook 141 = .ok (.bipush 7, 2) := by decide +kernel
theorem dL_isBook_143 : decode cL_isBook 143 = .ok (.iload 11, 2) := by decide +kernel
theorem dL_isBook_145 : decode cL_isBook 145 = .ok (.imul, 1) := by decide +kernel
theorem dL_isBook_146 : decode cL_isBook 146 = .ok (.iconst 3, 1) := by decide +kernel
theorem dL_isBook_147 : decode cL_isBook 147 = .ok (.iadd, 1) := by decide +kernel
theorem dL_isBook_148 : decode cL_isBook 148 = .ok (.iload 8, 2) := by decide +kernel
theorem dL_isBook_150 : decode cL_isBook 150 = .ok (.iadd, 1) := by decide +kernel
theorem dL_isBook_151 : decode cL_isBook 151 = .ok (.iaload, 1) := by decide +kernel
theorem dL_isBook_152 : decode cL_isBook 152 = .ok (.ifCond .lt 7, 3) := by decide +kernel
theorem dL_isBook_155 : decode cL_isBook 155 = .ok (.iconst 1, 1) := by decide +kernel
theorem dL_isBook_156 : decode cL_isBook 156 = .ok (.goto 4, 3) := by decide +kernel
theorem dL_isBook_159 : decode cL_isBook 159 = .ok (.iconst 0, 1) := by decide +kernel
theorem dL_isBook_160 : decode cL_isBook 160 = .ok (.istore 12, 2) := by decide +kernel
theorem dL_isBook_162 : decode cL_isBook 162 = .ok (.iload 9, 2) := by decide +kernel
theorem dL_isBook_164 : decode cL_isBook 164 = .ok (.iload 12, 2) := by decide +kernel
theorem dL_isBook_166 : decode cL_isBook 166 = .ok (.ifCond .eq 7, 3) := by decide +kernel
theorem dL_isBook_169 : decode cL_isBook 169 = .ok (.iconst 1, 1) := by decide +kernel
theorem dL_isBook_170 : decode cL_isBook 170 = .ok (.goto 4, 3) := by decide +kernel
theorem dL_isBook_173 : decode cL_isBook 173 = .ok (.iconst 0, 1) := by decide +kernel
theorem dL_isBook_174 : decode cL_isBook 174 = .ok (.iadd, 1) := by decide +kernel
theorem dL_isBook_175 : decode cL_isBook 175 = .ok (.istore 9, 2) := by decide +kernel
theorem dL_isBook_177 : decode cL_isBook 177 = .ok (.aload_n 2, 1) := by decide +kernel
theorem dL_isBook_178 : decode cL_isBook 178 = .ok (.bipush 7, 2) := by decide +kernel
theorem dL_isBook_180 : decode cL_isBook 180 = .ok (.iload 11, 2) := by decide +kernel
theorem dL_isBook_182 : decode cL_isBook 182 = .ok (.imul, 1) := by decide +kernel
theorem dL_isBook_183 : decode cL_isBook 183 = .ok (.iconst 3, 1) := by decide +kernel
theorem dL_isBook_184 : decode cL_isBook 184 = .ok (.iadd, 1) := by decide +kernel
theorem dL_isBook_185 : decode cL_isBook 185 = .ok (.iload 8, 2) := by decide +kernel
theorem dL_isBook_187 : decode cL_isBook 187 = .ok (.iadd, 1) := by decide +kernel
theorem dL_isBook_188 : decode cL_isBook 188 = .ok (.iload 12, 2) := by decide +kernel
theorem dL_isBook_190 : decode cL_isBook 190 = .ok (.ifCond .eq 7, 3) := by decide +kernel
theorem dL_isBook_193 : decode cL_isBook 193 = .ok (.iconst (-1), 1) := by decide +kernel
theorem dL_isBook_194 : decode cL_isBook 194 = .ok (.goto 15, 3) := by decide +kernel
theorem dL_isBook_197 : decode cL_isBook 197 = .ok (.aload_n 2, 1) := by decide +kernel
theorem dL_isBook_198 : decode cL_isBook 198 = .ok (.bipush 7, 2) := by decide +kernel
theorem dL_isBook_200 : decode cL_isBook 200 = .ok (.iload 11, 2) := by decide +kernel
theorem dL_isBook_202 : decode cL_isBook 202 = .ok (.imul, 1) := by decide +kernel
theorem dL_isBook_203 : decode cL_isBook 203 = .ok (.iconst 3, 1) := by decide +kernel
theorem dL_isBook_204 : decode cL_isBook 204 = .ok (.iadd, 1) := by decide +kernel
theorem dL_isBook_205 : decode cL_isBook 205 = .ok (.iload 8, 2) := by decide +kernel
theorem dL_isBook_207 : decode cL_isBook 207 = .ok (.iadd, 1) := by decide +kernel
theorem dL_isBook_208 : decode cL_isBook 208 = .ok (.iaload, 1) := by decide +kernel
theorem dL_isBook_209 : decode cL_isBook 209 = .ok (.iastore, 1) := by decide +kernel
theorem dL_isBook_210 : decode cL_isBook 210 = .ok (.iinc 11 1, 3) := by decide +kernel
theorem dL_isBook_213 : decode cL_isBook 213 = .ok (.goto (-120), 3) := by decide +kernel
theorem dL_isBook_216 : decode cL_isBook 216 = .ok (.iload 7, 2) := by decide +kernel
theorem dL_isBook_218 : decode cL_isBook 218 = .ok (.iconst 3, 1) := by decide +kernel
theorem dL_isBook_219 : decode cL_isBook 219 = .ok (.if_icmp .eq 9, 3) := by decide +kernel
theorem dL_isBook_222 : decode cL_isBook 222 = .ok (.iload 8, 2) := by decide +kernel
theorem dL_isBook_224 : decode cL_isBook 224 = .ok (.iconst 2, 1) := by decide +kernel
theorem dL_isBook_225 : decode cL_isBook 225 = .ok (.if_icmp .ne 8, 3) := by decide +kernel
theorem dL_isBook_228 : decode cL_isBook 228 = .ok (.bipush (-30), 2) := by decide +kernel
theorem dL_isBook_230 : decode cL_isBook 230 = .ok (.goto 15, 3) := by decide +kernel
theorem dL_isBook_233 : decode cL_isBook 233 = .ok (.iload 10, 2) := by decide +kernel
theorem dL_isBook_235 : decode cL_isBook 235 = .ok (.ifCond .eq 8, 3) := by decide +kernel
theorem dL_isBook_238 : decode cL_isBook 238 = .ok (.iload 9, 2) := by decide +kernel
theorem dL_isBook_240 : decode cL_isBook 240 = .ok (.goto 5, 3) := by decide +kernel
theorem dL_isBook_243 : decode cL_isBook 243 = .ok (.bipush (-20), 2) := by decide +kernel
theorem dL_isBook_245 : decode cL_isBook 245 = .ok (.istore 11, 2) := by decide +kernel
theorem dL_isBook_247 : decode cL_isBook 247 = .ok (.iload_n 3, 1) := by decide +kernel
theorem dL_isBook_248 : decode cL_isBook 248 = .ok (.bipush 6, 2) := by decide +kernel
theorem dL_isBook_250 : decode cL_isBook 250 = .ok (.if_icmp .ne 22, 3) := by decide +kernel
theorem dL_isBook_253 : decode cL_isBook 253 = .ok (.iload 11, 2) := by decide +kernel
theorem dL_isBook_255 : decode cL_isBook 255 = .ok (.ifCond .lt 17, 3) := by decide +kernel
theorem dL_isBook_258 : decode cL_isBook 258 = .ok (.aload_n 1, 1) := by decide +kernel
theorem dL_isBook_259 : decode cL_isBook 259 = .ok (.iconst 2, 1) := by decide +kernel
theorem dL_isBook_260 : decode cL_isBook 260 = .ok (.iload 7, 2) := by decide +kernel
theorem dL_isBook_262 : decode cL_isBook 262 = .ok (.imul, 1) := by decide +kernel
theorem dL_isBook_263 : decode cL_isBook 263 = .ok (.iload 8, 2) := by decide +kernel
theorem dL_isBook_265 : decode cL_isBook 265 = .ok (.iadd, 1) := by decide +kernel
theorem dL_isBook_266 : decode cL_isBook 266 = .ok (.iload 6, 2) := by decide +kernel
theorem dL_isBook_268 : decode cL_isBook 268 = .ok (.bipush 9, 2) := by decide +kernel
theorem dL_isBook_270 : decode cL_isBook 270 = .ok (.irem, 1) := by decide +kernel
theorem dL_isBook_271 : decode cL_isBook 271 = .ok (.iastore, 1) := by decide +kernel
theorem dL_isBook_272 : decode cL_isBook 272 = .ok (.iload_n 3, 1) := by decide +kernel
theorem dL_isBook_273 : decode cL_isBook 273 = .ok (.iconst 5, 1) := by decide +kernel
theorem dL_isBook_274 : decode cL_isBook 274 = .ok (.if_icmp .ne 44, 3) := by decide +kernel
theorem dL_isBook_277 : decode cL_isBook 277 = .ok (.aload_n 0, 1) := by decide +kernel
theorem dL_isBook_278 : decode cL_isBook 278 = .ok (.iconst 5, 1) := by decide +kernel
theorem dL_isBook_279 : decode cL_isBook 279 = .ok (.iload 7, 2) := by decide +kernel
theorem dL_isBook_281 : decode cL_isBook 281 = .ok (.iload 8, 2) := by decide +kernel
theorem dL_isBook_283 : decode cL_isBook 283 = .ok (.iload 5, 2) := by decide +kernel
theorem dL_isBook_285 : decode cL_isBook 285 = .ok (.bipush 9, 2) := by decide +kernel
theorem dL_isBook_287 : decode cL_isBook 287 = .ok (.idiv, 1) := by decide +kernel
theorem dL_isBook_288 : decode cL_isBook 288 = .ok (.iconst 3, 1) := by decide +kernel
theorem dL_isBook_289 : decode cL_isBook 289 = .ok (.irem, 1) := by decide +kernel
theorem dL_isBook_290 : decode cL_isBook 290 = .ok (.iload 4, 2) := by decide +kernel
theorem dL_isBook_292 : decode cL_isBook 292 = .ok (.bipush 9, 2) := by decide +kernel
theorem dL_isBook_294 : decode cL_isBook 294 = .ok (.idiv, 1) := by decide +kernel
theorem dL_isBook_295 : decode cL_isBook 295 = .ok (.iconst 4, 1) := by decide +kernel
theorem dL_isBook_296 : decode cL_isBook 296 = .ok (.irem, 1) := by decide +kernel
theorem dL_isBook_297 : decode cL_isBook 297 = .ok (.iload 6, 2) := by decide +kernel
theorem dL_isBook_299 : decode cL_isBook 299 = .ok (.bipush 101, 2) := by decide +kernel
theorem dL_isBook_301 : decode cL_isBook 301 = .ok (.irem, 1) := by decide +kernel
theorem dL_isBook_302 : decode cL_isBook 302 = .ok (.invokestatic 97, 3) := by decide +kernel
theorem dL_isBook_305 : decode cL_isBook 305 = .ok (.iload 11, 2) := by decide +kernel
theorem dL_isBook_307 : decode cL_isBook 307 = .ok (.if_icmp .ne 7, 3) := by decide +kernel
theorem dL_isBook_310 : decode cL_isBook 310 = .ok (.iconst 1, 1) := by decide +kernel
theorem dL_isBook_311 : decode cL_isBook 311 = .ok (.goto 34, 3) := by decide +kernel
theorem dL_isBook_314 : decode cL_isBook 314 = .ok (.iconst 0, 1) := by decide +kernel
theorem dL_isBook_315 : decode cL_isBook 315 = .ok (.goto 30, 3) := by decide +kernel
theorem dL_isBook_318 : decode cL_isBook 318 = .ok (.aload_n 0, 1) := by decide +kernel
theorem dL_isBook_319 : decode cL_isBook 319 = .ok (.bipush 6, 2) := by decide +kernel
theorem dL_isBook_321 : decode cL_isBook 321 = .ok (.iload 7, 2) := by decide +kernel
theorem dL_isBook_323 : decode cL_isBook 323 = .ok (.iload 8, 2) := by decide +kernel
theorem dL_isBook_325 : decode cL_isBook 325 = .ok (.iload 6, 2) := by decide +kernel
theorem dL_isBook_327 : decode cL_isBook 327 = .ok (.bipush 9, 2) := by decide +kernel
theorem dL_isBook_329 : decode cL_isBook 329 = .ok (.irem, 1) := by decide +kernel
theorem dL_isBook_330 : decode cL_isBook 330 = .ok (.iconst 0, 1) := by decide +kernel
theorem dL_isBook_331 : decode cL_isBook 331 = .ok (.iconst 0, 1) := by decide +kernel
theorem dL_isBook_332 : decode cL_isBook 332 = .ok (.invokestatic 97, 3) := by decide +kernel
theorem dL_isBook_335 : decode cL_isBook 335 = .ok (.iload 11, 2) := by decide +kernel
theorem dL_isBook_337 : decode cL_isBook 337 = .ok (.if_icmp .ne 7, 3) := by decide +kernel
theorem dL_isBook_340 : decode cL_isBook 340 = .ok (.iconst 1, 1) := by decide +kernel
theorem dL_isBook_341 : decode cL_isBook 341 = .ok (.goto 4, 3) := by decide +kernel
theorem dL_isBook_344 : decode cL_isBook 344 = .ok (.iconst 0, 1) := by decide +kernel
theorem dL_isBook_345 : decode cL_isBook 345 = .ok (.ireturn, 1) := by decide +kernel
set_option maxRecDepth 20000 in
theorem ggL_isCopied_L_does : GoodIn wsL_isCopied wsL_does := goodIn_ca (goodIn_ca (goodIn_ca (goodIn_r _ [4, 5, 6, 7, 8, 9, 10, 11, 12, 13, 14, 15, 16, 17, 18, 19, 20, 21, 22, 23, 24, 25, 26, 27, 28, 29, 30, 31, 32, 33, 34, 35, 36, 37, 38, 39, 40, 41, 42, 43, 44, 45, 46, 47, 48, 49, 50, 51, 52, 53, 54, 55, 3, 56, 57, 58, 59, 60, 61, 62, 63, 64, 65, 66, 67, 68, 69, 70, 71, 72, 73, 74, 75, 76, 77, 78, 79, 80, 81, 82, 83, 84, 85, 86, 87, 88, 89, 90, 91, 92, 93, 94, 95, 96, 97, 98, 99, 100, 101, 102, 103, 104, 105, 106, 107, 108, 109, 110, 111, 112, 113, 114, 115, 116, 117, 118, 119, 120, 121, 122, 123, 124, 125, 126, 127, 128, 129, 130, 131, 132, 133, 134, 135, 136, 137, 138, 139, 140, 141, 142, 143, 144, 145, 146, 147, 148, 149, 150, 151, 152, 153, 154, 155, 156, 157, 158, 159, 160, 161, 162, 163, 164, 165, 166, 167, 168, 169, 170, 171, 172, 173, 174, 175, 176, 177, 178, 179, 180, 181, 182, 183, 184, 185, 186, 187, 188, 189, 190, 191, 192, 193, 194, 195, 196, 197, 198, 199, 200, 201, 202, 203, 204, 227, 228, 229, 230, 231, 232, 233, 234, 235, 236, 237, 238, 239, 240, 241, 242, 243, 244, 245, 246, 247, 248, 249] (by decide +kernel) (by decide +kernel)) (goodIn_sub (fun _ h => List.mem_cons_of_mem _ (List.mem_append_left _ (List.mem_append_left _ (List.mem_append_right _ h)))) (by decide +kernel))) (goodIn_sub (fun _ h => List.mem_cons_of_mem _ (List.mem_append_left _ (List.mem_append_right _ h))) (by decide +kernel))) (goodIn_sub (fun _ h => List.mem_cons_of_mem _ (List.mem_append_right _ h)) (by decide +kernel))
set_option maxRecDepth 20000 in
theorem gL_isCopied_L_does : GoodIn wsL_isCopied (va_wsS RL 97 yL_does wsL_does) := goodIn_app (goodIn_of _ (by decide +kernel)) ggL_isCopied_L_does
set_option maxRecDepth 20000 in
theorem ggL_isCopied_X4_seen : GoodIn wsL_isCopied wsX4_seen := goodIn_ca (goodIn_r _ [208, 82, 125, 126, 11, 127, 17, 18, 14, 15, 16, 19, 20, 21, 107, 108, 109, 40, 41, 42, 209, 157, 158, 227, 228, 229, 230, 231, 239, 240, 241, 242, 243] (by decide +kernel) (by decide +kernel)) (goodIn_sub (fun _ h => List.mem_cons_of_mem _ (List.mem_append_left _ (List.mem_append_left _ (List.mem_append_right _ h)))) (by decide +kernel))
set_option maxRecDepth 20000 in
theorem gL_isCopied_X4_seen : GoodIn wsL_isCopied (wsV RL 82 RX4 yX4_seen wsX4_seen) := goodIn_app (goodIn_of _ (by decide +kernel)) ggL_isCopied_X4_seen
set_option maxRecDepth 20000 in
theorem ggL_isCopied_X4_at : GoodIn wsL_isCopied wsX4_at := goodIn_ca (goodIn_r _ [213, 13, 14, 15, 11, 16, 17, 18, 19, 20, 21, 107, 108, 109, 40, 41, 42, 209, 157, 158, 227, 228, 229, 230, 231, 232, 233, 234, 235, 236, 237, 238] (by decide +kernel) (by decide +kernel)) (goodIn_sub (fun _ h => List.mem_cons_of_mem _ (List.mem_append_left _ (List.mem_append_left _ (List.mem_append_right _ h)))) (by decide +kernel))
set_option maxRecDepth 20000 in
theorem gL_isCopied_X4_at : GoodIn wsL_isCopied (wsV RL 70 RX4 yX4_at wsX4_at) := goodIn_app (goodIn_of _ (by decide +kernel)) ggL_isCopied_X4_at
set_option maxRecDepth 20000 in
theorem ggL_isCopied_X4_isFaithful : GoodIn wsL_isCopied wsX4_isFaithful := goodIn_ca (goodIn_ca (goodIn_r _ [217, 31, 32, 82, 218, 219, 220, 221, 13, 125, 126, 11, 127, 17, 18, 19, 20, 21, 222, 91, 92, 87, 93, 94, 40, 41, 42, 223, 224, 225, 36, 226, 73, 150, 151, 152, 153, 154, 155, 156, 157, 158, 159, 160, 161, 162, 163, 164, 227, 228, 229, 230, 231, 239, 240, 241, 242, 243, 232, 233, 234, 235, 236, 237, 238, 244, 245, 246, 247] (by decide +kernel) (by decide +kernel)) (goodIn_sub (fun _ h => List.mem_cons_of_mem _ (List.mem_append_right _ h)) (by decide +kernel))) (goodIn_sub (fun _ h => List.mem_cons_of_mem _ (List.mem_append_left _ (List.mem_append_left _ (List.mem_append_right _ h)))) (by decide +kernel))
set_option maxRecDepth 20000 in
theorem gL_isCopied_X4_isFaithful : GoodIn wsL_isCopied (wsV RL 86 RX4 yX4_isFaithful wsX4_isFaithful) := goodIn_app (goodIn_of _ (by decide +kernel)) ggL_isCopied_X4_isFaithful
theorem dL_isCopied_0 : decode cL_isCopied 0 = .ok (.iload 4, 2) := by decide +kernel
theorem dL_isCopied_2 : decode cL_isCopied 2 = .ok (.iconst 3, 1) := by decide +kernel
theorem dL_isCopied_3 : decode cL_isCopied 3 = .ok (.if_icmp .ge 13, 3) := by decide +kernel
theorem dL_isCopied_6 : decode cL_isCopied 6 = .ok (.iload 5, 2) := by decide +kernel
theorem dL_isCopied_8 : decode cL_isCopied 8 = .ok (.iconst 2, 1) := by decide +kernel
theorem dL_isCopied_9 : decode cL_isCopied 9 = .ok (.if_icmp .ge 7, 3) := by decide +kernel
theorem dL_isCopied_12 : decode cL_isCopied 12 = .ok (.iconst 1, 1) := by decide +kernel
theorem dL_isCopied_13 : decode cL_isCopied 13 = .ok (.goto 4, 3) := by decide +kernel
theorem dL_isCopied_16 : decode cL_isCopied 16 = .ok (.iconst 0, 1) := by decide +kernel
theorem dL_isCopied_17 : decode cL_isCopied 17 = .ok (.istore 6, 2) := by decide +kernel
theorem dL_isCopied_19 : decode cL_isCopied 19 = .ok (.iload 6, 2) := by decide +kernel
theorem dL_isCopied_21 : decode cL_isCopied 21 = .ok (.ifCond .eq 26, 3) := by decide +kernel
theorem dL_isCopied_24 : decode cL_isCopied 24 = .ok (.aload_n 2, 1) := by decide +kernel
theorem dL_isCopied_25 : decode cL_isCopied 25 = .ok (.bipush 7, 2) := by decide +kernel
theorem dL_isCopied_27 : decode cL_isCopied 27 = .ok (.iload 4, 2) := by decide +kernel
theorem dL_isCopied_29 : decode cL_isCopied 29 = .ok (.imul, 1) := by decide +kernel
theorem dL_isCopied_30 : decode cL_isCopied 30 = .ok (.iconst 1, 1) := by decide +kernel
theorem dL_isCopied_31 : decode cL_isCopied 31 = .ok (.iadd, 1) := by decide +kernel
theorem dL_isCopied_32 : decode cL_isCopied 32 = .ok (.iaload, 1) := by decide +kernel
theorem dL_isCopied_33 : decode cL_isCopied 33 = .ok (.iconst 1, 1) := by decide +kernel
theorem dL_isCopied_34 : decode cL_isCopied 34 = .ok (.if_icmp .ne 13, 3) := by decide +kernel
theorem dL_isCopied_37 : decode cL_isCopied 37 = .ok (.aload_n 3, 1) := by decide +kernel
theorem dL_isCopied_38 : decode cL_isCopied 38 = .ok (.iconst 1, 1) := by decide +kernel
theorem dL_isCopied_39 : decode cL_isCopied 39 = .ok (.iaload, 1) := by decide +kernel
theorem dL_isCopied_40 : decode cL_isCopied 40 = .ok (.ifCond .ne 7, 3) := by decide +kernel
theorem dL_isCopied_43 : decode cL_isCopied 43 = .ok (.iconst 1, 1) := by decide +kernel
theorem dL_isCopied_44 : decode cL_isCopied 44 = .ok (.goto 4, 3) := by decide +kernel
theorem dL_isCopied_47 : decode cL_isCopied 47 = .ok (.iconst 0, 1) := by decide +kernel
theorem dL_isCopied_48 : decode cL_isCopied 48 = .ok (.istore 7, 2) := by decide +kernel
theorem dL_isCopied_50 : decode cL_isCopied 50 = .ok (.aload_n 0, 1) := by decide +kernel
theorem dL_isCopied_51 : decode cL_isCopied 51 = .ok (.bipush 9, 2) := by decide +kernel
theorem dL_isCopied_53 : decode cL_isCopied 53 = .ok (.iload 4, 2) := by decide +kernel
theorem dL_isCopied_55 : decode cL_isCopied 55 = .ok (.iload 5, 2) := by decide +kernel
theorem dL_isCopied_57 : decode cL_isCopied 57 = .ok (.iconst 0, 1) := by decide +kernel
theorem dL_isCopied_58 : decode cL_isCopied 58 = .ok (.iconst 0, 1) := by decide +kernel
theorem dL_isCopied_59 : decode cL_isCopied 59 = .ok (.iconst 0, 1) := by decide +kernel
theorem dL_isCopied_60 : decode cL_isCopied 60 = .ok (.invokestatic 97, 3) := by decide +kernel
theorem dL_isCopied_63 : decode cL_isCopied 63 = .ok (.istore 8, 2) := by decide +kernel
theorem dL_isCopied_65 : decode cL_isCopied 65 = .ok (.iload 7, 2) := by decide +kernel
theorem dL_isCopied_67 : decode cL_isCopied 67 = .ok (.ifCond .ne 26, 3) := by decide +kernel
theorem dL_isCopied_70 : decode cL_isCopied 70 = .ok (.iload 8, 2) := by decide +kernel
theorem dL_isCopied_72 : decode cL_isCopied 72 = .ok (.iload 6, 2) := by decide +kernel
theorem dL_isCopied_74 : decode cL_isCopied 74 = .ok (.ifCond .eq 8, 3) := by decide +kernel
theorem dL_isCopied_77 : decode cL_isCopied 77 = .ok (.bipush (-10), 2) := by decide +kernel
theorem dL_isCopied_79 : decode cL_isCopied 79 = .ok (.goto 5, 3) := by decide +kernel
theorem dL_isCopied_82 : decode cL_isCopied 82 = .ok (.bipush (-30), 2) := by decide +kernel
theorem dL_isCopied_84 : decode cL_isCopied 84 = .ok (.if_icmp .ne 7, 3) := by decide +kernel
theorem dL_isCopied_87 : decode cL_isCopied 87 = .ok (.iconst 1, 1) := by decide +kernel
theorem dL_isCopied_88 : decode cL_isCopied 88 = .ok (.goto 4, 3) := by decide +kernel
theorem dL_isCopied_91 : decode cL_isCopied 91 = .ok (.iconst 0, 1) := by decide +kernel
theorem dL_isCopied_92 : decode cL_isCopied 92 = .ok (.ireturn, 1) := by decide +kernel
theorem dL_isCopied_93 : decode cL_isCopied 93 = .ok (.aload_n 2, 1) := by decide +kernel
theorem dL_isCopied_94 : decode cL_isCopied 94 = .ok (.bipush 7, 2) := by decide +kernel
theorem dL_isCopied_96 : decode cL_isCopied 96 = .ok (.iload 4, 2) := by decide +kernel
theorem dL_isCopied_98 : decode cL_isCopied 98 = .ok (.imul, 1) := by decide +kernel
theorem dL_isCopied_99 : decode cL_isCopied 99 = .ok (.iconst 3, 1) := by decide +kernel
theorem dL_isCopied_100 : decode cL_isCopied 100 = .ok (.iadd, 1) := by decide +kernel
theorem dL_isCopied_101 : decode cL_isCopied 101 = .ok (.iload 5, 2) := by decide +kernel
theorem dL_isCopied_103 : decode cL_isCopied 103 = .ok (.iadd, 1) := by decide +kernel
theorem dL_isCopied_104 : decode cL_isCopied 104 = .ok (.aload_n 3, 1) := by decide +kernel
theorem dL_isCopied_105 : decode cL_isCopied 105 = .ok (.iconst 0, 1) := by decide +kernel
theorem dL_isCopied_106 : decode cL_isCopied 106 = .ok (.iaload, 1) := by decide +kernel
theorem dL_isCopied_107 : decode cL_isCopied 107 = .ok (.iastore, 1) := by decide +kernel
theorem dL_isCopied_108 : decode cL_isCopied 108 = .ok (.aload_n 2, 1) := by decide +kernel
theorem dL_isCopied_109 : decode cL_isCopied 109 = .ok (.bipush 7, 2) := by decide +kernel
theorem dL_isCopied_111 : decode cL_isCopied 111 = .ok (.iload 4, 2) := by decide +kernel
theorem dL_isCopied_113 : decode cL_isCopied 113 = .ok (.imul, 1) := by decide +kernel
theorem dL_isCopied_114 : decode cL_isCopied 114 = .ok (.iconst 5, 1) := by decide +kernel
theorem dL_isCopied_115 : decode cL_isCopied 115 = .ok (.iadd, 1) := by decide +kernel
theorem dL_isCopied_116 : decode cL_isCopied 116 = .ok (.iload 5, 2) := by decide +kernel
theorem dL_isCopied_118 : decode cL_isCopied 118 = .ok (.iadd, 1) := by decide +kernel
theorem dL_isCopied_119 : decode cL_isCopied 119 = .ok (.iconst 0, 1) := by decide +kernel
theorem dL_isCopied_120 : decode cL_isCopied 120 = .ok (.iastore, 1) := by decide +kernel
theorem dL_isCopied_121 : decode cL_isCopied 121 = .ok (.iconst 0, 1) := by decide +kernel
theorem dL_isCopied_122 : decode cL_isCopied 122 = .ok (.istore 9, 2) := by decide +kernel
theorem dL_isCopied_124 : decode cL_isCopied 124 = .ok (.iconst 1, 1) := by decide +kernel
theorem dL_isCopied_125 : decode cL_isCopied 125 = .ok (.istore 10, 2) := by decide +kernel
theorem dL_isCopied_127 : decode cL_isCopied 127 = .ok (.iconst 0, 1) := by decide +kernel
theorem dL_isCopied_128 : decode cL_isCopied 128 = .ok (.istore 11, 2) := by decide +kernel
theorem dL_isCopied_130 : decode cL_isCopied 130 = .ok (.iload 11, 2) := by decide +kernel
theorem dL_isCopied_132 : decode cL_isCopied 132 = .ok (.bipush 12, 2) := by decide +kernel
theorem dL_isCopied_134 : decode cL_isCopied 134 = .ok (.if_icmp .ge 151, 3) := by decide +kernel
theorem dL_isCopied_137 : decode cL_isCopied 137 = .ok (.iload 10, 2) := by decide +kernel
theorem dL_isCopied_139 : decode cL_isCopied 139 = .ok (.ifCond .eq 146, 3) := by decide +kernel
theorem dL_isCopied_142 : decode cL_isCopied 142 = .ok (.aload_n 1, 1) := by decide +kernel
theorem dL_isCopied_143 : decode cL_isCopied 143 = .ok (.iconst 2, 1) := by decide +kernel
theorem dL_isCopied_144 : decode cL_isCopied 144 = .ok (.aload_n 2, 1) := by decide +kernel
theorem dL_isCopied_145 : decode cL_isCopied 145 = .ok (.bipush 7, 2) := by decide +kernel
theorem dL_isCopied_147 : decode cL_isCopied 147 = .ok (.iload 4, 2) := by decide +kernel
theorem dL_isCopied_149 : decode cL_isCopied 149 = .ok (.imul, 1) := by decide +kernel
theorem dL_isCopied_150 : decode cL_isCopied 150 = .ok (.iaload, 1) := by decide +kernel
theorem dL_isCopied_151 : decode cL_isCopied 151 = .ok (.imul, 1) := by decide +kernel
theorem dL_isCopied_152 : decode cL_isCopied 152 = .ok (.iload 5, 2) := by decide +kernel
theorem dL_isCopied_154 : decode cL_isCopied 154 = .ok (.iadd, 1) := by decide +kernel
theorem dL_isCopied_155 : decode cL_isCopied 155 = .ok (.iaload, 1) := by decide +kernel
theorem dL_isCopied_156 : decode cL_isCopied 156 = .ok (.istore 12, 2) := by decide +kernel
theorem dL_isCopied_158 : decode cL_isCopied 158 = .ok (.aload_n 0, 1) := by decide +kernel
theorem dL_isCopied_159 : decode cL_isCopied 159 = .ok (.iload 4, 2) := by decide +kernel
theorem dL_isCopied_161 : decode cL_isCopied 161 = .ok (.iload 5, 2) := by decide +kernel
theorem dL_isCopied_163 : decode cL_isCopied 163 = .ok (.iload 11, 2) := by decide +kernel
theorem dL_isCopied_165 : decode cL_isCopied 165 = .ok (.iconst 0, 1) := by decide +kernel
theorem dL_isCopied_166 : decode cL_isCopied 166 = .ok (.invokevirtual 82, 3) := by decide +kernel
theorem dL_isCopied_169 : decode cL_isCopied 169 = .ok (.ifCond .lt 7, 3) := by decide +kernel
theorem dL_isCopied_172 : decode cL_isCopied 172 = .ok (.iconst 1, 1) := by decide +kernel
theorem dL_isCopied_173 : decode cL_isCopied 173 = .ok (.goto 4, 3) := by decide +kernel
theorem dL_isCopied_176 : decode cL_isCopied 176 = .ok (.iconst 0, 1) := by decide +kernel
theorem dL_isCopied_177 : decode cL_isCopied 177 = .ok (.istore 13, 2) := by decide +kernel
theorem dL_isCopied_179 : decode cL_isCopied 179 = .ok (.iload 9, 2) := by decide +kernel
theorem dL_isCopied_181 : decode cL_isCopied 181 = .ok (.iload 13, 2) := by decide +kernel
theorem dL_isCopied_183 : decode cL_isCopied 183 = .ok (.ifCond .eq 7, 3) := by decide +kernel
theorem dL_isCopied_186 : decode cL_isCopied 186 = .ok (.iconst 1, 1) := by decide +kernel
theorem dL_isCopied_187 : decode cL_isCopied 187 = .ok (.goto 4, 3) := by decide +kernel
theorem dL_isCopied_190 : decode cL_isCopied 190 = .ok (.iconst 0, 1) := by decide +kernel
theorem dL_isCopied_191 : decode cL_isCopied 191 = .ok (.iadd, 1) := by decide +kernel
theorem dL_isCopied_192 : decode cL_isCopied 192 = .ok (.istore 9, 2) := by decide +kernel
theorem dL_isCopied_194 : decode cL_isCopied 194 = .ok (.iconst 0, 1) := by decide +kernel
theorem dL_isCopied_195 : decode cL_isCopied 195 = .ok (.istore 14, 2) := by decide +kernel
theorem dL_isCopied_197 : decode cL_isCopied 197 = .ok (.iload 14, 2) := by decide +kernel
theorem dL_isCopied_199 : decode cL_isCopied 199 = .ok (.iconst 3, 1) := by decide +kernel
theorem dL_isCopied_200 : decode cL_isCopied 200 = .ok (.if_icmp .ge 79, 3) := by decide +kernel
theorem dL_isCopied_203 : decode cL_isCopied 203 = .ok (.iload 13, 2) := by decide +kernel
theorem dL_isCopied_205 : decode cL_isCopied 205 = .ok (.ifCond .eq 74, 3) := by decide +kernel
theorem dL_isCopied_208 : decode cL_isCopied 208 = .ok (.iload 10, 2) := by decide +kernel
theorem dL_isCopied_210 : decode cL_isCopied 210 = .ok (.ifCond .eq 69, 3) := by decide +kernel
theorem dL_isCopied_213 : decode cL_isCopied 213 = .ok (.aload_n 0, 1) := by decide +kernel
theorem dL_isCopied_214 : decode cL_isCopied 214 = .ok (.iload 4, 2) := by decide +kernel
theorem dL_isCopied_216 : decode cL_isCopied 216 = .ok (.iload 5, 2) := by decide +kernel
theorem dL_isCopied_218 : decode cL_isCopied 218 = .ok (.iload 11, 2) := by decide +kernel
theorem dL_isCopied_220 : decode cL_isCopied 220 = .ok (.iload 14, 2) := by decide +kernel
theorem dL_isCopied_222 : decode cL_isCopied 222 = .ok (.invokevirtual 82, 3) := by decide +kernel
theorem dL_isCopied_225 : decode cL_isCopied 225 = .ok (.iload 12, 2) := by decide +kernel
theorem dL_isCopied_227 : decode cL_isCopied 227 = .ok (.iload 14, 2) := by decide +kernel
theorem dL_isCopied_229 : decode cL_isCopied 229 = .ok (.ishr, 1) := by decide +kernel
theorem dL_isCopied_230 : decode cL_isCopied 230 = .ok (.iconst 1, 1) := by decide +kernel
theorem dL_isCopied_231 : decode cL_isCopied 231 = .ok (.iand, 1) := by decide +kernel
theorem dL_isCopied_232 : decode cL_isCopied 232 = .ok (.iconst 1, 1) := by decide +kernel
theorem dL_isCopied_233 : decode cL_isCopied 233 = .ok (.if_icmp .ne 16, 3) := by decide +kernel
theorem dL_isCopied_236 : decode cL_isCopied 236 = .ok (.aload_n 0, 1) := by decide +kernel
theorem dL_isCopied_237 : decode cL_isCopied 237 = .ok (.iload 5, 2) := by decide +kernel
theorem dL_isCopied_239 : decode cL_isCopied 239 = .ok (.iload 11, 2) := by decide +kernel
theorem dL_isCopied_241 : decode cL_isCopied 241 = .ok (.iload 14, 2) := by decide +kernel
theorem dL_isCopied_243 : decode cL_isCopied 243 = .ok (.invokevirtual 70, 3) := by decide +kernel
theorem dL_isCopied_246 : decode cL_isCopied 246 = .ok (.goto 4, 3) := by decide +kernel
theorem dL_isCopied_249 : decode cL_isCopied 249 = .ok (.iconst 0, 1) := by decide +kernel
theorem dL_isCopied_250 : decode cL_isCopied 250 = .ok (.if_icmp .ne 20, 3) := by decide +kernel
theorem dL_isCopied_253 : decode cL_isCopied 253 = .ok (.aload_n 0, 1) := by decide +kernel
theorem dL_isCopied_254 : decode cL_isCopied 254 = .ok (.iload 5, 2) := by decide +kernel
theorem dL_isCopied_256 : decode cL_isCopied 256 = .ok (.iload 11, 2) := by decide +kernel
theorem dL_isCopied_258 : decode cL_isCopied 258 = .ok (.iload 14, 2) := by decide +kernel
theorem dL_isCopied_260 : decode cL_isCopied 260 = .ok (.invokevirtual 70, 3) := by decide +kernel
theorem dL_isCopied_263 : decode cL_isCopied 263 = .ok (.ifCond .lt 7, 3) := by decide +kernel
theorem dL_isCopied_266 : decode cL_isCopied 266 = .ok (.iconst 1, 1) := by decide +kernel
theorem dL_isCopied_267 : decode cL_isCopied 267 = .ok (.goto 4, 3) := by decide +kernel
theorem dL_isCopied_270 : decode cL_isCopied 270 = .ok (.iconst 0, 1) := by decide +kernel
theorem dL_isCopied_271 : decode cL_isCopied 271 = .ok (.istore 10, 2) := by decide +kernel
theorem dL_isCopied_273 : decode cL_isCopied 273 = .ok (.iinc 14 1, 3) := by decide +kernel
theorem dL_isCopied_276 : decode cL_isCopied 276 = .ok (.goto (-79), 3) := by decide +kernel
theorem dL_isCopied_279 : decode cL_isCopied 279 = .ok (.iinc 11 1, 3) := by decide +kernel
theorem dL_isCopied_282 : decode cL_isCopied 282 = .ok (.goto (-152), 3) := by decide +kernel
theorem dL_isCopied_285 : decode cL_isCopied 285 = .ok (.iload 10, 2) := by decide +kernel
theorem dL_isCopied_287 : decode cL_isCopied 287 = .ok (.ifCond .eq 25, 3) := by decide +kernel
theorem dL_isCopied_290 : decode cL_isCopied 290 = .ok (.iload 8, 2) := by decide +kernel
theorem dL_isCopied_292 : decode cL_isCopied 292 = .ok (.iload 9, 2) := by decide +kernel
theorem dL_isCopied_294 : decode cL_isCopied 294 = .ok (.if_icmp .ne 18, 3) := by decide +kernel
theorem dL_isCopied_297 : decode cL_isCopied 297 = .ok (.aload_n 0, 1) := by decide +kernel
theorem dL_isCopied_298 : decode cL_isCopied 298 = .ok (.iload 4, 2) := by decide +kernel
theorem dL_isCopied_300 : decode cL_isCopied 300 = .ok (.iload 5, 2) := by decide +kernel
theorem dL_isCopied_302 : decode cL_isCopied 302 = .ok (.invokevirtual 86, 3) := by decide +kernel
theorem dL_isCopied_305 : decode cL_isCopied 305 = .ok (.ifCond .eq 7, 3) := by decide +kernel
theorem dL_isCopied_308 : decode cL_isCopied 308 = .ok (.iconst 1, 1) := by decide +kernel
theorem dL_isCopied_309 : decode cL_isCopied 309 = .ok (.goto 4, 3) := by decide +kernel
theorem dL_isCopied_312 : decode cL_isCopied 312 = .ok (.iconst 0, 1) := by decide +kernel
theorem dL_isCopied_313 : decode cL_isCopied 313 = .ok (.ireturn, 1) := by decide +kernel
set_option maxRecDepth 20000 in
theorem ggL_isReceived_L_does : GoodIn wsL_isReceived wsL_does := goodIn_ca (goodIn_ca (goodIn_ca (goodIn_r _ [4, 5, 6, 7, 8, 9, 10, 11, 12, 13, 14, 15, 16, 17, 18, 19, 20, 21, 22, 23, 24, 25, 26, 27, 28, 29, 30, 31, 32, 33, 34, 35, 36, 37, 38, 39, 40, 41, 42, 43, 44, 45, 46, 47, 48, 49, 50, 51, 52, 53, 54, 55, 3, 56, 57, 58, 59, 60, 61, 62, 63, 64, 65, 66, 67, 68, 69, 70, 71, 72, 73, 74, 75, 76, 77, 78, 79, 80, 81, 82, 83, 84, 85, 86, 87, 88, 89, 90, 91, 92, 93, 94, 95, 96, 97, 98, 99, 100, 101, 102, 103, 104, 105, 106, 107, 108, 109, 110, 111, 112, 113, 114, 115, 116, 117, 118, 119, 120, 121, 122, 123, 124, 125, 126, 127, 128, 129, 130, 131, 132, 133, 134, 135, 136, 137, 138, 139, 140, 141, 142, 143, 144, 145, 146, 147, 148, 149, 150, 151, 152, 153, 154, 155, 156, 157, 158, 159, 160, 161, 162, 163, 164, 165, 166, 167, 168, 169, 170, 171, 172, 173, 174, 175, 176, 177, 178, 179, 180, 181, 182, 183, 184, 185, 186, 187, 188, 189, 190, 191, 192, 193, 194, 195, 196, 197, 198, 199, 200, 201, 202, 203, 204, 209, 210, 211, 212, 213, 214, 215, 216, 217, 218, 219, 220, 221, 222, 223, 224, 225, 226, 227, 228, 229, 230, 231] (by decide +kernel) (by decide +kernel)) (goodIn_sub (fun _ h => List.mem_cons_of_mem _ (List.mem_append_left _ (List.mem_append_left _ (List.mem_append_right _ h)))) (by decide +kernel))) (goodIn_sub (fun _ h => List.mem_cons_of_mem _ (List.mem_append_left _ (List.mem_append_right _ h))) (by decide +kernel))) (goodIn_sub (fun _ h => List.mem_cons_of_mem _ (List.mem_append_right _ h)) (by decide +kernel))
set_option maxRecDepth 20000 in
theorem gL_isReceived_L_does : GoodIn wsL_isReceived (va_wsS RL 97 yL_does wsL_does) := goodIn_app (goodIn_of _ (by decide +kernel)) ggL_isReceived_L_does
set_option maxRecDepth 20000 in
theorem ggL_isReceived_X4_state : GoodIn wsL_isReceived wsX4_state := goodIn_ca (goodIn_r _ [208, 82, 125, 126, 11, 127, 17, 18, 209, 210, 211, 212, 213, 221, 222, 223, 224, 225] (by decide +kernel) (by decide +kernel)) (goodIn_sub (fun _ h => List.mem_cons_of_mem _ (List.mem_append_left _ (List.mem_append_left _ (List.mem_append_right _ h)))) (by decide +kernel))
set_option maxRecDepth 20000 in
theorem gL_isReceived_X4_state : GoodIn wsL_isReceived (wsV RL 73 RX4 yX4_state wsX4_state) := goodIn_app (goodIn_of _ (by decide +kernel)) ggL_isReceived_X4_state
theorem dL_isReceived_0 : decode cL_isReceived 0 = .ok (.iload_n 3, 1) := by decide +kernel
theorem dL_isReceived_1 : decode cL_isReceived 1 = .ok (.iconst 3, 1) := by decide +kernel
theorem dL_isReceived_2 : decode cL_isReceived 2 = .ok (.if_icmp .eq 16, 3) := by decide +kernel
theorem dL_isReceived_5 : decode cL_isReceived 5 = .ok (.iload 4, 2) := by decide +kernel
theorem dL_isReceived_7 : decode cL_isReceived 7 = .ok (.iconst 1, 1) := by decide +kernel
theorem dL_isReceived_8 : decode cL_isReceived 8 = .ok (.if_icmp .lt 10, 3) := by decide +kernel
theorem dL_isReceived_11 : decode cL_isReceived 11 = .ok (.iload 4, 2) := by decide +kernel
theorem dL_isReceived_13 : decode cL_isReceived 13 = .ok (.bipush 50, 2) := by decide +kernel
theorem dL_isReceived_15 : decode cL_isReceived 15 = .ok (.if_icmp .le 36, 3) := by decide +kernel
theorem dL_isReceived_18 : decode cL_isReceived 18 = .ok (.aload_n 0, 1) := by decide +kernel
theorem dL_isReceived_19 : decode cL_isReceived 19 = .ok (.bipush 10, 2) := by decide +kernel
theorem dL_isReceived_21 : decode cL_isReceived 21 = .ok (.iload_n 3, 1) := by decide +kernel
theorem dL_isReceived_22 : decode cL_isReceived 22 = .ok (.iload 4, 2) := by decide +kernel
theorem dL_isReceived_24 : decode cL_isReceived 24 = .ok (.iconst 0, 1) := by decide +kernel
theorem dL_isReceived_25 : decode cL_isReceived 25 = .ok (.iconst 0, 1) := by decide +kernel
theorem dL_isReceived_26 : decode cL_isReceived 26 = .ok (.iconst 0, 1) := by decide +kernel
theorem dL_isReceived_27 : decode cL_isReceived 27 = .ok (.invokestatic 97, 3) := by decide +kernel
theorem dL_isReceived_30 : decode cL_isReceived 30 = .ok (.iload_n 3, 1) := by decide +kernel
theorem dL_isReceived_31 : decode cL_isReceived 31 = .ok (.iconst 3, 1) := by decide +kernel
theorem dL_isReceived_32 : decode cL_isReceived 32 = .ok (.if_icmp .ne 8, 3) := by decide +kernel
theorem dL_isReceived_35 : decode cL_isReceived 35 = .ok (.bipush (-30), 2) := by decide +kernel
theorem dL_isReceived_37 : decode cL_isReceived 37 = .ok (.goto 5, 3) := by decide +kernel
theorem dL_isReceived_40 : decode cL_isReceived 40 = .ok (.bipush (-20), 2) := by decide +kernel
theorem dL_isReceived_42 : decode cL_isReceived 42 = .ok (.if_icmp .ne 7, 3) := by decide +kernel
theorem dL_isReceived_45 : decode cL_isReceived 45 = .ok (.iconst 1, 1) := by decide +kernel
theorem dL_isReceived_46 : decode cL_isReceived 46 = .ok (.goto 4, 3) := by decide +kernel
theorem dL_isReceived_49 : decode cL_isReceived 49 = .ok (.iconst 0, 1) := by decide +kernel
theorem dL_isReceived_50 : decode cL_isReceived 50 = .ok (.ireturn, 1) := by decide +kernel
theorem dL_isReceived_51 : decode cL_isReceived 51 = .ok (.bipush 7, 2) := by decide +kernel
theorem dL_isReceived_53 : decode cL_isReceived 53 = .ok (.iload_n 3, 1) := by decide +kernel
theorem dL_isReceived_54 : decode cL_isReceived 54 = .ok (.imul, 1) := by decide +kernel
theorem dL_isReceived_55 : decode cL_isReceived 55 = .ok (.istore 5, 2) := by decide +kernel
theorem dL_isReceived_57 : decode cL_isReceived 57 = .ok (.aload_n 0, 1) := by decide +kernel
theorem dL_isReceived_58 : decode cL_isReceived 58 = .ok (.bipush 10, 2) := by decide +kernel
theorem dL_isReceived_60 : decode cL_isReceived 60 = .ok (.iload_n 3, 1) := by decide +kernel
theorem dL_isReceived_61 : decode cL_isReceived 61 = .ok (.iload 4, 2) := by decide +kernel
theorem dL_isReceived_63 : decode cL_isReceived 63 = .ok (.iconst 0, 1) := by decide +kernel
theorem dL_isReceived_64 : decode cL_isReceived 64 = .ok (.iconst 0, 1) := by decide +kernel
theorem dL_isReceived_65 : decode cL_isReceived 65 = .ok (.iconst 0, 1) := by decide +kernel
theorem dL_isReceived_66 : decode cL_isReceived 66 = .ok (.invokestatic 97, 3) := by decide +kernel
theorem dL_isReceived_69 : decode cL_isReceived 69 = .ok (.istore 6, 2) := by decide +kernel
theorem dL_isReceived_71 : decode cL_isReceived 71 = .ok (.aload_n 1, 1) := by decide +kernel
theorem dL_isReceived_72 : decode cL_isReceived 72 = .ok (.iload 5, 2) := by decide +kernel
theorem dL_isReceived_74 : decode cL_isReceived 74 = .ok (.iconst 1, 1) := by decide +kernel
theorem dL_isReceived_75 : decode cL_isReceived 75 = .ok (.iadd, 1) := by decide +kernel
theorem dL_isReceived_76 : decode cL_isReceived 76 = .ok (.iaload, 1) := by decide +kernel
theorem dL_isReceived_77 : decode cL_isReceived 77 = .ok (.iconst 1, 1) := by decide +kernel
theorem dL_isReceived_78 : decode cL_isReceived 78 = .ok (.if_icmp .eq 16, 3) := by decide +kernel
theorem dL_isReceived_81 : decode cL_isReceived 81 = .ok (.iload 6, 2) := by decide +kernel
theorem dL_isReceived_83 : decode cL_isReceived 83 = .ok (.bipush (-10), 2) := by decide +kernel
theorem dL_isReceived_85 : decode cL_isReceived 85 = .ok (.if_icmp .ne 7, 3) := by decide +kernel
theorem dL_isReceived_88 : decode cL_isReceived 88 = .ok (.iconst 1, 1) := by decide +kernel
theorem dL_isReceived_89 : decode cL_isReceived 89 = .ok (.goto 4, 3) := by decide +kernel
theorem dL_isReceived_92 : decode cL_isReceived 92 = .ok (.iconst 0, 1) := by decide +kernel
theorem dL_isReceived_93 : decode cL_isReceived 93 = .ok (.ireturn, 1) := by decide +kernel
theorem dL_isReceived_94 : decode cL_isReceived 94 = .ok (.aload_n 2, 1) := by decide +kernel
theorem dL_isReceived_95 : decode cL_isReceived 95 = .ok (.iconst 0, 1) := by decide +kernel
theorem dL_isReceived_96 : decode cL_isReceived 96 = .ok (.iaload, 1) := by decide +kernel
theorem dL_isReceived_97 : decode cL_isReceived 97 = .ok (.aload_n 1, 1) := by decide +kernel
theorem dL_isReceived_98 : decode cL_isReceived 98 = .ok (.iload 5, 2) := by decide +kernel
theorem dL_isReceived_100 : decode cL_isReceived 100 = .ok (.iconst 2, 1) := by decide +kernel
theorem dL_isReceived_101 : decode cL_isReceived 101 = .ok (.iadd, 1) := by decide +kernel
theorem dL_isReceived_102 : decode cL_isReceived 102 = .ok (.iaload, 1) := by decide +kernel
theorem dL_isReceived_103 : decode cL_isReceived 103 = .ok (.isub, 1) := by decide +kernel
theorem dL_isReceived_104 : decode cL_isReceived 104 = .ok (.istore 7, 2) := by decide +kernel
theorem dL_isReceived_106 : decode cL_isReceived 106 = .ok (.aload_n 1, 1) := by decide +kernel
theorem dL_isReceived_107 : decode cL_isReceived 107 = .ok (.iload 5, 2) := by decide +kernel
theorem dL_isReceived_109 : decode cL_isReceived 109 = .ok (.iconst 2, 1) := by decide +kernel
theorem dL_isReceived_110 : decode cL_isReceived 110 = .ok (.iadd, 1) := by decide +kernel
theorem dL_isReceived_111 : decode cL_isReceived 111 = .ok (.dup2, 1) := by decide +kernel
theorem dL_isReceived_112 : decode cL_isReceived 112 = .ok (.iaload, 1) := by decide +kernel
theorem dL_isReceived_113 : decode cL_isReceived 113 = .ok (.iload 6, 2) := by decide +kernel
theorem dL_isReceived_115 : decode cL_isReceived 115 = .ok (.iadd, 1) := by decide +kernel
theorem dL_isReceived_116 : decode cL_isReceived 116 = .ok (.iastore, 1) := by decide +kernel
theorem dL_isReceived_117 : decode cL_isReceived 117 = .ok (.aload_n 0, 1) := by decide +kernel
theorem dL_isReceived_118 : decode cL_isReceived 118 = .ok (.iload_n 3, 1) := by decide +kernel
theorem dL_isReceived_119 : decode cL_isReceived 119 = .ok (.invokevirtual 73, 3) := by decide +kernel
theorem dL_isReceived_122 : decode cL_isReceived 122 = .ok (.iconst 2, 1) := by decide +kernel
theorem dL_isReceived_123 : decode cL_isReceived 123 = .ok (.if_icmp .ne 7, 3) := by decide +kernel
theorem dL_isReceived_126 : decode cL_isReceived 126 = .ok (.iconst 1, 1) := by decide +kernel
theorem dL_isReceived_127 : decode cL_isReceived 127 = .ok (.goto 4, 3) := by decide +kernel
theorem dL_isReceived_130 : decode cL_isReceived 130 = .ok (.iconst 0, 1) := by decide +kernel
theorem dL_isReceived_131 : decode cL_isReceived 131 = .ok (.istore 8, 2) := by decide +kernel
theorem dL_isReceived_133 : decode cL_isReceived 133 = .ok (.aload_n 1, 1) := by decide +kernel
theorem dL_isReceived_134 : decode cL_isReceived 134 = .ok (.iload 5, 2) := by decide +kernel
theorem dL_isReceived_136 : decode cL_isReceived 136 = .ok (.iconst 1, 1) := by decide +kernel
theorem dL_isReceived_137 : decode cL_isReceived 137 = .ok (.iadd, 1) := by decide +kernel
theorem dL_isReceived_138 : decode cL_isReceived 138 = .ok (.iload 8, 2) := by decide +kernel
theorem dL_isReceived_140 : decode cL_isReceived 140 = .ok (.ifCond .eq 7, 3) := by decide +kernel
theorem dL_isReceived_143 : decode cL_isReceived 143 = .ok (.iconst 2, 1) := by decide +kernel
theorem dL_isReceived_144 : decode cL_isReceived 144 = .ok (.goto 4, 3) := by decide +kernel
theorem dL_isReceived_147 : decode cL_isReceived 147 = .ok (.iconst 1, 1) := by decide +kernel
theorem dL_isReceived_148 : decode cL_isReceived 148 = .ok (.iastore, 1) := by decide +kernel
theorem dL_isReceived_149 : decode cL_isReceived 149 = .ok (.aload_n 1, 1) := by decide +kernel
theorem dL_isReceived_150 : decode cL_isReceived 150 = .ok (.iload 5, 2) := by decide +kernel
theorem dL_isReceived_152 : decode cL_isReceived 152 = .ok (.iconst 5, 1) := by decide +kernel
theorem dL_isReceived_153 : decode cL_isReceived 153 = .ok (.iadd, 1) := by decide +kernel
theorem dL_isReceived_154 : decode cL_isReceived 154 = .ok (.iaload, 1) := by decide +kernel
theorem dL_isReceived_155 : decode cL_isReceived 155 = .ok (.aload_n 1, 1) := by decide +kernel
theorem dL_isReceived_156 : decode cL_isReceived 156 = .ok (.iload 5, 2) := by decide +kernel
theorem dL_isReceived_158 : decode cL_isReceived 158 = .ok (.bipush 6, 2) := by decide +kernel
theorem dL_isReceived_160 : decode cL_isReceived 160 = .ok (.iadd, 1) := by decide +kernel
theorem dL_isReceived_161 : decode cL_isReceived 161 = .ok (.iaload, 1) := by decide +kernel
theorem dL_isReceived_162 : decode cL_isReceived 162 = .ok (.iadd, 1) := by decide +kernel
theorem dL_isReceived_163 : decode cL_isReceived 163 = .ok (.ifCond .le 7, 3) := by decide +kernel
theorem dL_isReceived_166 : decode cL_isReceived 166 = .ok (.iconst 1, 1) := by decide +kernel
theorem dL_isReceived_167 : decode cL_isReceived 167 = .ok (.goto 4, 3) := by decide +kernel
theorem dL_isReceived_170 : decode cL_isReceived 170 = .ok (.iconst 0, 1) := by decide +kernel
theorem dL_isReceived_171 : decode cL_isReceived 171 = .ok (.istore 9, 2) := by decide +kernel
theorem dL_isReceived_173 : decode cL_isReceived 173 = .ok (.iload 6, 2) := by decide +kernel
theorem dL_isReceived_175 : decode cL_isReceived 175 = .ok (.ifCond .lt 67, 3) := by decide +kernel
theorem dL_isReceived_178 : decode cL_isReceived 178 = .ok (.iload 6, 2) := by decide +kernel
theorem dL_isReceived_180 : decode cL_isReceived 180 = .ok (.iload 4, 2) := by decide +kernel
theorem dL_isReceived_182 : decode cL_isReceived 182 = .ok (.if_icmp .gt 60, 3) := by decide +kernel
theorem dL_isReceived_185 : decode cL_isReceived 185 = .ok (.iload 6, 2) := by decide +kernel
theorem dL_isReceived_187 : decode cL_isReceived 187 = .ok (.iload 7, 2) := by decide +kernel
theorem dL_isReceived_189 : decode cL_isReceived 189 = .ok (.if_icmp .gt 53, 3) := by decide +kernel
theorem dL_isReceived_192 : decode cL_isReceived 192 = .ok (.iload 8, 2) := by decide +kernel
theorem dL_isReceived_194 : decode cL_isReceived 194 = .ok (.ifCond .eq 25, 3) := by decide +kernel
theorem dL_isReceived_197 : decode cL_isReceived 197 = .ok (.iload 6, 2) := by decide +kernel
theorem dL_isReceived_199 : decode cL_isReceived 199 = .ok (.iload 7, 2) := by decide +kernel
theorem dL_isReceived_201 : decode cL_isReceived 201 = .ok (.if_icmp .ge 41, 3) := by decide +kernel
theorem dL_isReceived_204 : decode cL_isReceived 204 = .ok (.iload 6, 2) := by decide +kernel
theorem dL_isReceived_206 : decode cL_isReceived 206 = .ok (.iload 4, 2) := by decide +kernel
theorem dL_isReceived_208 : decode cL_isReceived 208 = .ok (.if_icmp .ge 34, 3) := by decide +kernel
theorem dL_isReceived_211 : decode cL_isReceived 211 = .ok (.iload 9, 2) := by decide +kernel
theorem dL_isReceived_213 : decode cL_isReceived 213 = .ok (.ifCond .eq 29, 3) := by decide +kernel
theorem dL_isReceived_216 : decode cL_isReceived 216 = .ok (.goto 22, 3) := by decide +kernel
theorem dL_isReceived_219 : decode cL_isReceived 219 = .ok (.iload 6, 2) := by decide +kernel
theorem dL_isReceived_221 : decode cL_isReceived 221 = .ok (.iload 4, 2) := by decide +kernel
theorem dL_isReceived_223 : decode cL_isReceived 223 = .ok (.iload 7, 2) := by decide +kernel
theorem dL_isReceived_225 : decode cL_isReceived 225 = .ok (.if_icmp .ge 8, 3) := by decide +kernel
theorem dL_isReceived_228 : decode cL_isReceived 228 = .ok (.iload 4, 2) := by decide +kernel
theorem dL_isReceived_230 : decode cL_isReceived 230 = .ok (.goto 5, 3) := by decide +kernel
theorem dL_isReceived_233 : decode cL_isReceived 233 = .ok (.iload 7, 2) := by decide +kernel
theorem dL_isReceived_235 : decode cL_isReceived 235 = .ok (.if_icmp .ne 7, 3) := by decide +kernel
theorem dL_isReceived_238 : decode cL_isReceived 238 = .ok (.iconst 1, 1) := by decide +kernel
theorem dL_isReceived_239 : decode cL_isReceived 239 = .ok (.goto 4, 3) := by decide +kernel
theorem dL_isReceived_242 : decode cL_isReceived 242 = .ok (.iconst 0, 1) := by decide +kernel
theorem dL_isReceived_243 : decode cL_isReceived 243 = .ok (.ireturn, 1) := by decide +kernel
