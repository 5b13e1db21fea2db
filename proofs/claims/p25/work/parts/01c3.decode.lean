theorem dX10_join_46 : decode cX10_join 46 = .ok (.if_icmp .gt 56, 3) := by decide +kernel
theorem dX10_join_49 : decode cX10_join 49 = .ok (.aload_n 0, 1) := by decide +kernel
theorem dX10_join_50 : decode cX10_join 50 = .ok (.getfield 18, 3) := by decide +kernel
theorem dX10_join_53 : decode cX10_join 53 = .ok (.iload 4, 2) := by decide +kernel
theorem dX10_join_55 : decode cX10_join 55 = .ok (.iload 4, 2) := by decide +kernel
theorem dX10_join_57 : decode cX10_join 57 = .ok (.aload_n 0, 1) := by decide +kernel
theorem dX10_join_58 : decode cX10_join 58 = .ok (.getfield 14, 3) := by decide +kernel
theorem dX10_join_61 : decode cX10_join 61 = .ok (.arraylength, 1) := by decide +kernel
theorem dX10_join_62 : decode cX10_join 62 = .ok (.if_icmp .ge 30, 3) := by decide +kernel
theorem dX10_join_65 : decode cX10_join 65 = .ok (.aload_n 0, 1) := by decide +kernel
theorem dX10_join_66 : decode cX10_join 66 = .ok (.getfield 14, 3) := by decide +kernel
theorem dX10_join_69 : decode cX10_join 69 = .ok (.iload 4, 2) := by decide +kernel
theorem dX10_join_71 : decode cX10_join 71 = .ok (.aaload, 1) := by decide +kernel
theorem dX10_join_72 : decode cX10_join 72 = .ok (.iconst 0, 1) := by decide +kernel
theorem dX10_join_73 : decode cX10_join 73 = .ok (.iaload, 1) := by decide +kernel
theorem dX10_join_74 : decode cX10_join 74 = .ok (.bipush 15, 2) := by decide +kernel
theorem dX10_join_76 : decode cX10_join 76 = .ok (.if_icmp .eq 16, 3) := by decide +kernel
theorem dX10_join_79 : decode cX10_join 79 = .ok (.iconst 1, 1) := by decide +kernel
theorem dX10_join_80 : decode cX10_join 80 = .ok (.newarray .int, 2) := by decide +kernel
theorem dX10_join_82 : decode cX10_join 82 = .ok (.dup, 1) := by decide +kernel
theorem dX10_join_83 : decode cX10_join 83 = .ok (.iconst 0, 1) := by decide +kernel
theorem dX10_join_84 : decode cX10_join 84 = .ok (.iload 4, 2) := by decide +kernel
theorem dX10_join_86 : decode cX10_join 86 = .ok (.iconst 1, 1) := by decide +kernel
theorem dX10_join_87 : decode cX10_join 87 = .ok (.iadd, 1) := by decide +kernel
theorem dX10_join_88 : decode cX10_join 88 = .ok (.iastore, 1) := by decide +kernel
theorem dX10_join_89 : decode cX10_join 89 = .ok (.goto 6, 3) := by decide +kernel
theorem dX10_join_92 : decode cX10_join 92 = .ok (.iconst 0, 1) := by decide +kernel
theorem dX10_join_93 : decode cX10_join 93 = .ok (.newarray .int, 2) := by decide +kernel
theorem dX10_join_95 : decode cX10_join 95 = .ok (.aastore, 1) := by decide +kernel
theorem dX10_join_96 : decode cX10_join 96 = .ok (.iinc 4 1, 3) := by decide +kernel
theorem dX10_join_99 : decode cX10_join 99 = .ok (.goto (-60), 3) := by decide +kernel
theorem dX10_join_102 : decode cX10_join 102 = .ok (.iconst 0, 1) := by decide +kernel
theorem dX10_join_103 : decode cX10_join 103 = .ok (.istore 4, 2) := by decide +kernel
theorem dX10_join_105 : decode cX10_join 105 = .ok (.iload 4, 2) := by decide +kernel
theorem dX10_join_107 : decode cX10_join 107 = .ok (.aload_n 0, 1) := by decide +kernel
theorem dX10_join_108 : decode cX10_join 108 = .ok (.getfield 14, 3) := by decide +kernel
theorem dX10_join_111 : decode cX10_join 111 = .ok (.arraylength, 1) := by decide +kernel
theorem dX10_join_112 : decode cX10_join 112 = .ok (.if_icmp .ge 240, 3) := by decide +kernel
theorem dX10_join_115 : decode cX10_join 115 = .ok (.aload_n 0, 1) := by decide +kernel
theorem dX10_join_116 : decode cX10_join 116 = .ok (.getfield 14, 3) := by decide +kernel
theorem dX10_join_119 : decode cX10_join 119 = .ok (.iload 4, 2) := by decide +kernel
theorem dX10_join_121 : decode cX10_join 121 = .ok (.aaload, 1) := by decide +kernel
theorem dX10_join_122 : decode cX10_join 122 = .ok (.iconst 0, 1) := by decide +kernel
theorem dX10_join_123 : decode cX10_join 123 = .ok (.iaload, 1) := by decide +kernel
theorem dX10_join_124 : decode cX10_join 124 = .ok (.istore 5, 2) := by decide +kernel
theorem dX10_join_126 : decode cX10_join 126 = .ok (.iload 5, 2) := by decide +kernel
theorem dX10_join_128 : decode cX10_join 128 = .ok (.bipush 8, 2) := by decide +kernel
theorem dX10_join_130 : decode cX10_join 130 = .ok (.if_icmp .eq 10, 3) := by decide +kernel
theorem dX10_join_133 : decode cX10_join 133 = .ok (.iload 5, 2) := by decide +kernel
theorem dX10_join_135 : decode cX10_join 135 = .ok (.bipush 10, 2) := by decide +kernel
theorem dX10_join_137 : decode cX10_join 137 = .ok (.if_icmp .ne 15, 3) := by decide +kernel
theorem dX10_join_140 : decode cX10_join 140 = .ok (.aload_n 2, 1) := by decide +kernel
theorem dX10_join_141 : decode cX10_join 141 = .ok (.iload_n 3, 1) := by decide +kernel
theorem dX10_join_142 : decode cX10_join 142 = .ok (.iconst (-1), 1) := by decide +kernel
theorem dX10_join_143 : decode cX10_join 143 = .ok (.iastore, 1) := by decide +kernel
theorem dX10_join_144 : decode cX10_join 144 = .ok (.aload_n 1, 1) := by decide +kernel
theorem dX10_join_145 : decode cX10_join 145 = .ok (.iload_n 3, 1) := by decide +kernel
theorem dX10_join_146 : decode cX10_join 146 = .ok (.iinc 3 1, 3) := by decide +kernel
theorem dX10_join_149 : decode cX10_join 149 = .ok (.iload 4, 2) := by decide +kernel
theorem dX10_join_151 : decode cX10_join 151 = .ok (.iastore, 1) := by decide +kernel
theorem dX10_join_152 : decode cX10_join 152 = .ok (.iload 5, 2) := by decide +kernel
theorem dX10_join_154 : decode cX10_join 154 = .ok (.bipush 9, 2) := by decide +kernel
theorem dX10_join_156 : decode cX10_join 156 = .ok (.if_icmp .eq 13, 3) := by decide +kernel
theorem dX10_join_159 : decode cX10_join 159 = .ok (.iload 5, 2) := by decide +kernel
theorem dX10_join_161 : decode cX10_join 161 = .ok (.bipush 11, 2) := by decide +kernel
theorem dX10_join_163 : decode cX10_join 163 = .ok (.if_icmp .eq 6, 3) := by decide +kernel
theorem dX10_join_166 : decode cX10_join 166 = .ok (.goto 180, 3) := by decide +kernel
theorem dX10_join_169 : decode cX10_join 169 = .ok (.iload_n 3, 1) := by decide +kernel
theorem dX10_join_170 : decode cX10_join 170 = .ok (.ifCond .eq 35, 3) := by decide +kernel
theorem dX10_join_173 : decode cX10_join 173 = .ok (.iload 5, 2) := by decide +kernel
theorem dX10_join_175 : decode cX10_join 175 = .ok (.bipush 9, 2) := by decide +kernel
theorem dX10_join_177 : decode cX10_join 177 = .ok (.if_icmp .ne 31, 3) := by decide +kernel
theorem dX10_join_180 : decode cX10_join 180 = .ok (.aload_n 0, 1) := by decide +kernel
theorem dX10_join_181 : decode cX10_join 181 = .ok (.getfield 14, 3) := by decide +kernel
theorem dX10_join_184 : decode cX10_join 184 = .ok (.aload_n 1, 1) := by decide +kernel
theorem dX10_join_185 : decode cX10_join 185 = .ok (.iload_n 3, 1) := by decide +kernel
theorem dX10_join_186 : decode cX10_join 186 = .ok (.iconst 1, 1) := by decide +kernel
theorem dX10_join_187 : decode cX10_join 187 = .ok (.isub, 1) := by decide +kernel
theorem dX10_join_188 : decode cX10_join 188 = .ok (.iaload, 1) := by decide +kernel
theorem dX10_join_189 : decode cX10_join 189 = .ok (.aaload, 1) := by decide +kernel
theorem dX10_join_190 : decode cX10_join 190 = .ok (.iconst 0, 1) := by decide +kernel
theorem dX10_join_191 : decode cX10_join 191 = .ok (.iaload, 1) := by decide +kernel
theorem dX10_join_192 : decode cX10_join 192 = .ok (.bipush 10, 2) := by decide +kernel
theorem dX10_join_194 : decode cX10_join 194 = .ok (.if_icmp .eq 11, 3) := by decide +kernel
theorem dX10_join_197 : decode cX10_join 197 = .ok (.aload_n 2, 1) := by decide +kernel
theorem dX10_join_198 : decode cX10_join 198 = .ok (.iload_n 3, 1) := by decide +kernel
theorem dX10_join_199 : decode cX10_join 199 = .ok (.iconst 1, 1) := by decide +kernel
theorem dX10_join_200 : decode cX10_join 200 = .ok (.isub, 1) := by decide +kernel
theorem dX10_join_201 : decode cX10_join 201 = .ok (.iaload, 1) := by decide +kernel
theorem dX10_join_202 : decode cX10_join 202 = .ok (.ifCond .lt 6, 3) := by decide +kernel
theorem dX10_join_205 : decode cX10_join 205 = .ok (.iload 4, 2) := by decide +kernel
theorem dX10_join_207 : decode cX10_join 207 = .ok (.ireturn, 1) := by decide +kernel
theorem dX10_join_208 : decode cX10_join 208 = .ok (.iload 5, 2) := by decide +kernel
theorem dX10_join_210 : decode cX10_join 210 = .ok (.bipush 9, 2) := by decide +kernel
theorem dX10_join_212 : decode cX10_join 212 = .ok (.if_icmp .ne 13, 3) := by decide +kernel
theorem dX10_join_215 : decode cX10_join 215 = .ok (.aload_n 2, 1) := by decide +kernel
theorem dX10_join_216 : decode cX10_join 216 = .ok (.iload_n 3, 1) := by decide +kernel
theorem dX10_join_217 : decode cX10_join 217 = .ok (.iconst 1, 1) := by decide +kernel
theorem dX10_join_218 : decode cX10_join 218 = .ok (.isub, 1) := by decide +kernel
theorem dX10_join_219 : decode cX10_join 219 = .ok (.iload 4, 2) := by decide +kernel
theorem dX10_join_221 : decode cX10_join 221 = .ok (.iastore, 1) := by decide +kernel
theorem dX10_join_222 : decode cX10_join 222 = .ok (.goto 124, 3) := by decide +kernel
theorem dX10_join_225 : decode cX10_join 225 = .ok (.aload_n 1, 1) := by decide +kernel
theorem dX10_join_226 : decode cX10_join 226 = .ok (.iinc 3 (-1), 3) := by decide +kernel
theorem dX10_join_229 : decode cX10_join 229 = .ok (.iload_n 3, 1) := by decide +kernel
theorem dX10_join_230 : decode cX10_join 230 = .ok (.iaload, 1) := by decide +kernel
theorem dX10_join_231 : decode cX10_join 231 = .ok (.istore 6, 2) := by decide +kernel
theorem dX10_join_233 : decode cX10_join 233 = .ok (.aload_n 0, 1) := by decide +kernel
theorem dX10_join_234 : decode cX10_join 234 = .ok (.getfield 14, 3) := by decide +kernel
theorem dX10_join_237 : decode cX10_join 237 = .ok (.iload 6, 2) := by decide +kernel
theorem dX10_join_239 : decode cX10_join 239 = .ok (.aaload, 1) := by decide +kernel
theorem dX10_join_240 : decode cX10_join 240 = .ok (.iconst 0, 1) := by decide +kernel
theorem dX10_join_241 : decode cX10_join 241 = .ok (.iaload, 1) := by decide +kernel
theorem dX10_join_242 : decode cX10_join 242 = .ok (.bipush 10, 2) := by decide +kernel
theorem dX10_join_244 : decode cX10_join 244 = .ok (.if_icmp .ne 30, 3) := by decide +kernel
theorem dX10_join_247 : decode cX10_join 247 = .ok (.aload_n 0, 1) := by decide +kernel
theorem dX10_join_248 : decode cX10_join 248 = .ok (.getfield 18, 3) := by decide +kernel
theorem dX10_join_251 : decode cX10_join 251 = .ok (.iload 4, 2) := by decide +kernel
theorem dX10_join_253 : decode cX10_join 253 = .ok (.iconst 2, 1) := by decide +kernel
theorem dX10_join_254 : decode cX10_join 254 = .ok (.newarray .int, 2) := by decide +kernel
theorem dX10_join_256 : decode cX10_join 256 = .ok (.dup, 1) := by decide +kernel
theorem dX10_join_257 : decode cX10_join 257 = .ok (.iconst 0, 1) := by decide +kernel
theorem dX10_join_258 : decode cX10_join 258 = .ok (.iload 6, 2) := by decide +kernel
theorem dX10_join_260 : decode cX10_join 260 = .ok (.iconst 1, 1) := by decide +kernel
theorem dX10_join_261 : decode cX10_join 261 = .ok (.iadd, 1) := by decide +kernel
theorem dX10_join_262 : decode cX10_join 262 = .ok (.iastore, 1) := by decide +kernel
theorem dX10_join_263 : decode cX10_join 263 = .ok (.dup, 1) := by decide +kernel
theorem dX10_join_264 : decode cX10_join 264 = .ok (.iconst 1, 1) := by decide +kernel
theorem dX10_join_265 : decode cX10_join 265 = .ok (.iload 4, 2) := by decide +kernel
theorem dX10_join_267 : decode cX10_join 267 = .ok (.iconst 1, 1) := by decide +kernel
theorem dX10_join_268 : decode cX10_join 268 = .ok (.iadd, 1) := by decide +kernel
theorem dX10_join_269 : decode cX10_join 269 = .ok (.iastore, 1) := by decide +kernel
theorem dX10_join_270 : decode cX10_join 270 = .ok (.aastore, 1) := by decide +kernel
theorem dX10_join_271 : decode cX10_join 271 = .ok (.goto 39, 3) := by decide +kernel
theorem dX10_join_274 : decode cX10_join 274 = .ok (.aload_n 0, 1) := by decide +kernel
theorem dX10_join_275 : decode cX10_join 275 = .ok (.getfield 18, 3) := by decide +kernel
theorem dX10_join_278 : decode cX10_join 278 = .ok (.iload 6, 2) := by decide +kernel
theorem dX10_join_280 : decode cX10_join 280 = .ok (.iconst 2, 1) := by decide +kernel
theorem dX10_join_281 : decode cX10_join 281 = .ok (.newarray .int, 2) := by decide +kernel
theorem dX10_join_283 : decode cX10_join 283 = .ok (.dup, 1) := by decide +kernel
theorem dX10_join_284 : decode cX10_join 284 = .ok (.iconst 0, 1) := by decide +kernel
theorem dX10_join_285 : decode cX10_join 285 = .ok (.iload 6, 2) := by decide +kernel
theorem dX10_join_287 : decode cX10_join 287 = .ok (.iconst 1, 1) := by decide +kernel
theorem dX10_join_288 : decode cX10_join 288 = .ok (.iadd, 1) := by decide +kernel
theorem dX10_join_289 : decode cX10_join 289 = .ok (.iastore, 1) := by decide +kernel
theorem dX10_join_290 : decode cX10_join 290 = .ok (.dup, 1) := by decide +kernel
theorem dX10_join_291 : decode cX10_join 291 = .ok (.iconst 1, 1) := by decide +kernel
theorem dX10_join_292 : decode cX10_join 292 = .ok (.aload_n 2, 1) := by decide +kernel
theorem dX10_join_293 : decode cX10_join 293 = .ok (.iload_n 3, 1) := by decide +kernel
theorem dX10_join_294 : decode cX10_join 294 = .ok (.iaload, 1) := by decide +kernel
theorem dX10_join_295 : decode cX10_join 295 = .ok (.ifCond .ge 8, 3) := by decide +kernel
theorem dX10_join_298 : decode cX10_join 298 = .ok (.iload 4, 2) := by decide +kernel
theorem dX10_join_300 : decode cX10_join 300 = .ok (.goto 8, 3) := by decide +kernel
theorem dX10_join_303 : decode cX10_join 303 = .ok (.aload_n 2, 1) := by decide +kernel
theorem dX10_join_304 : decode cX10_join 304 = .ok (.iload_n 3, 1) := by decide +kernel
theorem dX10_join_305 : decode cX10_join 305 = .ok (.iaload, 1) := by decide +kernel
theorem dX10_join_306 : decode cX10_join 306 = .ok (.iconst 1, 1) := by decide +kernel
theorem dX10_join_307 : decode cX10_join 307 = .ok (.iadd, 1) := by decide +kernel
theorem dX10_join_308 : decode cX10_join 308 = .ok (.iastore, 1) := by decide +kernel
theorem dX10_join_309 : decode cX10_join 309 = .ok (.aastore, 1) := by decide +kernel
theorem dX10_join_310 : decode cX10_join 310 = .ok (.aload_n 0, 1) := by decide +kernel
theorem dX10_join_311 : decode cX10_join 311 = .ok (.getfield 14, 3) := by decide +kernel
theorem dX10_join_314 : decode cX10_join 314 = .ok (.iload 6, 2) := by decide +kernel
theorem dX10_join_316 : decode cX10_join 316 = .ok (.aaload, 1) := by decide +kernel
theorem dX10_join_317 : decode cX10_join 317 = .ok (.iconst 0, 1) := by decide +kernel
theorem dX10_join_318 : decode cX10_join 318 = .ok (.iaload, 1) := by decide +kernel
theorem dX10_join_319 : decode cX10_join 319 = .ok (.bipush 8, 2) := by decide +kernel
theorem dX10_join_321 : decode cX10_join 321 = .ok (.if_icmp .ne 25, 3) := by decide +kernel
theorem dX10_join_324 : decode cX10_join 324 = .ok (.aload_n 2, 1) := by decide +kernel
theorem dX10_join_325 : decode cX10_join 325 = .ok (.iload_n 3, 1) := by decide +kernel
theorem dX10_join_326 : decode cX10_join 326 = .ok (.iaload, 1) := by decide +kernel
theorem dX10_join_327 : decode cX10_join 327 = .ok (.ifCond .lt 19, 3) := by decide +kernel
theorem dX10_join_330 : decode cX10_join 330 = .ok (.aload_n 0, 1) := by decide +kernel
theorem dX10_join_331 : decode cX10_join 331 = .ok (.getfield 18, 3) := by decide +kernel
theorem dX10_join_334 : decode cX10_join 334 = .ok (.aload_n 2, 1) := by decide +kernel
theorem dX10_join_335 : decode cX10_join 335 = .ok (.iload_n 3, 1) := by decide +kernel
theorem dX10_join_336 : decode cX10_join 336 = .ok (.iaload, 1) := by decide +kernel
theorem dX10_join_337 : decode cX10_join 337 = .ok (.iconst 1, 1) := by decide +kernel
theorem dX10_join_338 : decode cX10_join 338 = .ok (.newarray .int, 2) := by decide +kernel
theorem dX10_join_340 : decode cX10_join 340 = .ok (.dup, 1) := by decide +kernel
theorem dX10_join_341 : decode cX10_join 341 = .ok (.iconst 0, 1) := by decide +kernel
theorem dX10_join_342 : decode cX10_join 342 = .ok (.iload 4, 2) := by decide +kernel
theorem dX10_join_344 : decode cX10_join 344 = .ok (.iastore, 1) := by decide +kernel
theorem dX10_join_345 : decode cX10_join 345 = .ok (.aastore, 1) := by decide +kernel
theorem dX10_join_346 : decode cX10_join 346 = .ok (.iinc 4 1, 3) := by decide +kernel
theorem dX10_join_349 : decode cX10_join 349 = .ok (.goto (-244), 3) := by decide +kernel
theorem dX10_join_352 : decode cX10_join 352 = .ok (.iload_n 3, 1) := by decide +kernel
theorem dX10_join_353 : decode cX10_join 353 = .ok (.ifCond .le 11, 3) := by decide +kernel
theorem dX10_join_356 : decode cX10_join 356 = .ok (.aload_n 1, 1) := by decide +kernel
theorem dX10_join_357 : decode cX10_join 357 = .ok (.iload_n 3, 1) := by decide +kernel
theorem dX10_join_358 : decode cX10_join 358 = .ok (.iconst 1, 1) := by decide +kernel
theorem dX10_join_359 : decode cX10_join 359 = .ok (.isub, 1) := by decide +kernel
theorem dX10_join_360 : decode cX10_join 360 = .ok (.iaload, 1) := by decide +kernel
theorem dX10_join_361 : decode cX10_join 361 = .ok (.goto 4, 3) := by decide +kernel
theorem dX10_join_364 : decode cX10_join 364 = .ok (.iconst (-1), 1) := by decide +kernel
theorem dX10_join_365 : decode cX10_join 365 = .ok (.ireturn, 1) := by decide +kernel
theorem dX10_loans_0 : decode cX10_loans 0 = .ok (.iconst 0, 1) := by decide +kernel
theorem dX10_loans_1 : decode cX10_loans 1 = .ok (.istore_n 1, 1) := by decide +kernel
theorem dX10_loans_2 : decode cX10_loans 2 = .ok (.aload_n 0, 1) := by decide +kernel
theorem dX10_loans_3 : decode cX10_loans 3 = .ok (.getfield 14, 3) := by decide +kernel
theorem dX10_loans_6 : decode cX10_loans 6 = .ok (.astore_n 2, 1) := by decide +kernel
theorem dX10_loans_7 : decode cX10_loans 7 = .ok (.aload_n 2, 1) := by decide +kernel
theorem dX10_loans_8 : decode cX10_loans 8 = .ok (.arraylength, 1) := by decide +kernel
theorem dX10_loans_9 : decode cX10_loans 9 = .ok (.istore_n 3, 1) := by decide +kernel
theorem dX10_loans_10 : decode cX10_loans 10 = .ok (.iconst 0, 1) := by decide +kernel
theorem dX10_loans_11 : decode cX10_loans 11 = .ok (.istore 4, 2) := by decide +kernel
theorem dX10_loans_13 : decode cX10_loans 13 = .ok (.iload 4, 2) := by decide +kernel
theorem dX10_loans_15 : decode cX10_loans 15 = .ok (.iload_n 3, 1) := by decide +kernel
theorem dX10_loans_16 : decode cX10_loans 16 = .ok (.if_icmp .ge 39, 3) := by decide +kernel
theorem dX10_loans_19 : decode cX10_loans 19 = .ok (.aload_n 2, 1) := by decide +kernel
theorem dX10_loans_20 : decode cX10_loans 20 = .ok (.iload 4, 2) := by decide +kernel
theorem dX10_loans_22 : decode cX10_loans 22 = .ok (.aaload, 1) := by decide +kernel
theorem dX10_loans_23 : decode cX10_loans 23 = .ok (.astore 5, 2) := by decide +kernel
theorem dX10_loans_25 : decode cX10_loans 25 = .ok (.iload_n 1, 1) := by decide +kernel
theorem dX10_loans_26 : decode cX10_loans 26 = .ok (.aload 5, 2) := by decide +kernel
theorem dX10_loans_28 : decode cX10_loans 28 = .ok (.iconst 0, 1) := by decide +kernel
theorem dX10_loans_29 : decode cX10_loans 29 = .ok (.iaload, 1) := by decide +kernel
theorem dX10_loans_30 : decode cX10_loans 30 = .ok (.iconst 3, 1) := by decide +kernel
theorem dX10_loans_31 : decode cX10_loans 31 = .ok (.if_icmp .eq 11, 3) := by decide +kernel
theorem dX10_loans_34 : decode cX10_loans 34 = .ok (.aload 5, 2) := by decide +kernel
theorem dX10_loans_36 : decode cX10_loans 36 = .ok (.iconst 0, 1) := by decide +kernel
theorem dX10_loans_37 : decode cX10_loans 37 = .ok (.iaload, 1) := by decide +kernel
theorem dX10_loans_38 : decode cX10_loans 38 = .ok (.iconst 4, 1) := by decide +kernel
theorem dX10_loans_39 : decode cX10_loans 39 = .ok (.if_icmp .ne 7, 3) := by decide +kernel
theorem dX10_loans_42 : decode cX10_loans 42 = .ok (.iconst 1, 1) := by decide +kernel
theorem dX10_loans_43 : decode cX10_loans 43 = .ok (.goto 4, 3) := by decide +kernel
theorem dX10_loans_46 : decode cX10_loans 46 = .ok (.iconst 0, 1) := by decide +kernel
theorem dX10_loans_47 : decode cX10_loans 47 = .ok (.iadd, 1) := by decide +kernel
theorem dX10_loans_48 : decode cX10_loans 48 = .ok (.istore_n 1, 1) := by decide +kernel
theorem dX10_loans_49 : decode cX10_loans 49 = .ok (.iinc 4 1, 3) := by decide +kernel
theorem dX10_loans_52 : decode cX10_loans 52 = .ok (.goto (-39), 3) := by decide +kernel
theorem dX10_loans_55 : decode cX10_loans 55 = .ok (.iload_n 1, 1) := by decide +kernel
theorem dX10_loans_56 : decode cX10_loans 56 = .ok (.ireturn, 1) := by decide +kernel
theorem dJ6_numberOfTrailingZeros_0f7a4_0 : decode cJ6_numberOfTrailingZeros_0f7a4 0 = .ok (.iload_n 0, 1) := by decide +kernel
theorem dJ6_numberOfTrailingZeros_0f7a4_1 : decode cJ6_numberOfTrailingZeros_0f7a4 1 = .ok (.iconst (-1), 1) := by decide +kernel
theorem dJ6_numberOfTrailingZeros_0f7a4_2 : decode cJ6_numberOfTrailingZeros_0f7a4 2 = .ok (.ixor, 1) := by decide +kernel
theorem dJ6_numberOfTrailingZeros_0f7a4_3 : decode cJ6_numberOfTrailingZeros_0f7a4 3 = .ok (.iload_n 0, 1) := by decide +kernel
theorem dJ6_numberOfTrailingZeros_0f7a4_4 : decode cJ6_numberOfTrailingZeros_0f7a4 4 = .ok (.iconst 1, 1) := by decide +kernel
theorem dJ6_numberOfTrailingZeros_0f7a4_5 : decode cJ6_numberOfTrailingZeros_0f7a4 5 = .ok (.isub, 1) := by decide +kernel
theorem dJ6_numberOfTrailingZeros_0f7a4_6 : decode cJ6_numberOfTrailingZeros_0f7a4 6 = .ok (.iand, 1) := by decide +kernel
theorem dJ6_numberOfTrailingZeros_0f7a4_7 : decode cJ6_numberOfTrailingZeros_0f7a4 7 = .ok (.istore_n 0, 1) := by decide +kernel
theorem dJ6_numberOfTrailingZeros_0f7a4_8 : decode cJ6_numberOfTrailingZeros_0f7a4 8 = .ok (.iload_n 0, 1) := by decide +kernel
theorem dJ6_numberOfTrailingZeros_0f7a4_9 : decode cJ6_numberOfTrailingZeros_0f7a4 9 = .ok (.ifCond .gt 8, 3) := by decide +kernel
theorem dJ6_numberOfTrailingZeros_0f7a4_12 : decode cJ6_numberOfTrailingZeros_0f7a4 12 = .ok (.iload_n 0, 1) := by decide +kernel
theorem dJ6_numberOfTrailingZeros_0f7a4_13 : decode cJ6_numberOfTrailingZeros_0f7a4 13 = .ok (.bipush 32, 2) := by decide +kernel
theorem dJ6_numberOfTrailingZeros_0f7a4_15 : decode cJ6_numberOfTrailingZeros_0f7a4 15 = .ok (.iand, 1) := by decide +kernel
theorem dJ6_numberOfTrailingZeros_0f7a4_16 : decode cJ6_numberOfTrailingZeros_0f7a4 16 = .ok (.ireturn, 1) := by decide +kernel
theorem dJ6_numberOfTrailingZeros_0f7a4_17 : decode cJ6_numberOfTrailingZeros_0f7a4 17 = .ok (.iconst 1, 1) := by decide +kernel
theorem dJ6_numberOfTrailingZeros_0f7a4_18 : decode cJ6_numberOfTrailingZeros_0f7a4 18 = .ok (.istore_n 1, 1) := by decide +kernel
theorem dJ6_numberOfTrailingZeros_0f7a4_19 : decode cJ6_numberOfTrailingZeros_0f7a4 19 = .ok (.iload_n 0, 1) := by decide +kernel
theorem dJ6_numberOfTrailingZeros_0f7a4_20 : decode cJ6_numberOfTrailingZeros_0f7a4 20 = .ok (.ldc_w 264, 3) := by decide +kernel
theorem dJ6_numberOfTrailingZeros_0f7a4_23 : decode cJ6_numberOfTrailingZeros_0f7a4 23 = .ok (.if_icmp .le 11, 3) := by decide +kernel
theorem dJ6_numberOfTrailingZeros_0f7a4_26 : decode cJ6_numberOfTrailingZeros_0f7a4 26 = .ok (.iinc 1 16, 3) := by decide +kernel
theorem dJ6_numberOfTrailingZeros_0f7a4_29 : decode cJ6_numberOfTrailingZeros_0f7a4 29 = .ok (.iload_n 0, 1) := by decide +kernel
theorem dJ6_numberOfTrailingZeros_0f7a4_30 : decode cJ6_numberOfTrailingZeros_0f7a4 30 = .ok (.bipush 16, 2) := by decide +kernel
theorem dJ6_numberOfTrailingZeros_0f7a4_32 : decode cJ6_numberOfTrailingZeros_0f7a4 32 = .ok (.iushr, 1) := by decide +kernel
theorem dJ6_numberOfTrailingZeros_0f7a4_33 : decode cJ6_numberOfTrailingZeros_0f7a4 33 = .ok (.istore_n 0, 1) := by decide +kernel
theorem dJ6_numberOfTrailingZeros_0f7a4_34 : decode cJ6_numberOfTrailingZeros_0f7a4 34 = .ok (.iload_n 0, 1) := by decide +kernel
theorem dJ6_numberOfTrailingZeros_0f7a4_35 : decode cJ6_numberOfTrailingZeros_0f7a4 35 = .ok (.sipush 256, 3) := by decide +kernel
theorem dJ6_numberOfTrailingZeros_0f7a4_38 : decode cJ6_numberOfTrailingZeros_0f7a4 38 = .ok (.if_icmp .le 11, 3) := by decide +kernel
theorem dJ6_numberOfTrailingZeros_0f7a4_41 : decode cJ6_numberOfTrailingZeros_0f7a4 41 = .ok (.iinc 1 8, 3) := by decide +kernel
theorem dJ6_numberOfTrailingZeros_0f7a4_44 : decode cJ6_numberOfTrailingZeros_0f7a4 44 = .ok (.iload_n 0, 1) := by decide +kernel
theorem dJ6_numberOfTrailingZeros_0f7a4_45 : decode cJ6_numberOfTrailingZeros_0f7a4 45 = .ok (.bipush 8, 2) := by decide +kernel
theorem dJ6_numberOfTrailingZeros_0f7a4_47 : decode cJ6_numberOfTrailingZeros_0f7a4 47 = .ok (.iushr, 1) := by decide +kernel
theorem dJ6_numberOfTrailingZeros_0f7a4_48 : decode cJ6_numberOfTrailingZeros_0f7a4 48 = .ok (.istore_n 0, 1) := by decide +kernel
theorem dJ6_numberOfTrailingZeros_0f7a4_49 : decode cJ6_numberOfTrailingZeros_0f7a4 49 = .ok (.iload_n 0, 1) := by decide +kernel
theorem dJ6_numberOfTrailingZeros_0f7a4_50 : decode cJ6_numberOfTrailingZeros_0f7a4 50 = .ok (.bipush 16, 2) := by decide +kernel
theorem dJ6_numberOfTrailingZeros_0f7a4_52 : decode cJ6_numberOfTrailingZeros_0f7a4 52 = .ok (.if_icmp .le 10, 3) := by decide +kernel
theorem dJ6_numberOfTrailingZeros_0f7a4_55 : decode cJ6_numberOfTrailingZeros_0f7a4 55 = .ok (.iinc 1 4, 3) := by decide +kernel
theorem dJ6_numberOfTrailingZeros_0f7a4_58 : decode cJ6_numberOfTrailingZeros_0f7a4 58 = .ok (.iload_n 0, 1) := by decide +kernel
theorem dJ6_numberOfTrailingZeros_0f7a4_59 : decode cJ6_numberOfTrailingZeros_0f7a4 59 = .ok (.iconst 4, 1) := by decide +kernel
theorem dJ6_numberOfTrailingZeros_0f7a4_60 : decode cJ6_numberOfTrailingZeros_0f7a4 60 = .ok (.iushr, 1) := by decide +kernel
theorem dJ6_numberOfTrailingZeros_0f7a4_61 : decode cJ6_numberOfTrailingZeros_0f7a4 61 = .ok (.istore_n 0, 1) := by decide +kernel
theorem dJ6_numberOfTrailingZeros_0f7a4_62 : decode cJ6_numberOfTrailingZeros_0f7a4 62 = .ok (.iload_n 0, 1) := by decide +kernel
theorem dJ6_numberOfTrailingZeros_0f7a4_63 : decode cJ6_numberOfTrailingZeros_0f7a4 63 = .ok (.iconst 4, 1) := by decide +kernel
theorem dJ6_numberOfTrailingZeros_0f7a4_64 : decode cJ6_numberOfTrailingZeros_0f7a4 64 = .ok (.if_icmp .le 10, 3) := by decide +kernel
theorem dJ6_numberOfTrailingZeros_0f7a4_67 : decode cJ6_numberOfTrailingZeros_0f7a4 67 = .ok (.iinc 1 2, 3) := by decide +kernel
theorem dJ6_numberOfTrailingZeros_0f7a4_70 : decode cJ6_numberOfTrailingZeros_0f7a4 70 = .ok (.iload_n 0, 1) := by decide +kernel
theorem dJ6_numberOfTrailingZeros_0f7a4_71 : decode cJ6_numberOfTrailingZeros_0f7a4 71 = .ok (.iconst 2, 1) := by decide +kernel
theorem dJ6_numberOfTrailingZeros_0f7a4_72 : decode cJ6_numberOfTrailingZeros_0f7a4 72 = .ok (.iushr, 1) := by decide +kernel
theorem dJ6_numberOfTrailingZeros_0f7a4_73 : decode cJ6_numberOfTrailingZeros_0f7a4 73 = .ok (.istore_n 0, 1) := by decide +kernel
theorem dJ6_numberOfTrailingZeros_0f7a4_74 : decode cJ6_numberOfTrailingZeros_0f7a4 74 = .ok (.iload_n 1, 1) := by decide +kernel
theorem dJ6_numberOfTrailingZeros_0f7a4_75 : decode cJ6_numberOfTrailingZeros_0f7a4 75 = .ok (.iload_n 0, 1) := by decide +kernel
theorem dJ6_numberOfTrailingZeros_0f7a4_76 : decode cJ6_numberOfTrailingZeros_0f7a4 76 = .ok (.iconst 1, 1) := by decide +kernel
theorem dJ6_numberOfTrailingZeros_0f7a4_77 : decode cJ6_numberOfTrailingZeros_0f7a4 77 = .ok (.iushr, 1) := by decide +kernel
theorem dJ6_numberOfTrailingZeros_0f7a4_78 : decode cJ6_numberOfTrailingZeros_0f7a4 78 = .ok (.iadd, 1) := by decide +kernel
theorem dJ6_numberOfTrailingZeros_0f7a4_79 : decode cJ6_numberOfTrailingZeros_0f7a4 79 = .ok (.ireturn, 1) := by decide +kernel
theorem dJ6_bitCount_0f7a4_0 : decode cJ6_bitCount_0f7a4 0 = .ok (.iload_n 0, 1) := by decide +kernel
theorem dJ6_bitCount_0f7a4_1 : decode cJ6_bitCount_0f7a4 1 = .ok (.iload_n 0, 1) := by decide +kernel
theorem dJ6_bitCount_0f7a4_2 : decode cJ6_bitCount_0f7a4 2 = .ok (.iconst 1, 1) := by decide +kernel
theorem dJ6_bitCount_0f7a4_3 : decode cJ6_bitCount_0f7a4 3 = .ok (.iushr, 1) := by decide +kernel
theorem dJ6_bitCount_0f7a4_4 : decode cJ6_bitCount_0f7a4 4 = .ok (.ldc_w 265, 3) := by decide +kernel
theorem dJ6_bitCount_0f7a4_7 : decode cJ6_bitCount_0f7a4 7 = .ok (.iand, 1) := by decide +kernel
theorem dJ6_bitCount_0f7a4_8 : decode cJ6_bitCount_0f7a4 8 = .ok (.isub, 1) := by decide +kernel
theorem dJ6_bitCount_0f7a4_9 : decode cJ6_bitCount_0f7a4 9 = .ok (.istore_n 0, 1) := by decide +kernel
theorem dJ6_bitCount_0f7a4_10 : decode cJ6_bitCount_0f7a4 10 = .ok (.iload_n 0, 1) := by decide +kernel
theorem dJ6_bitCount_0f7a4_11 : decode cJ6_bitCount_0f7a4 11 = .ok (.ldc_w 266, 3) := by decide +kernel
theorem dJ6_bitCount_0f7a4_14 : decode cJ6_bitCount_0f7a4 14 = .ok (.iand, 1) := by decide +kernel
theorem dJ6_bitCount_0f7a4_15 : decode cJ6_bitCount_0f7a4 15 = .ok (.iload_n 0, 1) := by decide +kernel
theorem dJ6_bitCount_0f7a4_16 : decode cJ6_bitCount_0f7a4 16 = .ok (.iconst 2, 1) := by decide +kernel
theorem dJ6_bitCount_0f7a4_17 : decode cJ6_bitCount_0f7a4 17 = .ok (.iushr, 1) := by decide +kernel
theorem dJ6_bitCount_0f7a4_18 : decode cJ6_bitCount_0f7a4 18 = .ok (.ldc_w 266, 3) := by decide +kernel
theorem dJ6_bitCount_0f7a4_21 : decode cJ6_bitCount_0f7a4 21 = .ok (.iand, 1) := by decide +kernel
theorem dJ6_bitCount_0f7a4_22 : decode cJ6_bitCount_0f7a4 22 = .ok (.iadd, 1) := by decide +kernel
theorem dJ6_bitCount_0f7a4_23 : decode cJ6_bitCount_0f7a4 23 = .ok (.istore_n 0, 1) := by decide +kernel
theorem dJ6_bitCount_0f7a4_24 : decode cJ6_bitCount_0f7a4 24 = .ok (.iload_n 0, 1) := by decide +kernel
theorem dJ6_bitCount_0f7a4_25 : decode cJ6_bitCount_0f7a4 25 = .ok (.iload_n 0, 1) := by decide +kernel
theorem dJ6_bitCount_0f7a4_26 : decode cJ6_bitCount_0f7a4 26 = .ok (.iconst 4, 1) := by decide +kernel
theorem dJ6_bitCount_0f7a4_27 : decode cJ6_bitCount_0f7a4 27 = .ok (.iushr, 1) := by decide +kernel
theorem dJ6_bitCount_0f7a4_28 : decode cJ6_bitCount_0f7a4 28 = .ok (.iadd, 1) := by decide +kernel
theorem dJ6_bitCount_0f7a4_29 : decode cJ6_bitCount_0f7a4 29 = .ok (.ldc_w 267, 3) := by decide +kernel
theorem dJ6_bitCount_0f7a4_32 : decode cJ6_bitCount_0f7a4 32 = .ok (.iand, 1) := by decide +kernel
theorem dJ6_bitCount_0f7a4_33 : decode cJ6_bitCount_0f7a4 33 = .ok (.istore_n 0, 1) := by decide +kernel
theorem dJ6_bitCount_0f7a4_34 : decode cJ6_bitCount_0f7a4 34 = .ok (.iload_n 0, 1) := by decide +kernel
theorem dJ6_bitCount_0f7a4_35 : decode cJ6_bitCount_0f7a4 35 = .ok (.iload_n 0, 1) := by decide +kernel
theorem dJ6_bitCount_0f7a4_36 : decode cJ6_bitCount_0f7a4 36 = .ok (.bipush 8, 2) := by decide +kernel
theorem dJ6_bitCount_0f7a4_38 : decode cJ6_bitCount_0f7a4 38 = .ok (.iushr, 1) := by decide +kernel
theorem dJ6_bitCount_0f7a4_39 : decode cJ6_bitCount_0f7a4 39 = .ok (.iadd, 1) := by decide +kernel
theorem dJ6_bitCount_0f7a4_40 : decode cJ6_bitCount_0f7a4 40 = .ok (.istore_n 0, 1) := by decide +kernel
theorem dJ6_bitCount_0f7a4_41 : decode cJ6_bitCount_0f7a4 41 = .ok (.iload_n 0, 1) := by decide +kernel
theorem dJ6_bitCount_0f7a4_42 : decode cJ6_bitCount_0f7a4 42 = .ok (.iload_n 0, 1) := by decide +kernel
theorem dJ6_bitCount_0f7a4_43 : decode cJ6_bitCount_0f7a4 43 = .ok (.bipush 16, 2) := by decide +kernel
theorem dJ6_bitCount_0f7a4_45 : decode cJ6_bitCount_0f7a4 45 = .ok (.iushr, 1) := by decide +kernel
theorem dJ6_bitCount_0f7a4_46 : decode cJ6_bitCount_0f7a4 46 = .ok (.iadd, 1) := by decide +kernel
theorem dJ6_bitCount_0f7a4_47 : decode cJ6_bitCount_0f7a4 47 = .ok (.istore_n 0, 1) := by decide +kernel
theorem dJ6_bitCount_0f7a4_48 : decode cJ6_bitCount_0f7a4 48 = .ok (.iload_n 0, 1) := by decide +kernel
theorem dJ6_bitCount_0f7a4_49 : decode cJ6_bitCount_0f7a4 49 = .ok (.bipush 63, 2) := by decide +kernel
theorem dJ6_bitCount_0f7a4_51 : decode cJ6_bitCount_0f7a4 51 = .ok (.iand, 1) := by decide +kernel
theorem dJ6_bitCount_0f7a4_52 : decode cJ6_bitCount_0f7a4 52 = .ok (.ireturn, 1) := by decide +kernel
theorem dJ9_max_7cf53_0 : decode cJ9_max_7cf53 0 = .ok (.iload_n 0, 1) := by decide +kernel
theorem dJ9_max_7cf53_1 : decode cJ9_max_7cf53 1 = .ok (.iload_n 1, 1) := by decide +kernel
theorem dJ9_max_7cf53_2 : decode cJ9_max_7cf53 2 = .ok (.if_icmp .lt 7, 3) := by decide +kernel
theorem dJ9_max_7cf53_5 : decode cJ9_max_7cf53 5 = .ok (.iload_n 0, 1) := by decide +kernel
theorem dJ9_max_7cf53_6 : decode cJ9_max_7cf53 6 = .ok (.goto 4, 3) := by decide +kernel
theorem dJ9_max_7cf53_9 : decode cJ9_max_7cf53 9 = .ok (.iload_n 1, 1) := by decide +kernel
theorem dJ9_max_7cf53_10 : decode cJ9_max_7cf53 10 = .ok (.ireturn, 1) := by decide +kernel
theorem dJ9_min_7cf53_0 : decode cJ9_min_7cf53 0 = .ok (.iload_n 0, 1) := by decide +kernel
theorem dJ9_min_7cf53_1 : decode cJ9_min_7cf53 1 = .ok (.iload_n 1, 1) := by decide +kernel
theorem dJ9_min_7cf53_2 : decode cJ9_min_7cf53 2 = .ok (.if_icmp .gt 7, 3) := by decide +kernel
theorem dJ9_min_7cf53_5 : decode cJ9_min_7cf53 5 = .ok (.iload_n 0, 1) := by decide +kernel
theorem dJ9_min_7cf53_6 : decode cJ9_min_7cf53 6 = .ok (.goto 4, 3) := by decide +kernel
theorem dJ9_min_7cf53_9 : decode cJ9_min_7cf53 9 = .ok (.iload_n 1, 1) := by decide +kernel
theorem dJ9_min_7cf53_10 : decode cJ9_min_7cf53 10 = .ok (.ireturn, 1) := by decide +kernel
theorem dJ7_fill_53178_0 : decode cJ7_fill_53178 0 = .ok (.iconst 0, 1) := by decide +kernel
theorem dJ7_fill_53178_1 : decode cJ7_fill_53178 1 = .ok (.istore_n 2, 1) := by decide +kernel
theorem dJ7_fill_53178_2 : decode cJ7_fill_53178 2 = .ok (.aload_n 0, 1) := by decide +kernel
theorem dJ7_fill_53178_3 : decode cJ7_fill_53178 3 = .ok (.arraylength, 1) := by decide +kernel
theorem dJ7_fill_53178_4 : decode cJ7_fill_53178 4 = .ok (.istore_n 3, 1) := by decide +kernel
theorem dJ7_fill_53178_5 : decode cJ7_fill_53178 5 = .ok (.iload_n 2, 1) := by decide +kernel
theorem dJ7_fill_53178_6 : decode cJ7_fill_53178 6 = .ok (.iload_n 3, 1) := by decide +kernel
theorem dJ7_fill_53178_7 : decode cJ7_fill_53178 7 = .ok (.if_icmp .ge 13, 3) := by decide +kernel
theorem dJ7_fill_53178_10 : decode cJ7_fill_53178 10 = .ok (.aload_n 0, 1) := by decide +kernel
theorem dJ7_fill_53178_11 : decode cJ7_fill_53178 11 = .ok (.iload_n 2, 1) := by decide +kernel
theorem dJ7_fill_53178_12 : decode cJ7_fill_53178 12 = .ok (.iload_n 1, 1) := by decide +kernel
theorem dJ7_fill_53178_13 : decode cJ7_fill_53178 13 = .ok (.iastore, 1) := by decide +kernel
theorem dJ7_fill_53178_14 : decode cJ7_fill_53178 14 = .ok (.iinc 2 1, 3) := by decide +kernel
theorem dJ7_fill_53178_17 : decode cJ7_fill_53178 17 = .ok (.goto (-12), 3) := by decide +kernel
theorem dJ7_fill_53178_20 : decode cJ7_fill_53178 20 = .ok (.return_, 1) := by decide +kernel
theorem dL_below_0 : decode cL_below 0 = .ok (.iload_n 0, 1) := by decide +kernel
theorem dL_below_1 : decode cL_below 1 = .ok (.ldc 7, 2) := by decide +kernel
theorem dL_below_3 : decode cL_below 3 = .ok (.iand, 1) := by decide +kernel
theorem dL_below_4 : decode cL_below 4 = .ok (.iload_n 1, 1) := by decide +kernel
theorem dL_below_5 : decode cL_below 5 = .ok (.irem, 1) := by decide +kernel
theorem dL_below_6 : decode cL_below 6 = .ok (.ireturn, 1) := by decide +kernel
theorem dL_cell_0 : decode cL_cell 0 = .ok (.iload_n 1, 1) := by decide +kernel
theorem dL_cell_1 : decode cL_cell 1 = .ok (.aload_n 0, 1) := by decide +kernel
theorem dL_cell_2 : decode cL_cell 2 = .ok (.arraylength, 1) := by decide +kernel
theorem dL_cell_3 : decode cL_cell 3 = .ok (.if_icmp .ge 9, 3) := by decide +kernel
theorem dL_cell_6 : decode cL_cell 6 = .ok (.aload_n 0, 1) := by decide +kernel
theorem dL_cell_7 : decode cL_cell 7 = .ok (.iload_n 1, 1) := by decide +kernel
theorem dL_cell_8 : decode cL_cell 8 = .ok (.iaload, 1) := by decide +kernel
theorem dL_cell_9 : decode cL_cell 9 = .ok (.goto 9, 3) := by decide +kernel
theorem dL_cell_12 : decode cL_cell 12 = .ok (.ldc 8, 2) := by decide +kernel
theorem dL_cell_14 : decode cL_cell 14 = .ok (.iload_n 1, 1) := by decide +kernel
theorem dL_cell_15 : decode cL_cell 15 = .ok (.iconst 3, 1) := by decide +kernel
theorem dL_cell_16 : decode cL_cell 16 = .ok (.iadd, 1) := by decide +kernel
theorem dL_cell_17 : decode cL_cell 17 = .ok (.imul, 1) := by decide +kernel
theorem dL_cell_18 : decode cL_cell 18 = .ok (.ireturn, 1) := by decide +kernel
theorem dL_add_0 : decode cL_add 0 = .ok (.aload_n 1, 1) := by decide +kernel
theorem dL_add_1 : decode cL_add 1 = .ok (.getfield 9, 3) := by decide +kernel
theorem dL_add_4 : decode cL_add 4 = .ok (.arraylength, 1) := by decide +kernel
theorem dL_add_5 : decode cL_add 5 = .ok (.bipush 32, 2) := by decide +kernel
theorem dL_add_7 : decode cL_add 7 = .ok (.if_icmp .eq 22, 3) := by decide +kernel
theorem dL_add_10 : decode cL_add 10 = .ok (.iload_n 2, 1) := by decide +kernel
theorem dL_add_11 : decode cL_add 11 = .ok (.iconst 3, 1) := by decide +kernel
theorem dL_add_12 : decode cL_add 12 = .ok (.if_icmp .eq 8, 3) := by decide +kernel
theorem dL_add_15 : decode cL_add 15 = .ok (.iload_n 2, 1) := by decide +kernel
theorem dL_add_16 : decode cL_add 16 = .ok (.iconst 4, 1) := by decide +kernel
theorem dL_add_17 : decode cL_add 17 = .ok (.if_icmp .ne 14, 3) := by decide +kernel
theorem dL_add_20 : decode cL_add 20 = .ok (.aload_n 1, 1) := by decide +kernel
theorem dL_add_21 : decode cL_add 21 = .ok (.invokevirtual 15, 3) := by decide +kernel
theorem dL_add_24 : decode cL_add 24 = .ok (.bipush 16, 2) := by decide +kernel
theorem dL_add_26 : decode cL_add 26 = .ok (.if_icmp .ne 5, 3) := by decide +kernel
theorem dL_add_29 : decode cL_add 29 = .ok (.iconst 1, 1) := by decide +kernel
theorem dL_add_30 : decode cL_add 30 = .ok (.ireturn, 1) := by decide +kernel
theorem dL_add_31 : decode cL_add 31 = .ok (.aload_n 1, 1) := by decide +kernel
theorem dL_add_32 : decode cL_add 32 = .ok (.aload_n 1, 1) := by decide +kernel
theorem dL_add_33 : decode cL_add 33 = .ok (.getfield 9, 3) := by decide +kernel
theorem dL_add_36 : decode cL_add 36 = .ok (.iconst 3, 1) := by decide +kernel
theorem dL_add_37 : decode cL_add 37 = .ok (.newarray .int, 2) := by decide +kernel
theorem dL_add_39 : decode cL_add 39 = .ok (.dup, 1) := by decide +kernel
theorem dL_add_40 : decode cL_add 40 = .ok (.iconst 0, 1) := by decide +kernel
theorem dL_add_41 : decode cL_add 41 = .ok (.iload_n 2, 1) := by decide +kernel
theorem dL_add_42 : decode cL_add 42 = .ok (.iastore, 1) := by decide +kernel
theorem dL_add_43 : decode cL_add 43 = .ok (.dup, 1) := by decide +kernel
theorem dL_add_44 : decode cL_add 44 = .ok (.iconst 1, 1) := by decide +kernel
theorem dL_add_45 : decode cL_add 45 = .ok (.iload_n 3, 1) := by decide +kernel
theorem dL_add_46 : decode cL_add 46 = .ok (.iastore, 1) := by decide +kernel
theorem dL_add_47 : decode cL_add 47 = .ok (.dup, 1) := by decide +kernel
theorem dL_add_48 : decode cL_add 48 = .ok (.iconst 2, 1) := by decide +kernel
theorem dL_add_49 : decode cL_add 49 = .ok (.iload 4, 2) := by decide +kernel
theorem dL_add_51 : decode cL_add 51 = .ok (.iastore, 1) := by decide +kernel
theorem dL_add_52 : decode cL_add 52 = .ok (.invokestatic 19, 3) := by decide +kernel
theorem dL_add_55 : decode cL_add 55 = .ok (.putfield 9, 3) := by decide +kernel
theorem dL_add_58 : decode cL_add 58 = .ok (.aload_n 0, 1) := by decide +kernel
theorem dL_add_59 : decode cL_add 59 = .ok (.iload_n 2, 1) := by decide +kernel
theorem dL_add_60 : decode cL_add 60 = .ok (.iload_n 3, 1) := by decide +kernel
theorem dL_add_61 : decode cL_add 61 = .ok (.iload 4, 2) := by decide +kernel
theorem dL_add_63 : decode cL_add 63 = .ok (.invokevirtual 23, 3) := by decide +kernel
theorem dL_add_66 : decode cL_add 66 = .ok (.aload_n 1, 1) := by decide +kernel
theorem dL_add_67 : decode cL_add 67 = .ok (.getfield 9, 3) := by decide +kernel
theorem dL_add_70 : decode cL_add 70 = .ok (.arraylength, 1) := by decide +kernel
theorem dL_add_71 : decode cL_add 71 = .ok (.iconst 1, 1) := by decide +kernel
theorem dL_add_72 : decode cL_add 72 = .ok (.isub, 1) := by decide +kernel
theorem dL_add_73 : decode cL_add 73 = .ok (.if_icmp .ne 7, 3) := by decide +kernel
theorem dL_add_76 : decode cL_add 76 = .ok (.iconst 1, 1) := by decide +kernel
theorem dL_add_77 : decode cL_add 77 = .ok (.goto 4, 3) := by decide +kernel
theorem dL_add_80 : decode cL_add 80 = .ok (.iconst 0, 1) := by decide +kernel
theorem dL_add_81 : decode cL_add 81 = .ok (.ireturn, 1) := by decide +kernel
theorem dL_tell_0 : decode cL_tell 0 = .ok (.aload_n 1, 1) := by decide +kernel
theorem dL_tell_1 : decode cL_tell 1 = .ok (.bipush 8, 2) := by decide +kernel
theorem dL_tell_3 : decode cL_tell 3 = .ok (.newarray .int, 2) := by decide +kernel
theorem dL_tell_5 : decode cL_tell 5 = .ok (.dup, 1) := by decide +kernel
theorem dL_tell_6 : decode cL_tell 6 = .ok (.iconst 0, 1) := by decide +kernel
theorem dL_tell_7 : decode cL_tell 7 = .ok (.iconst 0, 1) := by decide +kernel
theorem dL_tell_8 : decode cL_tell 8 = .ok (.iastore, 1) := by decide +kernel
theorem dL_tell_9 : decode cL_tell 9 = .ok (.dup, 1) := by decide +kernel
theorem dL_tell_10 : decode cL_tell 10 = .ok (.iconst 1, 1) := by decide +kernel
theorem dL_tell_11 : decode cL_tell 11 = .ok (.iconst 0, 1) := by decide +kernel
theorem dL_tell_12 : decode cL_tell 12 = .ok (.iastore, 1) := by decide +kernel
theorem dL_tell_13 : decode cL_tell 13 = .ok (.dup, 1) := by decide +kernel
theorem dL_tell_14 : decode cL_tell 14 = .ok (.iconst 2, 1) := by decide +kernel
theorem dL_tell_15 : decode cL_tell 15 = .ok (.iconst 1, 1) := by decide +kernel
theorem dL_tell_16 : decode cL_tell 16 = .ok (.iastore, 1) := by decide +kernel
theorem dL_tell_17 : decode cL_tell 17 = .ok (.dup, 1) := by decide +kernel
theorem dL_tell_18 : decode cL_tell 18 = .ok (.iconst 3, 1) := by decide +kernel
theorem dL_tell_19 : decode cL_tell 19 = .ok (.iconst 2, 1) := by decide +kernel
theorem dL_tell_20 : decode cL_tell 20 = .ok (.iastore, 1) := by decide +kernel
theorem dL_tell_21 : decode cL_tell 21 = .ok (.dup, 1) := by decide +kernel
theorem dL_tell_22 : decode cL_tell 22 = .ok (.iconst 4, 1) := by decide +kernel
theorem dL_tell_23 : decode cL_tell 23 = .ok (.iconst 3, 1) := by decide +kernel
theorem dL_tell_24 : decode cL_tell 24 = .ok (.iastore, 1) := by decide +kernel
theorem dL_tell_25 : decode cL_tell 25 = .ok (.dup, 1) := by decide +kernel
theorem dL_tell_26 : decode cL_tell 26 = .ok (.iconst 5, 1) := by decide +kernel
theorem dL_tell_27 : decode cL_tell 27 = .ok (.iconst 4, 1) := by decide +kernel
theorem dL_tell_28 : decode cL_tell 28 = .ok (.iastore, 1) := by decide +kernel
theorem dL_tell_29 : decode cL_tell 29 = .ok (.dup, 1) := by decide +kernel
theorem dL_tell_30 : decode cL_tell 30 = .ok (.bipush 6, 2) := by decide +kernel
theorem dL_tell_32 : decode cL_tell 32 = .ok (.iconst 5, 1) := by decide +kernel
theorem dL_tell_33 : decode cL_tell 33 = .ok (.iastore, 1) := by decide +kernel
theorem dL_tell_34 : decode cL_tell 34 = .ok (.dup, 1) := by decide +kernel
theorem dL_tell_35 : decode cL_tell 35 = .ok (.bipush 7, 2) := by decide +kernel
theorem dL_tell_37 : decode cL_tell 37 = .ok (.iload_n 2, 1) := by decide +kernel
theorem dL_tell_38 : decode cL_tell 38 = .ok (.bipush 6, 2) := by decide +kernel
theorem dL_tell_40 : decode cL_tell 40 = .ok (.invokestatic 29, 3) := by decide +kernel
theorem dL_tell_43 : decode cL_tell 43 = .ok (.iastore, 1) := by decide +kernel
theorem dL_tell_44 : decode cL_tell 44 = .ok (.putfield 35, 3) := by decide +kernel
theorem dL_tell_47 : decode cL_tell 47 = .ok (.iconst 0, 1) := by decide +kernel
theorem dL_tell_48 : decode cL_tell 48 = .ok (.istore_n 3, 1) := by decide +kernel
theorem dL_tell_49 : decode cL_tell 49 = .ok (.iload_n 3, 1) := by decide +kernel
theorem dL_tell_50 : decode cL_tell 50 = .ok (.bipush 8, 2) := by decide +kernel
theorem dL_tell_52 : decode cL_tell 52 = .ok (.if_icmp .ge 25, 3) := by decide +kernel
theorem dL_tell_55 : decode cL_tell 55 = .ok (.aload_n 0, 1) := by decide +kernel
theorem dL_tell_56 : decode cL_tell 56 = .ok (.aload_n 1, 1) := by decide +kernel
theorem dL_tell_57 : decode cL_tell 57 = .ok (.getfield 35, 3) := by decide +kernel
theorem dL_tell_60 : decode cL_tell 60 = .ok (.iload_n 3, 1) := by decide +kernel
theorem dL_tell_61 : decode cL_tell 61 = .ok (.iaload, 1) := by decide +kernel
theorem dL_tell_62 : decode cL_tell 62 = .ok (.invokevirtual 39, 3) := by decide +kernel
theorem dL_tell_65 : decode cL_tell 65 = .ok (.iload_n 3, 1) := by decide +kernel
theorem dL_tell_66 : decode cL_tell 66 = .ok (.if_icmp .eq 5, 3) := by decide +kernel
theorem dL_tell_69 : decode cL_tell 69 = .ok (.iconst 0, 1) := by decide +kernel
theorem dL_tell_70 : decode cL_tell 70 = .ok (.ireturn, 1) := by decide +kernel
theorem dL_tell_71 : decode cL_tell 71 = .ok (.iinc 3 1, 3) := by decide +kernel
theorem dL_tell_74 : decode cL_tell 74 = .ok (.goto (-25), 3) := by decide +kernel
theorem dL_tell_77 : decode cL_tell 77 = .ok (.iconst 1, 1) := by decide +kernel
theorem dL_tell_78 : decode cL_tell 78 = .ok (.ireturn, 1) := by decide +kernel
theorem dL_place_0 : decode cL_place 0 = .ok (.iload_n 2, 1) := by decide +kernel
theorem dL_place_1 : decode cL_place 1 = .ok (.bipush 24, 2) := by decide +kernel
theorem dL_place_3 : decode cL_place 3 = .ok (.invokestatic 29, 3) := by decide +kernel
theorem dL_place_6 : decode cL_place 6 = .ok (.istore_n 3, 1) := by decide +kernel
theorem dL_place_7 : decode cL_place 7 = .ok (.iconst 0, 1) := by decide +kernel
theorem dL_place_8 : decode cL_place 8 = .ok (.istore 4, 2) := by decide +kernel
theorem dL_place_10 : decode cL_place 10 = .ok (.iload 4, 2) := by decide +kernel
theorem dL_place_12 : decode cL_place 12 = .ok (.bipush 24, 2) := by decide +kernel
theorem dL_place_14 : decode cL_place 14 = .ok (.if_icmp .ge 32, 3) := by decide +kernel
theorem dL_place_17 : decode cL_place 17 = .ok (.aload_n 0, 1) := by decide +kernel
theorem dL_place_18 : decode cL_place 18 = .ok (.iload_n 3, 1) := by decide +kernel
theorem dL_place_19 : decode cL_place 19 = .ok (.iload 4, 2) := by decide +kernel
theorem dL_place_21 : decode cL_place 21 = .ok (.iadd, 1) := by decide +kernel
theorem dL_place_22 : decode cL_place 22 = .ok (.bipush 24, 2) := by decide +kernel
theorem dL_place_24 : decode cL_place 24 = .ok (.irem, 1) := by decide +kernel
theorem dL_place_25 : decode cL_place 25 = .ok (.invokevirtual 43, 3) := by decide +kernel
theorem dL_place_28 : decode cL_place 28 = .ok (.iload_n 1, 1) := by decide +kernel
theorem dL_place_29 : decode cL_place 29 = .ok (.if_icmp .ne 11, 3) := by decide +kernel
theorem dL_place_32 : decode cL_place 32 = .ok (.iload_n 3, 1) := by decide +kernel
theorem dL_place_33 : decode cL_place 33 = .ok (.iload 4, 2) := by decide +kernel
theorem dL_place_35 : decode cL_place 35 = .ok (.iadd, 1) := by decide +kernel
theorem dL_place_36 : decode cL_place 36 = .ok (.bipush 24, 2) := by decide +kernel
theorem dL_place_38 : decode cL_place 38 = .ok (.irem, 1) := by decide +kernel
theorem dL_place_39 : decode cL_place 39 = .ok (.ireturn, 1) := by decide +kernel
theorem dL_place_40 : decode cL_place 40 = .ok (.iinc 4 1, 3) := by decide +kernel
theorem dL_place_43 : decode cL_place 43 = .ok (.goto (-33), 3) := by decide +kernel
theorem dL_place_46 : decode cL_place 46 = .ok (.iconst 0, 1) := by decide +kernel
theorem dL_place_47 : decode cL_place 47 = .ok (.ireturn, 1) := by decide +kernel
theorem dL_line_0 : decode cL_line 0 = .ok (.iload_n 3, 1) := by decide +kernel
theorem dL_line_1 : decode cL_line 1 = .ok (.iconst 4, 1) := by decide +kernel
theorem dL_line_2 : decode cL_line 2 = .ok (.ishr, 1) := by decide +kernel
theorem dL_line_3 : decode cL_line 3 = .ok (.bipush 31, 2) := by decide +kernel
theorem dL_line_5 : decode cL_line 5 = .ok (.invokestatic 29, 3) := by decide +kernel
theorem dL_line_8 : decode cL_line 8 = .ok (.bipush 9, 2) := by decide +kernel
theorem dL_line_10 : decode cL_line 10 = .ok (.isub, 1) := by decide +kernel
theorem dL_line_11 : decode cL_line 11 = .ok (.istore 5, 2) := by decide +kernel
theorem dL_line_13 : decode cL_line 13 = .ok (.iload_n 3, 1) := by decide +kernel
theorem dL_line_14 : decode cL_line 14 = .ok (.iconst 3, 1) := by decide +kernel
theorem dL_line_15 : decode cL_line 15 = .ok (.invokestatic 29, 3) := by decide +kernel
theorem dL_line_18 : decode cL_line 18 = .ok (.ifCond .ne 7, 3) := by decide +kernel
theorem dL_line_21 : decode cL_line 21 = .ok (.iconst 5, 1) := by decide +kernel
theorem dL_line_22 : decode cL_line 22 = .ok (.goto 10, 3) := by decide +kernel
theorem dL_line_25 : decode cL_line 25 = .ok (.iconst 1, 1) := by decide +kernel
theorem dL_line_26 : decode cL_line 26 = .ok (.iload_n 3, 1) := by decide +kernel
theorem dL_line_27 : decode cL_line 27 = .ok (.iconst 2, 1) := by decide +kernel
theorem dL_line_28 : decode cL_line 28 = .ok (.invokestatic 29, 3) := by decide +kernel
theorem dL_line_31 : decode cL_line 31 = .ok (.iadd, 1) := by decide +kernel
theorem dL_line_32 : decode cL_line 32 = .ok (.istore 6, 2) := by decide +kernel
theorem dL_line_34 : decode cL_line 34 = .ok (.iload_n 3, 1) := by decide +kernel
theorem dL_line_35 : decode cL_line 35 = .ok (.iconst 3, 1) := by decide +kernel
theorem dL_line_36 : decode cL_line 36 = .ok (.invokestatic 29, 3) := by decide +kernel
theorem dL_line_39 : decode cL_line 39 = .ok (.istore 7, 2) := by decide +kernel
theorem dL_line_41 : decode cL_line 41 = .ok (.iload_n 2, 1) := by decide +kernel
theorem dL_line_42 : decode cL_line 42 = .ok (.bipush 22, 2) := by decide +kernel
theorem dL_line_44 : decode cL_line 44 = .ok (.invokestatic 29, 3) := by decide +kernel
theorem dL_line_47 : decode cL_line 47 = .ok (.tableswitch 596 0 20 #[97, 97, 97, 115, 132, 132, 157, 180, 203, 238, 238, 262, 299, 299, 320, 349, 367, 467, 523, 547, 570], 97) := by decide +kernel
theorem dL_line_144 : decode cL_line 144 = .ok (.aload_n 0, 1) := by decide +kernel
theorem dL_line_145 : decode cL_line 145 = .ok (.aload_n 1, 1) := by decide +kernel
theorem dL_line_146 : decode cL_line 146 = .ok (.iconst 0, 1) := by decide +kernel
theorem dL_line_147 : decode cL_line 147 = .ok (.aload_n 1, 1) := by decide +kernel
theorem dL_line_148 : decode cL_line 148 = .ok (.iload 6, 2) := by decide +kernel
theorem dL_line_150 : decode cL_line 150 = .ok (.iload_n 2, 1) := by decide +kernel
theorem dL_line_151 : decode cL_line 151 = .ok (.iconst 4, 1) := by decide +kernel
theorem dL_line_152 : decode cL_line 152 = .ok (.ishr, 1) := by decide +kernel
theorem dL_line_153 : decode cL_line 153 = .ok (.invokestatic 46, 3) := by decide +kernel
theorem dL_line_156 : decode cL_line 156 = .ok (.iload 5, 2) := by decide +kernel
theorem dL_line_158 : decode cL_line 158 = .ok (.invokestatic 50, 3) := by decide +kernel
theorem dL_line_161 : decode cL_line 161 = .ok (.ireturn, 1) := by decide +kernel
theorem dL_line_162 : decode cL_line 162 = .ok (.aload_n 0, 1) := by decide +kernel
theorem dL_line_163 : decode cL_line 163 = .ok (.aload_n 1, 1) := by decide +kernel
theorem dL_line_164 : decode cL_line 164 = .ok (.iconst 0, 1) := by decide +kernel
theorem dL_line_165 : decode cL_line 165 = .ok (.aload_n 1, 1) := by decide +kernel
theorem dL_line_166 : decode cL_line 166 = .ok (.iconst 0, 1) := by decide +kernel
theorem dL_line_167 : decode cL_line 167 = .ok (.iload_n 2, 1) := by decide +kernel
theorem dL_line_168 : decode cL_line 168 = .ok (.iconst 4, 1) := by decide +kernel
theorem dL_line_169 : decode cL_line 169 = .ok (.ishr, 1) := by decide +kernel
theorem dL_line_170 : decode cL_line 170 = .ok (.invokestatic 46, 3) := by decide +kernel
theorem dL_line_173 : decode cL_line 173 = .ok (.iload 5, 2) := by decide +kernel
theorem dL_line_175 : decode cL_line 175 = .ok (.invokestatic 50, 3) := by decide +kernel
theorem dL_line_178 : decode cL_line 178 = .ok (.ireturn, 1) := by decide +kernel
theorem dL_line_179 : decode cL_line 179 = .ok (.aload_n 0, 1) := by decide +kernel
theorem dL_line_180 : decode cL_line 180 = .ok (.aload_n 1, 1) := by decide +kernel
theorem dL_line_181 : decode cL_line 181 = .ok (.iconst 1, 1) := by decide +kernel
theorem dL_line_182 : decode cL_line 182 = .ok (.aload_n 1, 1) := by decide +kernel
theorem dL_line_183 : decode cL_line 183 = .ok (.iload 6, 2) := by decide +kernel
theorem dL_line_185 : decode cL_line 185 = .ok (.iload_n 2, 1) := by decide +kernel
theorem dL_line_186 : decode cL_line 186 = .ok (.iconst 4, 1) := by decide +kernel
theorem dL_line_187 : decode cL_line 187 = .ok (.ishr, 1) := by decide +kernel
theorem dL_line_188 : decode cL_line 188 = .ok (.invokestatic 46, 3) := by decide +kernel
theorem dL_line_191 : decode cL_line 191 = .ok (.aload_n 1, 1) := by decide +kernel
theorem dL_line_192 : decode cL_line 192 = .ok (.iload 6, 2) := by decide +kernel
theorem dL_line_194 : decode cL_line 194 = .ok (.iload_n 3, 1) := by decide +kernel
theorem dL_line_195 : decode cL_line 195 = .ok (.iconst 3, 1) := by decide +kernel
theorem dL_line_196 : decode cL_line 196 = .ok (.ishr, 1) := by decide +kernel
theorem dL_line_197 : decode cL_line 197 = .ok (.invokestatic 46, 3) := by decide +kernel
theorem dL_line_200 : decode cL_line 200 = .ok (.invokestatic 50, 3) := by decide +kernel
theorem dL_line_203 : decode cL_line 203 = .ok (.ireturn, 1) := by decide +kernel
theorem dL_line_204 : decode cL_line 204 = .ok (.aload_n 0, 1) := by decide +kernel
theorem dL_line_205 : decode cL_line 205 = .ok (.aload_n 1, 1) := by decide +kernel
theorem dL_line_206 : decode cL_line 206 = .ok (.iconst 1, 1) := by decide +kernel
theorem dL_line_207 : decode cL_line 207 = .ok (.aload_n 1, 1) := by decide +kernel
theorem dL_line_208 : decode cL_line 208 = .ok (.iconst 4, 1) := by decide +kernel
theorem dL_line_209 : decode cL_line 209 = .ok (.iload_n 2, 1) := by decide +kernel
theorem dL_line_210 : decode cL_line 210 = .ok (.iconst 4, 1) := by decide +kernel
theorem dL_line_211 : decode cL_line 211 = .ok (.ishr, 1) := by decide +kernel
theorem dL_line_212 : decode cL_line 212 = .ok (.invokestatic 46, 3) := by decide +kernel
theorem dL_line_215 : decode cL_line 215 = .ok (.aload_n 1, 1) := by decide +kernel
theorem dL_line_216 : decode cL_line 216 = .ok (.iconst 4, 1) := by decide +kernel
theorem dL_line_217 : decode cL_line 217 = .ok (.iload_n 3, 1) := by decide +kernel
theorem dL_line_218 : decode cL_line 218 = .ok (.iconst 3, 1) := by decide +kernel
theorem dL_line_219 : decode cL_line 219 = .ok (.ishr, 1) := by decide +kernel
theorem dL_line_220 : decode cL_line 220 = .ok (.invokestatic 46, 3) := by decide +kernel
theorem dL_line_223 : decode cL_line 223 = .ok (.invokestatic 50, 3) := by decide +kernel
theorem dL_line_226 : decode cL_line 226 = .ok (.ireturn, 1) := by decide +kernel
theorem dL_line_227 : decode cL_line 227 = .ok (.aload_n 0, 1) := by decide +kernel
theorem dL_line_228 : decode cL_line 228 = .ok (.aload_n 1, 1) := by decide +kernel
theorem dL_line_229 : decode cL_line 229 = .ok (.iconst 2, 1) := by decide +kernel
theorem dL_line_230 : decode cL_line 230 = .ok (.aload_n 1, 1) := by decide +kernel
theorem dL_line_231 : decode cL_line 231 = .ok (.iconst 5, 1) := by decide +kernel
theorem dL_line_232 : decode cL_line 232 = .ok (.iload_n 2, 1) := by decide +kernel
theorem dL_line_233 : decode cL_line 233 = .ok (.iconst 4, 1) := by decide +kernel
theorem dL_line_234 : decode cL_line 234 = .ok (.ishr, 1) := by decide +kernel
theorem dL_line_235 : decode cL_line 235 = .ok (.invokestatic 46, 3) := by decide +kernel
theorem dL_line_238 : decode cL_line 238 = .ok (.aload_n 1, 1) := by decide +kernel
theorem dL_line_239 : decode cL_line 239 = .ok (.iconst 5, 1) := by decide +kernel
theorem dL_line_240 : decode cL_line 240 = .ok (.iload_n 3, 1) := by decide +kernel
theorem dL_line_241 : decode cL_line 241 = .ok (.iconst 3, 1) := by decide +kernel
theorem dL_line_242 : decode cL_line 242 = .ok (.ishr, 1) := by decide +kernel
theorem dL_line_243 : decode cL_line 243 = .ok (.invokestatic 46, 3) := by decide +kernel
theorem dL_line_246 : decode cL_line 246 = .ok (.invokestatic 50, 3) := by decide +kernel
theorem dL_line_249 : decode cL_line 249 = .ok (.ireturn, 1) := by decide +kernel
theorem dL_line_250 : decode cL_line 250 = .ok (.aload_n 0, 1) := by decide +kernel
theorem dL_line_251 : decode cL_line 251 = .ok (.aload_n 1, 1) := by decide +kernel
theorem dL_line_252 : decode cL_line 252 = .ok (.iconst 2, 1) := by decide +kernel
theorem dL_line_253 : decode cL_line 253 = .ok (.aload_n 1, 1) := by decide +kernel
theorem dL_line_254 : decode cL_line 254 = .ok (.iload_n 3, 1) := by decide +kernel
theorem dL_line_255 : decode cL_line 255 = .ok (.iconst 2, 1) := by decide +kernel
theorem dL_line_256 : decode cL_line 256 = .ok (.invokestatic 29, 3) := by decide +kernel
theorem dL_line_259 : decode cL_line 259 = .ok (.iconst 3, 1) := by decide +kernel
theorem dL_line_260 : decode cL_line 260 = .ok (.imul, 1) := by decide +kernel
theorem dL_line_261 : decode cL_line 261 = .ok (.iload_n 2, 1) := by decide +kernel
theorem dL_line_262 : decode cL_line 262 = .ok (.iconst 4, 1) := by decide +kernel
theorem dL_line_263 : decode cL_line 263 = .ok (.ishr, 1) := by decide +kernel
theorem dL_line_264 : decode cL_line 264 = .ok (.invokestatic 46, 3) := by decide +kernel
theorem dL_line_267 : decode cL_line 267 = .ok (.aload_n 1, 1) := by decide +kernel
theorem dL_line_268 : decode cL_line 268 = .ok (.iload_n 3, 1) := by decide +kernel
theorem dL_line_269 : decode cL_line 269 = .ok (.iconst 2, 1) := by decide +kernel
theorem dL_line_270 : decode cL_line 270 = .ok (.invokestatic 29, 3) := by decide +kernel
theorem dL_line_273 : decode cL_line 273 = .ok (.iconst 3, 1) := by decide +kernel
theorem dL_line_274 : decode cL_line 274 = .ok (.imul, 1) := by decide +kernel
theorem dL_line_275 : decode cL_line 275 = .ok (.iload_n 3, 1) := by decide +kernel
theorem dL_line_276 : decode cL_line 276 = .ok (.iconst 3, 1) := by decide +kernel
theorem dL_line_277 : decode cL_line 277 = .ok (.ishr, 1) := by decide +kernel
theorem dL_line_278 : decode cL_line 278 = .ok (.invokestatic 46, 3) := by decide +kernel
theorem dL_line_281 : decode cL_line 281 = .ok (.invokestatic 50, 3) := by decide +kernel
theorem dL_line_284 : decode cL_line 284 = .ok (.ireturn, 1) := by decide +kernel
theorem dL_line_285 : decode cL_line 285 = .ok (.aload_n 0, 1) := by decide +kernel
theorem dL_line_286 : decode cL_line 286 = .ok (.aload_n 1, 1) := by decide +kernel
theorem dL_line_287 : decode cL_line 287 = .ok (.iconst 3, 1) := by decide +kernel
theorem dL_line_288 : decode cL_line 288 = .ok (.aload_n 1, 1) := by decide +kernel
theorem dL_line_289 : decode cL_line 289 = .ok (.iconst 3, 1) := by decide +kernel
theorem dL_line_290 : decode cL_line 290 = .ok (.iload_n 2, 1) := by decide +kernel
theorem dL_line_291 : decode cL_line 291 = .ok (.iconst 4, 1) := by decide +kernel
theorem dL_line_292 : decode cL_line 292 = .ok (.ishr, 1) := by decide +kernel
theorem dL_line_293 : decode cL_line 293 = .ok (.invokestatic 46, 3) := by decide +kernel
theorem dL_line_296 : decode cL_line 296 = .ok (.aload_n 1, 1) := by decide +kernel
theorem dL_line_297 : decode cL_line 297 = .ok (.iload 7, 2) := by decide +kernel
theorem dL_line_299 : decode cL_line 299 = .ok (.iload_n 3, 1) := by decide +kernel
theorem dL_line_300 : decode cL_line 300 = .ok (.iconst 3, 1) := by decide +kernel
theorem dL_line_301 : decode cL_line 301 = .ok (.ishr, 1) := by decide +kernel
theorem dL_line_302 : decode cL_line 302 = .ok (.invokestatic 46, 3) := by decide +kernel
theorem dL_line_305 : decode cL_line 305 = .ok (.invokestatic 50, 3) := by decide +kernel
theorem dL_line_308 : decode cL_line 308 = .ok (.ireturn, 1) := by decide +kernel
theorem dL_line_309 : decode cL_line 309 = .ok (.aload_n 1, 1) := by decide +kernel
theorem dL_line_310 : decode cL_line 310 = .ok (.iload 7, 2) := by decide +kernel
theorem dL_line_312 : decode cL_line 312 = .ok (.iload_n 3, 1) := by decide +kernel
theorem dL_line_313 : decode cL_line 313 = .ok (.iconst 3, 1) := by decide +kernel
theorem dL_line_314 : decode cL_line 314 = .ok (.ishr, 1) := by decide +kernel
theorem dL_line_315 : decode cL_line 315 = .ok (.invokestatic 46, 3) := by decide +kernel
theorem dL_line_318 : decode cL_line 318 = .ok (.istore 8, 2) := by decide +kernel
theorem dL_line_320 : decode cL_line 320 = .ok (.aload_n 0, 1) := by decide +kernel
theorem dL_line_321 : decode cL_line 321 = .ok (.aload_n 1, 1) := by decide +kernel
theorem dL_line_322 : decode cL_line 322 = .ok (.iconst 4, 1) := by decide +kernel
theorem dL_line_323 : decode cL_line 323 = .ok (.aload_n 1, 1) := by decide +kernel
theorem dL_line_324 : decode cL_line 324 = .ok (.iconst 4, 1) := by decide +kernel
theorem dL_line_325 : decode cL_line 325 = .ok (.iload_n 2, 1) := by decide +kernel
theorem dL_line_326 : decode cL_line 326 = .ok (.iconst 4, 1) := by decide +kernel
theorem dL_line_327 : decode cL_line 327 = .ok (.ishr, 1) := by decide +kernel
theorem dL_line_328 : decode cL_line 328 = .ok (.invokestatic 46, 3) := by decide +kernel
theorem dL_line_331 : decode cL_line 331 = .ok (.iload 8, 2) := by decide +kernel
theorem dL_line_333 : decode cL_line 333 = .ok (.ifCond .ne 7, 3) := by decide +kernel
theorem dL_line_336 : decode cL_line 336 = .ok (.iconst 3, 1) := by decide +kernel
theorem dL_line_337 : decode cL_line 337 = .ok (.goto 5, 3) := by decide +kernel
theorem dL_line_340 : decode cL_line 340 = .ok (.iload 8, 2) := by decide +kernel
theorem dL_line_342 : decode cL_line 342 = .ok (.invokestatic 50, 3) := by decide +kernel
theorem dL_line_345 : decode cL_line 345 = .ok (.ireturn, 1) := by decide +kernel
theorem dL_line_346 : decode cL_line 346 = .ok (.aload_n 0, 1) := by decide +kernel
theorem dL_line_347 : decode cL_line 347 = .ok (.aload_n 1, 1) := by decide +kernel
theorem dL_line_348 : decode cL_line 348 = .ok (.iconst 5, 1) := by decide +kernel
theorem dL_line_349 : decode cL_line 349 = .ok (.aload_n 1, 1) := by decide +kernel
theorem dL_line_350 : decode cL_line 350 = .ok (.iload_n 3, 1) := by decide +kernel
theorem dL_line_351 : decode cL_line 351 = .ok (.bipush 6, 2) := by decide +kernel
theorem dL_line_353 : decode cL_line 353 = .ok (.invokestatic 29, 3) := by decide +kernel
theorem dL_line_356 : decode cL_line 356 = .ok (.iload_n 2, 1) := by decide +kernel
theorem dL_line_357 : decode cL_line 357 = .ok (.iconst 4, 1) := by decide +kernel
theorem dL_line_358 : decode cL_line 358 = .ok (.ishr, 1) := by decide +kernel
theorem dL_line_359 : decode cL_line 359 = .ok (.invokestatic 46, 3) := by decide +kernel
theorem dL_line_362 : decode cL_line 362 = .ok (.iconst 0, 1) := by decide +kernel
theorem dL_line_363 : decode cL_line 363 = .ok (.invokestatic 50, 3) := by decide +kernel
theorem dL_line_366 : decode cL_line 366 = .ok (.ireturn, 1) := by decide +kernel
theorem dL_line_367 : decode cL_line 367 = .ok (.aload_n 0, 1) := by decide +kernel
theorem dL_line_368 : decode cL_line 368 = .ok (.aload_n 1, 1) := by decide +kernel
theorem dL_line_369 : decode cL_line 369 = .ok (.bipush 6, 2) := by decide +kernel
theorem dL_line_371 : decode cL_line 371 = .ok (.aload_n 1, 1) := by decide +kernel
theorem dL_line_372 : decode cL_line 372 = .ok (.iload 7, 2) := by decide +kernel
theorem dL_line_374 : decode cL_line 374 = .ok (.iconst 2, 1) := by decide +kernel
theorem dL_line_375 : decode cL_line 375 = .ok (.if_icmp .ne 7, 3) := by decide +kernel
theorem dL_line_378 : decode cL_line 378 = .ok (.iconst 4, 1) := by decide +kernel
theorem dL_line_379 : decode cL_line 379 = .ok (.goto 5, 3) := by decide +kernel
theorem dL_line_382 : decode cL_line 382 = .ok (.iload 7, 2) := by decide +kernel
theorem dL_line_384 : decode cL_line 384 = .ok (.iload_n 2, 1) := by decide +kernel
theorem dL_line_385 : decode cL_line 385 = .ok (.iconst 4, 1) := by decide +kernel
theorem dL_line_386 : decode cL_line 386 = .ok (.ishr, 1) := by decide +kernel
theorem dL_line_387 : decode cL_line 387 = .ok (.invokestatic 46, 3) := by decide +kernel
theorem dL_line_390 : decode cL_line 390 = .ok (.iload 5, 2) := by decide +kernel
theorem dL_line_392 : decode cL_line 392 = .ok (.invokestatic 50, 3) := by decide +kernel
theorem dL_line_395 : decode cL_line 395 = .ok (.ireturn, 1) := by decide +kernel
theorem dL_line_396 : decode cL_line 396 = .ok (.aload_n 0, 1) := by decide +kernel
theorem dL_line_397 : decode cL_line 397 = .ok (.aload_n 1, 1) := by decide +kernel
theorem dL_line_398 : decode cL_line 398 = .ok (.bipush 7, 2) := by decide +kernel
theorem dL_line_400 : decode cL_line 400 = .ok (.aload_n 1, 1) := by decide +kernel
theorem dL_line_401 : decode cL_line 401 = .ok (.iload 6, 2) := by decide +kernel
theorem dL_line_403 : decode cL_line 403 = .ok (.iload_n 2, 1) := by decide +kernel
theorem dL_line_404 : decode cL_line 404 = .ok (.iconst 4, 1) := by decide +kernel
theorem dL_line_405 : decode cL_line 405 = .ok (.ishr, 1) := by decide +kernel
theorem dL_line_406 : decode cL_line 406 = .ok (.invokestatic 46, 3) := by decide +kernel
theorem dL_line_409 : decode cL_line 409 = .ok (.iconst 0, 1) := by decide +kernel
theorem dL_line_410 : decode cL_line 410 = .ok (.invokestatic 50, 3) := by decide +kernel
theorem dL_line_413 : decode cL_line 413 = .ok (.ireturn, 1) := by decide +kernel
theorem dL_line_414 : decode cL_line 414 = .ok (.aload_n 1, 1) := by decide +kernel
theorem dL_line_415 : decode cL_line 415 = .ok (.getfield 9, 3) := by decide +kernel
theorem dL_line_418 : decode cL_line 418 = .ok (.arraylength, 1) := by decide +kernel
theorem dL_line_419 : decode cL_line 419 = .ok (.aload 4, 2) := by decide +kernel
theorem dL_line_421 : decode cL_line 421 = .ok (.iconst 0, 1) := by decide +kernel
theorem dL_line_422 : decode cL_line 422 = .ok (.iaload, 1) := by decide +kernel
theorem dL_line_423 : decode cL_line 423 = .ok (.iadd, 1) := by decide +kernel
theorem dL_line_424 : decode cL_line 424 = .ok (.bipush 26, 2) := by decide +kernel
theorem dL_line_426 : decode cL_line 426 = .ok (.if_icmp .le 5, 3) := by decide +kernel
theorem dL_line_429 : decode cL_line 429 = .ok (.iconst 1, 1) := by decide +kernel
theorem dL_line_430 : decode cL_line 430 = .ok (.ireturn, 1) := by decide +kernel
theorem dL_line_431 : decode cL_line 431 = .ok (.iload_n 3, 1) := by decide +kernel
theorem dL_line_432 : decode cL_line 432 = .ok (.iconst 3, 1) := by decide +kernel
theorem dL_line_433 : decode cL_line 433 = .ok (.invokestatic 29, 3) := by decide +kernel
theorem dL_line_436 : decode cL_line 436 = .ok (.ifCond .ne 7, 3) := by decide +kernel
theorem dL_line_439 : decode cL_line 439 = .ok (.iconst 1, 1) := by decide +kernel
theorem dL_line_440 : decode cL_line 440 = .ok (.goto 4, 3) := by decide +kernel
theorem dL_line_443 : decode cL_line 443 = .ok (.iconst 0, 1) := by decide +kernel
theorem dL_line_444 : decode cL_line 444 = .ok (.istore 9, 2) := by decide +kernel
theorem dL_line_446 : decode cL_line 446 = .ok (.aload 4, 2) := by decide +kernel
theorem dL_line_448 : decode cL_line 448 = .ok (.aload 4, 2) := by decide +kernel
theorem dL_line_450 : decode cL_line 450 = .ok (.iconst 0, 1) := by decide +kernel
theorem dL_line_451 : decode cL_line 451 = .ok (.dup2, 1) := by decide +kernel
theorem dL_line_452 : decode cL_line 452 = .ok (.iaload, 1) := by decide +kernel
theorem dL_line_453 : decode cL_line 453 = .ok (.iconst 1, 1) := by decide +kernel
theorem dL_line_454 : decode cL_line 454 = .ok (.iadd, 1) := by decide +kernel
theorem dL_line_455 : decode cL_line 455 = .ok (.dup_x2, 1) := by decide +kernel
theorem dL_line_456 : decode cL_line 456 = .ok (.iastore, 1) := by decide +kernel
theorem dL_line_457 : decode cL_line 457 = .ok (.iload 9, 2) := by decide +kernel
theorem dL_line_459 : decode cL_line 459 = .ok (.ifCond .eq 8, 3) := by decide +kernel
theorem dL_line_462 : decode cL_line 462 = .ok (.bipush 10, 2) := by decide +kernel
theorem dL_line_464 : decode cL_line 464 = .ok (.goto 5, 3) := by decide +kernel
theorem dL_line_467 : decode cL_line 467 = .ok (.bipush 8, 2) := by decide +kernel
theorem dL_line_469 : decode cL_line 469 = .ok (.iastore, 1) := by decide +kernel
theorem dL_line_470 : decode cL_line 470 = .ok (.aload_n 0, 1) := by decide +kernel
theorem dL_line_471 : decode cL_line 471 = .ok (.aload_n 1, 1) := by decide +kernel
theorem dL_line_472 : decode cL_line 472 = .ok (.iload 9, 2) := by decide +kernel
theorem dL_line_474 : decode cL_line 474 = .ok (.ifCond .eq 8, 3) := by decide +kernel
theorem dL_line_477 : decode cL_line 477 = .ok (.bipush 10, 2) := by decide +kernel
theorem dL_line_479 : decode cL_line 479 = .ok (.goto 5, 3) := by decide +kernel
theorem dL_line_482 : decode cL_line 482 = .ok (.bipush 8, 2) := by decide +kernel
theorem dL_line_484 : decode cL_line 484 = .ok (.iload 9, 2) := by decide +kernel
theorem dL_line_486 : decode cL_line 486 = .ok (.ifCond .eq 15, 3) := by decide +kernel
theorem dL_line_489 : decode cL_line 489 = .ok (.iconst 1, 1) := by decide +kernel
theorem dL_line_490 : decode cL_line 490 = .ok (.iload_n 3, 1) := by decide +kernel
theorem dL_line_491 : decode cL_line 491 = .ok (.iconst 3, 1) := by decide +kernel
theorem dL_line_492 : decode cL_line 492 = .ok (.ishr, 1) := by decide +kernel
theorem dL_line_493 : decode cL_line 493 = .ok (.iconst 4, 1) := by decide +kernel
theorem dL_line_494 : decode cL_line 494 = .ok (.invokestatic 29, 3) := by decide +kernel
theorem dL_line_497 : decode cL_line 497 = .ok (.iadd, 1) := by decide +kernel
theorem dL_line_498 : decode cL_line 498 = .ok (.goto 11, 3) := by decide +kernel
theorem dL_line_501 : decode cL_line 501 = .ok (.aload_n 1, 1) := by decide +kernel
theorem dL_line_502 : decode cL_line 502 = .ok (.iconst 0, 1) := by decide +kernel
theorem dL_line_503 : decode cL_line 503 = .ok (.iload_n 3, 1) := by decide +kernel
theorem dL_line_504 : decode cL_line 504 = .ok (.iconst 3, 1) := by decide +kernel
theorem dL_line_505 : decode cL_line 505 = .ok (.ishr, 1) := by decide +kernel
theorem dL_line_506 : decode cL_line 506 = .ok (.invokestatic 46, 3) := by decide +kernel
theorem dL_line_509 : decode cL_line 509 = .ok (.iconst 0, 1) := by decide +kernel
theorem dL_line_510 : decode cL_line 510 = .ok (.invokestatic 50, 3) := by decide +kernel
theorem dL_line_513 : decode cL_line 513 = .ok (.ireturn, 1) := by decide +kernel
theorem dL_line_514 : decode cL_line 514 = .ok (.aload 4, 2) := by decide +kernel
theorem dL_line_516 : decode cL_line 516 = .ok (.iconst 0, 1) := by decide +kernel
theorem dL_line_517 : decode cL_line 517 = .ok (.iaload, 1) := by decide +kernel
theorem dL_line_518 : decode cL_line 518 = .ok (.ifCond .ne 5, 3) := by decide +kernel
theorem dL_line_521 : decode cL_line 521 = .ok (.iconst 1, 1) := by decide +kernel
theorem dL_line_522 : decode cL_line 522 = .ok (.ireturn, 1) := by decide +kernel
theorem dL_line_523 : decode cL_line 523 = .ok (.aload 4, 2) := by decide +kernel
theorem dL_line_525 : decode cL_line 525 = .ok (.aload 4, 2) := by decide +kernel
theorem dL_line_527 : decode cL_line 527 = .ok (.iconst 0, 1) := by decide +kernel
theorem dL_line_528 : decode cL_line 528 = .ok (.iaload, 1) := by decide +kernel
theorem dL_line_529 : decode cL_line 529 = .ok (.iaload, 1) := by decide +kernel
theorem dL_line_530 : decode cL_line 530 = .ok (.bipush 8, 2) := by decide +kernel
theorem dL_line_532 : decode cL_line 532 = .ok (.if_icmp .ne 11, 3) := by decide +kernel
theorem dL_line_535 : decode cL_line 535 = .ok (.iload_n 3, 1) := by decide +kernel
theorem dL_line_536 : decode cL_line 536 = .ok (.iconst 2, 1) := by decide +kernel
theorem dL_line_537 : decode cL_line 537 = .ok (.invokestatic 29, 3) := by decide +kernel
theorem dL_line_540 : decode cL_line 540 = .ok (.ifCond .ne 11, 3) := by decide +kernel
theorem dL_line_543 : decode cL_line 543 = .ok (.aload_n 0, 1) := by decide +kernel
theorem dL_line_544 : decode cL_line 544 = .ok (.aload_n 1, 1) := by decide +kernel
theorem dL_line_545 : decode cL_line 545 = .ok (.aload 4, 2) := by decide +kernel
theorem dL_line_547 : decode cL_line 547 = .ok (.invokestatic 53, 3) := by decide +kernel
theorem dL_line_550 : decode cL_line 550 = .ok (.ireturn, 1) := by decide +kernel
theorem dL_line_551 : decode cL_line 551 = .ok (.aload 4, 2) := by decide +kernel
theorem dL_line_553 : decode cL_line 553 = .ok (.aload 4, 2) := by decide +kernel
theorem dL_line_555 : decode cL_line 555 = .ok (.iconst 0, 1) := by decide +kernel
theorem dL_line_556 : decode cL_line 556 = .ok (.iaload, 1) := by decide +kernel
theorem dL_line_557 : decode cL_line 557 = .ok (.bipush 9, 2) := by decide +kernel
theorem dL_line_559 : decode cL_line 559 = .ok (.iastore, 1) := by decide +kernel
theorem dL_line_560 : decode cL_line 560 = .ok (.aload_n 0, 1) := by decide +kernel
theorem dL_line_561 : decode cL_line 561 = .ok (.aload_n 1, 1) := by decide +kernel
theorem dL_line_562 : decode cL_line 562 = .ok (.bipush 9, 2) := by decide +kernel
theorem dL_line_564 : decode cL_line 564 = .ok (.iconst 0, 1) := by decide +kernel
theorem dL_line_565 : decode cL_line 565 = .ok (.iconst 0, 1) := by decide +kernel
theorem dL_line_566 : decode cL_line 566 = .ok (.invokestatic 50, 3) := by decide +kernel
theorem dL_line_569 : decode cL_line 569 = .ok (.ireturn, 1) := by decide +kernel
theorem dL_line_570 : decode cL_line 570 = .ok (.aload_n 0, 1) := by decide +kernel
theorem dL_line_571 : decode cL_line 571 = .ok (.aload_n 1, 1) := by decide +kernel
theorem dL_line_572 : decode cL_line 572 = .ok (.bipush 12, 2) := by decide +kernel
theorem dL_line_574 : decode cL_line 574 = .ok (.aload_n 1, 1) := by decide +kernel
theorem dL_line_575 : decode cL_line 575 = .ok (.iconst 5, 1) := by decide +kernel
theorem dL_line_576 : decode cL_line 576 = .ok (.iload_n 2, 1) := by decide +kernel
theorem dL_line_577 : decode cL_line 577 = .ok (.iconst 4, 1) := by decide +kernel
theorem dL_line_578 : decode cL_line 578 = .ok (.ishr, 1) := by decide +kernel
theorem dL_line_579 : decode cL_line 579 = .ok (.invokestatic 46, 3) := by decide +kernel
theorem dL_line_582 : decode cL_line 582 = .ok (.aload_n 1, 1) := by decide +kernel
theorem dL_line_583 : decode cL_line 583 = .ok (.iconst 5, 1) := by decide +kernel
theorem dL_line_584 : decode cL_line 584 = .ok (.iload_n 3, 1) := by decide +kernel
theorem dL_line_585 : decode cL_line 585 = .ok (.iconst 3, 1) := by decide +kernel
theorem dL_line_586 : decode cL_line 586 = .ok (.ishr, 1) := by decide +kernel
theorem dL_line_587 : decode cL_line 587 = .ok (.invokestatic 46, 3) := by decide +kernel
theorem dL_line_590 : decode cL_line 590 = .ok (.invokestatic 50, 3) := by decide +kernel
theorem dL_line_593 : decode cL_line 593 = .ok (.ireturn, 1) := by decide +kernel
theorem dL_line_594 : decode cL_line 594 = .ok (.aload_n 0, 1) := by decide +kernel
theorem dL_line_595 : decode cL_line 595 = .ok (.aload_n 1, 1) := by decide +kernel
theorem dL_line_596 : decode cL_line 596 = .ok (.bipush 13, 2) := by decide +kernel
theorem dL_line_598 : decode cL_line 598 = .ok (.iload_n 3, 1) := by decide +kernel
theorem dL_line_599 : decode cL_line 599 = .ok (.iconst 2, 1) := by decide +kernel
theorem dL_line_600 : decode cL_line 600 = .ok (.invokestatic 29, 3) := by decide +kernel
theorem dL_line_603 : decode cL_line 603 = .ok (.iadd, 1) := by decide +kernel
theorem dL_line_604 : decode cL_line 604 = .ok (.aload_n 1, 1) := by decide +kernel
theorem dL_line_605 : decode cL_line 605 = .ok (.iconst 5, 1) := by decide +kernel
theorem dL_line_606 : decode cL_line 606 = .ok (.iload_n 2, 1) := by decide +kernel
theorem dL_line_607 : decode cL_line 607 = .ok (.iconst 4, 1) := by decide +kernel
theorem dL_line_608 : decode cL_line 608 = .ok (.ishr, 1) := by decide +kernel
theorem dL_line_609 : decode cL_line 609 = .ok (.invokestatic 46, 3) := by decide +kernel
theorem dL_line_612 : decode cL_line 612 = .ok (.iconst 0, 1) := by decide +kernel
theorem dL_line_613 : decode cL_line 613 = .ok (.invokestatic 50, 3) := by decide +kernel
theorem dL_line_616 : decode cL_line 616 = .ok (.ireturn, 1) := by decide +kernel
theorem dL_line_617 : decode cL_line 617 = .ok (.iload_n 3, 1) := by decide +kernel
theorem dL_line_618 : decode cL_line 618 = .ok (.iconst 4, 1) := by decide +kernel
theorem dL_line_619 : decode cL_line 619 = .ok (.invokestatic 29, 3) := by decide +kernel
theorem dL_line_622 : decode cL_line 622 = .ok (.ifCond .gt 15, 3) := by decide +kernel
theorem dL_line_625 : decode cL_line 625 = .ok (.aload_n 0, 1) := by decide +kernel
theorem dL_line_626 : decode cL_line 626 = .ok (.aload_n 1, 1) := by decide +kernel
theorem dL_line_627 : decode cL_line 627 = .ok (.bipush 15, 2) := by decide +kernel
theorem dL_line_629 : decode cL_line 629 = .ok (.iconst 0, 1) := by decide +kernel
theorem dL_line_630 : decode cL_line 630 = .ok (.iconst 0, 1) := by decide +kernel
theorem dL_line_631 : decode cL_line 631 = .ok (.invokestatic 50, 3) := by decide +kernel
theorem dL_line_634 : decode cL_line 634 = .ok (.ifCond .eq 7, 3) := by decide +kernel
theorem dL_line_637 : decode cL_line 637 = .ok (.iconst 1, 1) := by decide +kernel
theorem dL_line_638 : decode cL_line 638 = .ok (.goto 4, 3) := by decide +kernel
theorem dL_line_641 : decode cL_line 641 = .ok (.iconst 0, 1) := by decide +kernel
theorem dL_line_642 : decode cL_line 642 = .ok (.ireturn, 1) := by decide +kernel
theorem dL_line_643 : decode cL_line 643 = .ok (.aload_n 0, 1) := by decide +kernel
theorem dL_line_644 : decode cL_line 644 = .ok (.aload_n 1, 1) := by decide +kernel
theorem dL_line_645 : decode cL_line 645 = .ok (.bipush 16, 2) := by decide +kernel
theorem dL_line_647 : decode cL_line 647 = .ok (.aload_n 1, 1) := by decide +kernel
theorem dL_line_648 : decode cL_line 648 = .ok (.iconst 0, 1) := by decide +kernel
theorem dL_line_649 : decode cL_line 649 = .ok (.iload_n 2, 1) := by decide +kernel
theorem dL_line_650 : decode cL_line 650 = .ok (.iconst 4, 1) := by decide +kernel
theorem dL_line_651 : decode cL_line 651 = .ok (.ishr, 1) := by decide +kernel
theorem dL_line_652 : decode cL_line 652 = .ok (.invokestatic 46, 3) := by decide +kernel
theorem dL_line_655 : decode cL_line 655 = .ok (.iload 5, 2) := by decide +kernel
theorem dL_line_657 : decode cL_line 657 = .ok (.invokestatic 50, 3) := by decide +kernel
theorem dL_line_660 : decode cL_line 660 = .ok (.ireturn, 1) := by decide +kernel
theorem dL_close_0 : decode cL_close 0 = .ok (.aload_n 2, 1) := by decide +kernel
theorem dL_close_1 : decode cL_close 1 = .ok (.iconst 0, 1) := by decide +kernel
theorem dL_close_2 : decode cL_close 2 = .ok (.dup2, 1) := by decide +kernel
theorem dL_close_3 : decode cL_close 3 = .ok (.iaload, 1) := by decide +kernel
theorem dL_close_4 : decode cL_close 4 = .ok (.iconst 1, 1) := by decide +kernel
theorem dL_close_5 : decode cL_close 5 = .ok (.isub, 1) := by decide +kernel
theorem dL_close_6 : decode cL_close 6 = .ok (.iastore, 1) := by decide +kernel
theorem dL_close_7 : decode cL_close 7 = .ok (.aload_n 0, 1) := by decide +kernel
theorem dL_close_8 : decode cL_close 8 = .ok (.aload_n 1, 1) := by decide +kernel
theorem dL_close_9 : decode cL_close 9 = .ok (.bipush 11, 2) := by decide +kernel
theorem dL_close_11 : decode cL_close 11 = .ok (.iconst 0, 1) := by decide +kernel
theorem dL_close_12 : decode cL_close 12 = .ok (.iconst 0, 1) := by decide +kernel
theorem dL_close_13 : decode cL_close 13 = .ok (.invokestatic 50, 3) := by decide +kernel
theorem dL_close_16 : decode cL_close 16 = .ok (.ireturn, 1) := by decide +kernel
theorem dL_write_0 : decode cL_write 0 = .ok (.aload_n 0, 1) := by decide +kernel
theorem dL_write_1 : decode cL_write 1 = .ok (.aload_n 1, 1) := by decide +kernel
theorem dL_write_2 : decode cL_write 2 = .ok (.aload_n 2, 1) := by decide +kernel
theorem dL_write_3 : decode cL_write 3 = .ok (.iload_n 3, 1) := by decide +kernel
theorem dL_write_4 : decode cL_write 4 = .ok (.invokestatic 57, 3) := by decide +kernel
theorem dL_write_7 : decode cL_write 7 = .ok (.invokestatic 61, 3) := by decide +kernel
theorem dL_write_10 : decode cL_write 10 = .ok (.ifCond .ne 5, 3) := by decide +kernel
theorem dL_write_13 : decode cL_write 13 = .ok (.iconst 0, 1) := by decide +kernel
theorem dL_write_14 : decode cL_write 14 = .ok (.ireturn, 1) := by decide +kernel
theorem dL_write_15 : decode cL_write 15 = .ok (.aload_n 0, 1) := by decide +kernel
theorem dL_write_16 : decode cL_write 16 = .ok (.aload_n 1, 1) := by decide +kernel
theorem dL_write_17 : decode cL_write 17 = .ok (.iconst 0, 1) := by decide +kernel
theorem dL_write_18 : decode cL_write 18 = .ok (.iconst 0, 1) := by decide +kernel
theorem dL_write_19 : decode cL_write 19 = .ok (.aload_n 2, 1) := by decide +kernel
theorem dL_write_20 : decode cL_write 20 = .ok (.iload_n 3, 1) := by decide +kernel
theorem dL_write_21 : decode cL_write 21 = .ok (.invokestatic 57, 3) := by decide +kernel
theorem dL_write_24 : decode cL_write 24 = .ok (.bipush 7, 2) := by decide +kernel
theorem dL_write_26 : decode cL_write 26 = .ok (.invokestatic 29, 3) := by decide +kernel
theorem dL_write_29 : decode cL_write 29 = .ok (.iconst 2, 1) := by decide +kernel
theorem dL_write_30 : decode cL_write 30 = .ok (.isub, 1) := by decide +kernel
theorem dL_write_31 : decode cL_write 31 = .ok (.invokestatic 50, 3) := by decide +kernel
theorem dL_write_34 : decode cL_write 34 = .ok (.ifCond .ne 5, 3) := by decide +kernel
theorem dL_write_37 : decode cL_write 37 = .ok (.iconst 0, 1) := by decide +kernel
theorem dL_write_38 : decode cL_write 38 = .ok (.ireturn, 1) := by decide +kernel
theorem dL_write_39 : decode cL_write 39 = .ok (.iconst 4, 1) := by decide +kernel
theorem dL_write_40 : decode cL_write 40 = .ok (.newarray .int, 2) := by decide +kernel
theorem dL_write_42 : decode cL_write 42 = .ok (.dup, 1) := by decide +kernel
theorem dL_write_43 : decode cL_write 43 = .ok (.iconst 0, 1) := by decide +kernel
theorem dL_write_44 : decode cL_write 44 = .ok (.iconst 3, 1) := by decide +kernel
theorem dL_write_45 : decode cL_write 45 = .ok (.iastore, 1) := by decide +kernel
theorem dL_write_46 : decode cL_write 46 = .ok (.dup, 1) := by decide +kernel
theorem dL_write_47 : decode cL_write 47 = .ok (.iconst 1, 1) := by decide +kernel
theorem dL_write_48 : decode cL_write 48 = .ok (.bipush 6, 2) := by decide +kernel
theorem dL_write_50 : decode cL_write 50 = .ok (.iastore, 1) := by decide +kernel
theorem dL_write_51 : decode cL_write 51 = .ok (.dup, 1) := by decide +kernel
theorem dL_write_52 : decode cL_write 52 = .ok (.iconst 2, 1) := by decide +kernel
theorem dL_write_53 : decode cL_write 53 = .ok (.bipush 9, 2) := by decide +kernel
theorem dL_write_55 : decode cL_write 55 = .ok (.iastore, 1) := by decide +kernel
theorem dL_write_56 : decode cL_write 56 = .ok (.dup, 1) := by decide +kernel
theorem dL_write_57 : decode cL_write 57 = .ok (.iconst 3, 1) := by decide +kernel
theorem dL_write_58 : decode cL_write 58 = .ok (.bipush 18, 2) := by decide +kernel
theorem dL_write_60 : decode cL_write 60 = .ok (.iastore, 1) := by decide +kernel
theorem dL_write_61 : decode cL_write 61 = .ok (.astore 4, 2) := by decide +kernel
theorem dL_write_63 : decode cL_write 63 = .ok (.aload 4, 2) := by decide +kernel
theorem dL_write_65 : decode cL_write 65 = .ok (.astore 5, 2) := by decide +kernel
theorem dL_write_67 : decode cL_write 67 = .ok (.aload 5, 2) := by decide +kernel
theorem dL_write_69 : decode cL_write 69 = .ok (.arraylength, 1) := by decide +kernel
theorem dL_write_70 : decode cL_write 70 = .ok (.istore 6, 2) := by decide +kernel
theorem dL_write_72 : decode cL_write 72 = .ok (.iconst 0, 1) := by decide +kernel
theorem dL_write_73 : decode cL_write 73 = .ok (.istore 7, 2) := by decide +kernel
theorem dL_write_75 : decode cL_write 75 = .ok (.iload 7, 2) := by decide +kernel
theorem dL_write_77 : decode cL_write 77 = .ok (.iload 6, 2) := by decide +kernel
theorem dL_write_79 : decode cL_write 79 = .ok (.if_icmp .ge 63, 3) := by decide +kernel
theorem dL_write_82 : decode cL_write 82 = .ok (.aload 5, 2) := by decide +kernel
theorem dL_write_84 : decode cL_write 84 = .ok (.iload 7, 2) := by decide +kernel
theorem dL_write_86 : decode cL_write 86 = .ok (.iaload, 1) := by decide +kernel
theorem dL_write_87 : decode cL_write 87 = .ok (.istore 8, 2) := by decide +kernel
theorem dL_write_89 : decode cL_write 89 = .ok (.aload_n 2, 1) := by decide +kernel
theorem dL_write_90 : decode cL_write 90 = .ok (.iload 8, 2) := by decide +kernel
theorem dL_write_92 : decode cL_write 92 = .ok (.iconst 3, 1) := by decide +kernel
theorem dL_write_93 : decode cL_write 93 = .ok (.idiv, 1) := by decide +kernel
theorem dL_write_94 : decode cL_write 94 = .ok (.iload_n 3, 1) := by decide +kernel
theorem dL_write_95 : decode cL_write 95 = .ok (.iadd, 1) := by decide +kernel
theorem dL_write_96 : decode cL_write 96 = .ok (.invokestatic 57, 3) := by decide +kernel
theorem dL_write_99 : decode cL_write 99 = .ok (.iconst 5, 1) := by decide +kernel
theorem dL_write_100 : decode cL_write 100 = .ok (.invokestatic 29, 3) := by decide +kernel
theorem dL_write_103 : decode cL_write 103 = .ok (.ifCond .le 33, 3) := by decide +kernel
theorem dL_write_106 : decode cL_write 106 = .ok (.aload_n 0, 1) := by decide +kernel
theorem dL_write_107 : decode cL_write 107 = .ok (.aload_n 1, 1) := by decide +kernel
theorem dL_write_108 : decode cL_write 108 = .ok (.iconst 0, 1) := by decide +kernel
theorem dL_write_109 : decode cL_write 109 = .ok (.iload 8, 2) := by decide +kernel
theorem dL_write_111 : decode cL_write 111 = .ok (.aload_n 2, 1) := by decide +kernel
theorem dL_write_112 : decode cL_write 112 = .ok (.iload 8, 2) := by decide +kernel
theorem dL_write_114 : decode cL_write 114 = .ok (.iconst 3, 1) := by decide +kernel
theorem dL_write_115 : decode cL_write 115 = .ok (.idiv, 1) := by decide +kernel
theorem dL_write_116 : decode cL_write 116 = .ok (.invokestatic 57, 3) := by decide +kernel
theorem dL_write_119 : decode cL_write 119 = .ok (.iconst 3, 1) := by decide +kernel
theorem dL_write_120 : decode cL_write 120 = .ok (.ishr, 1) := by decide +kernel
theorem dL_write_121 : decode cL_write 121 = .ok (.bipush 9, 2) := by decide +kernel
theorem dL_write_123 : decode cL_write 123 = .ok (.invokestatic 29, 3) := by decide +kernel
theorem dL_write_126 : decode cL_write 126 = .ok (.iconst 1, 1) := by decide +kernel
theorem dL_write_127 : decode cL_write 127 = .ok (.isub, 1) := by decide +kernel
theorem dL_write_128 : decode cL_write 128 = .ok (.invokestatic 50, 3) := by decide +kernel
theorem dL_write_131 : decode cL_write 131 = .ok (.ifCond .ne 5, 3) := by decide +kernel
theorem dL_write_134 : decode cL_write 134 = .ok (.iconst 0, 1) := by decide +kernel
theorem dL_write_135 : decode cL_write 135 = .ok (.ireturn, 1) := by decide +kernel
theorem dL_write_136 : decode cL_write 136 = .ok (.iinc 7 1, 3) := by decide +kernel
theorem dL_write_139 : decode cL_write 139 = .ok (.goto (-64), 3) := by decide +kernel
theorem dL_write_142 : decode cL_write 142 = .ok (.bipush 40, 2) := by decide +kernel
theorem dL_write_144 : decode cL_write 144 = .ok (.newarray .int, 2) := by decide +kernel
theorem dL_write_146 : decode cL_write 146 = .ok (.astore 5, 2) := by decide +kernel
theorem dL_write_148 : decode cL_write 148 = .ok (.bipush 8, 2) := by decide +kernel
theorem dL_write_150 : decode cL_write 150 = .ok (.aload_n 2, 1) := by decide +kernel
theorem dL_write_151 : decode cL_write 151 = .ok (.iload_n 3, 1) := by decide +kernel
theorem dL_write_152 : decode cL_write 152 = .ok (.iconst 3, 1) := by decide +kernel
theorem dL_write_153 : decode cL_write 153 = .ok (.iadd, 1) := by decide +kernel
theorem dL_write_154 : decode cL_write 154 = .ok (.invokestatic 57, 3) := by decide +kernel
theorem dL_write_157 : decode cL_write 157 = .ok (.bipush 14, 2) := by decide +kernel
theorem dL_write_159 : decode cL_write 159 = .ok (.invokestatic 29, 3) := by decide +kernel
theorem dL_write_162 : decode cL_write 162 = .ok (.iadd, 1) := by decide +kernel
theorem dL_write_163 : decode cL_write 163 = .ok (.istore 6, 2) := by decide +kernel
theorem dL_write_165 : decode cL_write 165 = .ok (.iconst 0, 1) := by decide +kernel
theorem dL_write_166 : decode cL_write 166 = .ok (.istore 7, 2) := by decide +kernel
theorem dL_write_168 : decode cL_write 168 = .ok (.iload 7, 2) := by decide +kernel
theorem dL_write_170 : decode cL_write 170 = .ok (.iload 6, 2) := by decide +kernel
theorem dL_write_172 : decode cL_write 172 = .ok (.if_icmp .ge 74, 3) := by decide +kernel
theorem dL_write_175 : decode cL_write 175 = .ok (.aload_n 1, 1) := by decide +kernel
theorem dL_write_176 : decode cL_write 176 = .ok (.getfield 9, 3) := by decide +kernel
theorem dL_write_179 : decode cL_write 179 = .ok (.arraylength, 1) := by decide +kernel
theorem dL_write_180 : decode cL_write 180 = .ok (.aload 5, 2) := by decide +kernel
theorem dL_write_182 : decode cL_write 182 = .ok (.iconst 0, 1) := by decide +kernel
theorem dL_write_183 : decode cL_write 183 = .ok (.iaload, 1) := by decide +kernel
theorem dL_write_184 : decode cL_write 184 = .ok (.iadd, 1) := by decide +kernel
theorem dL_write_185 : decode cL_write 185 = .ok (.bipush 30, 2) := by decide +kernel
theorem dL_write_187 : decode cL_write 187 = .ok (.if_icmp .ge 59, 3) := by decide +kernel
theorem dL_write_190 : decode cL_write 190 = .ok (.aload_n 0, 1) := by decide +kernel
theorem dL_write_191 : decode cL_write 191 = .ok (.aload_n 1, 1) := by decide +kernel
theorem dL_write_192 : decode cL_write 192 = .ok (.aload_n 2, 1) := by decide +kernel
theorem dL_write_193 : decode cL_write 193 = .ok (.iload 7, 2) := by decide +kernel
theorem dL_write_195 : decode cL_write 195 = .ok (.iload_n 3, 1) := by decide +kernel
theorem dL_write_196 : decode cL_write 196 = .ok (.iadd, 1) := by decide +kernel
theorem dL_write_197 : decode cL_write 197 = .ok (.bipush 16, 2) := by decide +kernel
theorem dL_write_199 : decode cL_write 199 = .ok (.irem, 1) := by decide +kernel
theorem dL_write_200 : decode cL_write 200 = .ok (.invokestatic 57, 3) := by decide +kernel
theorem dL_write_203 : decode cL_write 203 = .ok (.bipush 31, 2) := by decide +kernel
theorem dL_write_205 : decode cL_write 205 = .ok (.iload 7, 2) := by decide +kernel
theorem dL_write_207 : decode cL_write 207 = .ok (.imul, 1) := by decide +kernel
theorem dL_write_208 : decode cL_write 208 = .ok (.iadd, 1) := by decide +kernel
theorem dL_write_209 : decode cL_write 209 = .ok (.aload_n 2, 1) := by decide +kernel
theorem dL_write_210 : decode cL_write 210 = .ok (.iconst 3, 1) := by decide +kernel
theorem dL_write_211 : decode cL_write 211 = .ok (.iload 7, 2) := by decide +kernel
theorem dL_write_213 : decode cL_write 213 = .ok (.imul, 1) := by decide +kernel
theorem dL_write_214 : decode cL_write 214 = .ok (.iload_n 3, 1) := by decide +kernel
theorem dL_write_215 : decode cL_write 215 = .ok (.iadd, 1) := by decide +kernel
theorem dL_write_216 : decode cL_write 216 = .ok (.iconst 1, 1) := by decide +kernel
theorem dL_write_217 : decode cL_write 217 = .ok (.iadd, 1) := by decide +kernel
theorem dL_write_218 : decode cL_write 218 = .ok (.bipush 16, 2) := by decide +kernel
theorem dL_write_220 : decode cL_write 220 = .ok (.irem, 1) := by decide +kernel
theorem dL_write_221 : decode cL_write 221 = .ok (.invokestatic 57, 3) := by decide +kernel
theorem dL_write_224 : decode cL_write 224 = .ok (.bipush 7, 2) := by decide +kernel
theorem dL_write_226 : decode cL_write 226 = .ok (.iload 7, 2) := by decide +kernel
theorem dL_write_228 : decode cL_write 228 = .ok (.imul, 1) := by decide +kernel
theorem dL_write_229 : decode cL_write 229 = .ok (.iadd, 1) := by decide +kernel
theorem dL_write_230 : decode cL_write 230 = .ok (.aload 5, 2) := by decide +kernel
theorem dL_write_232 : decode cL_write 232 = .ok (.invokestatic 65, 3) := by decide +kernel
theorem dL_write_235 : decode cL_write 235 = .ok (.ifCond .ne 5, 3) := by decide +kernel
theorem dL_write_238 : decode cL_write 238 = .ok (.iconst 0, 1) := by decide +kernel
theorem dL_write_239 : decode cL_write 239 = .ok (.ireturn, 1) := by decide +kernel
theorem dL_write_240 : decode cL_write 240 = .ok (.iinc 7 1, 3) := by decide +kernel
theorem dL_write_243 : decode cL_write 243 = .ok (.goto (-75), 3) := by decide +kernel
theorem dL_write_246 : decode cL_write 246 = .ok (.aload 5, 2) := by decide +kernel
theorem dL_write_248 : decode cL_write 248 = .ok (.iconst 0, 1) := by decide +kernel
theorem dL_write_249 : decode cL_write 249 = .ok (.iaload, 1) := by decide +kernel
theorem dL_write_250 : decode cL_write 250 = .ok (.ifCond .le 15, 3) := by decide +kernel
theorem dL_write_253 : decode cL_write 253 = .ok (.aload_n 0, 1) := by decide +kernel
theorem dL_write_254 : decode cL_write 254 = .ok (.aload_n 1, 1) := by decide +kernel
theorem dL_write_255 : decode cL_write 255 = .ok (.aload 5, 2) := by decide +kernel
theorem dL_write_257 : decode cL_write 257 = .ok (.invokestatic 53, 3) := by decide +kernel
theorem dL_write_260 : decode cL_write 260 = .ok (.ifCond .ne (-14), 3) := by decide +kernel
theorem dL_write_263 : decode cL_write 263 = .ok (.iconst 0, 1) := by decide +kernel
theorem dL_write_264 : decode cL_write 264 = .ok (.ireturn, 1) := by decide +kernel
theorem dL_write_265 : decode cL_write 265 = .ok (.iconst 1, 1) := by decide +kernel
theorem dL_write_266 : decode cL_write 266 = .ok (.ireturn, 1) := by decide +kernel
theorem dL_mend_0 : decode cL_mend 0 = .ok (.iconst 0, 1) := by decide +kernel
theorem dL_mend_1 : decode cL_mend 1 = .ok (.istore_n 2, 1) := by decide +kernel
theorem dL_mend_2 : decode cL_mend 2 = .ok (.iload_n 2, 1) := by decide +kernel
theorem dL_mend_3 : decode cL_mend 3 = .ok (.bipush 40, 2) := by decide +kernel
theorem dL_mend_5 : decode cL_mend 5 = .ok (.if_icmp .ge 120, 3) := by decide +kernel
theorem dL_mend_8 : decode cL_mend 8 = .ok (.aload_n 0, 1) := by decide +kernel
theorem dL_mend_9 : decode cL_mend 9 = .ok (.iconst 2, 1) := by decide +kernel
theorem dL_mend_10 : decode cL_mend 10 = .ok (.invokevirtual 69, 3) := by decide +kernel
theorem dL_mend_13 : decode cL_mend 13 = .ok (.ifCond .le 112, 3) := by decide +kernel
theorem dL_mend_16 : decode cL_mend 16 = .ok (.aload_n 0, 1) := by decide +kernel
theorem dL_mend_17 : decode cL_mend 17 = .ok (.iconst 0, 1) := by decide +kernel
theorem dL_mend_18 : decode cL_mend 18 = .ok (.iconst 1, 1) := by decide +kernel
theorem dL_mend_19 : decode cL_mend 19 = .ok (.invokevirtual 72, 3) := by decide +kernel
theorem dL_mend_22 : decode cL_mend 22 = .ok (.istore_n 3, 1) := by decide +kernel
theorem dL_mend_23 : decode cL_mend 23 = .ok (.aload_n 1, 1) := by decide +kernel
theorem dL_mend_24 : decode cL_mend 24 = .ok (.getfield 9, 3) := by decide +kernel
theorem dL_mend_27 : decode cL_mend 27 = .ok (.iload_n 3, 1) := by decide +kernel
theorem dL_mend_28 : decode cL_mend 28 = .ok (.aaload, 1) := by decide +kernel
theorem dL_mend_29 : decode cL_mend 29 = .ok (.iconst 0, 1) := by decide +kernel
theorem dL_mend_30 : decode cL_mend 30 = .ok (.iaload, 1) := by decide +kernel
theorem dL_mend_31 : decode cL_mend 31 = .ok (.istore 4, 2) := by decide +kernel
theorem dL_mend_33 : decode cL_mend 33 = .ok (.iload 4, 2) := by decide +kernel
theorem dL_mend_35 : decode cL_mend 35 = .ok (.bipush 8, 2) := by decide +kernel
theorem dL_mend_37 : decode cL_mend 37 = .ok (.if_icmp .ne 22, 3) := by decide +kernel
theorem dL_mend_40 : decode cL_mend 40 = .ok (.iconst 3, 1) := by decide +kernel
theorem dL_mend_41 : decode cL_mend 41 = .ok (.newarray .int, 2) := by decide +kernel
theorem dL_mend_43 : decode cL_mend 43 = .ok (.dup, 1) := by decide +kernel
theorem dL_mend_44 : decode cL_mend 44 = .ok (.iconst 0, 1) := by decide +kernel
theorem dL_mend_45 : decode cL_mend 45 = .ok (.bipush 8, 2) := by decide +kernel
theorem dL_mend_47 : decode cL_mend 47 = .ok (.iastore, 1) := by decide +kernel
theorem dL_mend_48 : decode cL_mend 48 = .ok (.dup, 1) := by decide +kernel
theorem dL_mend_49 : decode cL_mend 49 = .ok (.iconst 1, 1) := by decide +kernel
theorem dL_mend_50 : decode cL_mend 50 = .ok (.iconst 0, 1) := by decide +kernel
theorem dL_mend_51 : decode cL_mend 51 = .ok (.iastore, 1) := by decide +kernel
theorem dL_mend_52 : decode cL_mend 52 = .ok (.dup, 1) := by decide +kernel
theorem dL_mend_53 : decode cL_mend 53 = .ok (.iconst 2, 1) := by decide +kernel
theorem dL_mend_54 : decode cL_mend 54 = .ok (.iconst 0, 1) := by decide +kernel
theorem dL_mend_55 : decode cL_mend 55 = .ok (.iastore, 1) := by decide +kernel
theorem dL_mend_56 : decode cL_mend 56 = .ok (.goto 19, 3) := by decide +kernel
theorem dL_mend_59 : decode cL_mend 59 = .ok (.iconst 3, 1) := by decide +kernel
theorem dL_mend_60 : decode cL_mend 60 = .ok (.newarray .int, 2) := by decide +kernel
theorem dL_mend_62 : decode cL_mend 62 = .ok (.dup, 1) := by decide +kernel
theorem dL_mend_63 : decode cL_mend 63 = .ok (.iconst 0, 1) := by decide +kernel
theorem dL_mend_64 : decode cL_mend 64 = .ok (.iconst 0, 1) := by decide +kernel
theorem dL_mend_65 : decode cL_mend 65 = .ok (.iastore, 1) := by decide +kernel
theorem dL_mend_66 : decode cL_mend 66 = .ok (.dup, 1) := by decide +kernel
theorem dL_mend_67 : decode cL_mend 67 = .ok (.iconst 1, 1) := by decide +kernel
theorem dL_mend_68 : decode cL_mend 68 = .ok (.bipush 18, 2) := by decide +kernel
theorem dL_mend_70 : decode cL_mend 70 = .ok (.iastore, 1) := by decide +kernel
theorem dL_mend_71 : decode cL_mend 71 = .ok (.dup, 1) := by decide +kernel
theorem dL_mend_72 : decode cL_mend 72 = .ok (.iconst 2, 1) := by decide +kernel
theorem dL_mend_73 : decode cL_mend 73 = .ok (.iload_n 2, 1) := by decide +kernel
theorem dL_mend_74 : decode cL_mend 74 = .ok (.iastore, 1) := by decide +kernel
theorem dL_mend_75 : decode cL_mend 75 = .ok (.astore 5, 2) := by decide +kernel
theorem dL_mend_77 : decode cL_mend 77 = .ok (.aload_n 0, 1) := by decide +kernel
theorem dL_mend_78 : decode cL_mend 78 = .ok (.iconst 0, 1) := by decide +kernel
theorem dL_mend_79 : decode cL_mend 79 = .ok (.iconst 0, 1) := by decide +kernel
theorem dL_mend_80 : decode cL_mend 80 = .ok (.invokevirtual 72, 3) := by decide +kernel
theorem dL_mend_83 : decode cL_mend 83 = .ok (.iconst 5, 1) := by decide +kernel
theorem dL_mend_84 : decode cL_mend 84 = .ok (.if_icmp .eq 25, 3) := by decide +kernel
theorem dL_mend_87 : decode cL_mend 87 = .ok (.aload_n 0, 1) := by decide +kernel
theorem dL_mend_88 : decode cL_mend 88 = .ok (.iload_n 3, 1) := by decide +kernel
theorem dL_mend_89 : decode cL_mend 89 = .ok (.aload 5, 2) := by decide +kernel
theorem dL_mend_91 : decode cL_mend 91 = .ok (.iconst 0, 1) := by decide +kernel
theorem dL_mend_92 : decode cL_mend 92 = .ok (.iaload, 1) := by decide +kernel
theorem dL_mend_93 : decode cL_mend 93 = .ok (.aload 5, 2) := by decide +kernel
theorem dL_mend_95 : decode cL_mend 95 = .ok (.iconst 1, 1) := by decide +kernel
theorem dL_mend_96 : decode cL_mend 96 = .ok (.iaload, 1) := by decide +kernel
theorem dL_mend_97 : decode cL_mend 97 = .ok (.aload 5, 2) := by decide +kernel
theorem dL_mend_99 : decode cL_mend 99 = .ok (.iconst 2, 1) := by decide +kernel
theorem dL_mend_100 : decode cL_mend 100 = .ok (.iaload, 1) := by decide +kernel
theorem dL_mend_101 : decode cL_mend 101 = .ok (.invokevirtual 75, 3) := by decide +kernel
theorem dL_mend_104 : decode cL_mend 104 = .ok (.iload 4, 2) := by decide +kernel
theorem dL_mend_106 : decode cL_mend 106 = .ok (.if_icmp .eq 5, 3) := by decide +kernel
theorem dL_mend_109 : decode cL_mend 109 = .ok (.iconst 0, 1) := by decide +kernel
theorem dL_mend_110 : decode cL_mend 110 = .ok (.ireturn, 1) := by decide +kernel
theorem dL_mend_111 : decode cL_mend 111 = .ok (.aload_n 1, 1) := by decide +kernel
theorem dL_mend_112 : decode cL_mend 112 = .ok (.getfield 9, 3) := by decide +kernel
theorem dL_mend_115 : decode cL_mend 115 = .ok (.iload_n 3, 1) := by decide +kernel
theorem dL_mend_116 : decode cL_mend 116 = .ok (.aload 5, 2) := by decide +kernel
theorem dL_mend_118 : decode cL_mend 118 = .ok (.aastore, 1) := by decide +kernel
theorem dL_mend_119 : decode cL_mend 119 = .ok (.iinc 2 1, 3) := by decide +kernel
theorem dL_mend_122 : decode cL_mend 122 = .ok (.goto (-120), 3) := by decide +kernel
theorem dL_mend_125 : decode cL_mend 125 = .ok (.aload_n 0, 1) := by decide +kernel
theorem dL_mend_126 : decode cL_mend 126 = .ok (.iconst 2, 1) := by decide +kernel
theorem dL_mend_127 : decode cL_mend 127 = .ok (.invokevirtual 69, 3) := by decide +kernel
theorem dL_mend_130 : decode cL_mend 130 = .ok (.ifCond .ne 14, 3) := by decide +kernel
theorem dL_mend_133 : decode cL_mend 133 = .ok (.aload_n 1, 1) := by decide +kernel
theorem dL_mend_134 : decode cL_mend 134 = .ok (.invokevirtual 79, 3) := by decide +kernel
theorem dL_mend_137 : decode cL_mend 137 = .ok (.ifCond .ge 7, 3) := by decide +kernel
theorem dL_mend_140 : decode cL_mend 140 = .ok (.iconst 1, 1) := by decide +kernel
theorem dL_mend_141 : decode cL_mend 141 = .ok (.goto 4, 3) := by decide +kernel
theorem dL_mend_144 : decode cL_mend 144 = .ok (.iconst 0, 1) := by decide +kernel
theorem dL_mend_145 : decode cL_mend 145 = .ok (.ireturn, 1) := by decide +kernel
theorem dL_law_0 : decode cL_law 0 = .ok (.new 24, 3) := by decide +kernel
theorem dL_law_3 : decode cL_law 3 = .ok (.dup, 1) := by decide +kernel
theorem dL_law_4 : decode cL_law 4 = .ok (.invokespecial 82, 3) := by decide +kernel
theorem dL_law_7 : decode cL_law 7 = .ok (.astore_n 1, 1) := by decide +kernel
theorem dL_law_8 : decode cL_law 8 = .ok (.new 10, 3) := by decide +kernel
theorem dL_law_11 : decode cL_law 11 = .ok (.dup, 1) := by decide +kernel
theorem dL_law_12 : decode cL_law 12 = .ok (.invokespecial 83, 3) := by decide +kernel
theorem dL_law_15 : decode cL_law 15 = .ok (.astore_n 2, 1) := by decide +kernel
theorem dL_law_16 : decode cL_law 16 = .ok (.aload_n 1, 1) := by decide +kernel
theorem dL_law_17 : decode cL_law 17 = .ok (.aload_n 2, 1) := by decide +kernel
theorem dL_law_18 : decode cL_law 18 = .ok (.aload_n 0, 1) := by decide +kernel
theorem dL_law_19 : decode cL_law 19 = .ok (.aload_n 0, 1) := by decide +kernel
theorem dL_law_20 : decode cL_law 20 = .ok (.bipush 15, 2) := by decide +kernel
theorem dL_law_22 : decode cL_law 22 = .ok (.invokestatic 57, 3) := by decide +kernel
theorem dL_law_25 : decode cL_law 25 = .ok (.bipush 12, 2) := by decide +kernel
theorem dL_law_27 : decode cL_law 27 = .ok (.invokestatic 29, 3) := by decide +kernel
theorem dL_law_30 : decode cL_law 30 = .ok (.invokestatic 84, 3) := by decide +kernel
theorem dL_law_33 : decode cL_law 33 = .ok (.ifCond .eq 11, 3) := by decide +kernel
theorem dL_law_36 : decode cL_law 36 = .ok (.aload_n 1, 1) := by decide +kernel
theorem dL_law_37 : decode cL_law 37 = .ok (.aload_n 2, 1) := by decide +kernel
theorem dL_law_38 : decode cL_law 38 = .ok (.invokestatic 88, 3) := by decide +kernel
theorem dL_law_41 : decode cL_law 41 = .ok (.ifCond .ne 5, 3) := by decide +kernel
theorem dL_law_44 : decode cL_law 44 = .ok (.iconst 0, 1) := by decide +kernel
theorem dL_law_45 : decode cL_law 45 = .ok (.ireturn, 1) := by decide +kernel
theorem dL_law_46 : decode cL_law 46 = .ok (.iconst 0, 1) := by decide +kernel
theorem dL_law_47 : decode cL_law 47 = .ok (.istore_n 3, 1) := by decide +kernel
theorem dL_law_48 : decode cL_law 48 = .ok (.iload_n 3, 1) := by decide +kernel
theorem dL_law_49 : decode cL_law 49 = .ok (.iconst 3, 1) := by decide +kernel
theorem dL_law_50 : decode cL_law 50 = .ok (.if_icmp .ge 166, 3) := by decide +kernel
theorem dL_law_53 : decode cL_law 53 = .ok (.aload_n 1, 1) := by decide +kernel
theorem dL_law_54 : decode cL_law 54 = .ok (.invokevirtual 92, 3) := by decide +kernel
theorem dL_law_57 : decode cL_law 57 = .ok (.istore 4, 2) := by decide +kernel
theorem dL_law_59 : decode cL_law 59 = .ok (.aload_n 1, 1) := by decide +kernel
theorem dL_law_60 : decode cL_law 60 = .ok (.iconst 0, 1) := by decide +kernel
theorem dL_law_61 : decode cL_law 61 = .ok (.invokevirtual 95, 3) := by decide +kernel
theorem dL_law_64 : decode cL_law 64 = .ok (.iload 4, 2) := by decide +kernel
theorem dL_law_66 : decode cL_law 66 = .ok (.if_icmp .ne 20, 3) := by decide +kernel
theorem dL_law_69 : decode cL_law 69 = .ok (.aload_n 1, 1) := by decide +kernel
theorem dL_law_70 : decode cL_law 70 = .ok (.iload 4, 2) := by decide +kernel
theorem dL_law_72 : decode cL_law 72 = .ok (.invokestatic 98, 3) := by decide +kernel
theorem dL_law_75 : decode cL_law 75 = .ok (.ifCond .eq 11, 3) := by decide +kernel
theorem dL_law_78 : decode cL_law 78 = .ok (.aload_n 1, 1) := by decide +kernel
theorem dL_law_79 : decode cL_law 79 = .ok (.aload_n 2, 1) := by decide +kernel
theorem dL_law_80 : decode cL_law 80 = .ok (.invokestatic 102, 3) := by decide +kernel
theorem dL_law_83 : decode cL_law 83 = .ok (.ifCond .ne 5, 3) := by decide +kernel
theorem dL_law_86 : decode cL_law 86 = .ok (.iconst 0, 1) := by decide +kernel
theorem dL_law_87 : decode cL_law 87 = .ok (.ireturn, 1) := by decide +kernel
theorem dL_law_88 : decode cL_law 88 = .ok (.aload_n 0, 1) := by decide +kernel
theorem dL_law_89 : decode cL_law 89 = .ok (.iload_n 3, 1) := by decide +kernel
theorem dL_law_90 : decode cL_law 90 = .ok (.invokestatic 57, 3) := by decide +kernel
theorem dL_law_93 : decode cL_law 93 = .ok (.aload_n 2, 1) := by decide +kernel
theorem dL_law_94 : decode cL_law 94 = .ok (.getfield 9, 3) := by decide +kernel
theorem dL_law_97 : decode cL_law 97 = .ok (.arraylength, 1) := by decide +kernel
theorem dL_law_98 : decode cL_law 98 = .ok (.invokestatic 29, 3) := by decide +kernel
theorem dL_law_101 : decode cL_law 101 = .ok (.istore 5, 2) := by decide +kernel
theorem dL_law_103 : decode cL_law 103 = .ok (.aload_n 2, 1) := by decide +kernel
theorem dL_law_104 : decode cL_law 104 = .ok (.getfield 9, 3) := by decide +kernel
theorem dL_law_107 : decode cL_law 107 = .ok (.iload 5, 2) := by decide +kernel
theorem dL_law_109 : decode cL_law 109 = .ok (.aaload, 1) := by decide +kernel
theorem dL_law_110 : decode cL_law 110 = .ok (.iconst 0, 1) := by decide +kernel
theorem dL_law_111 : decode cL_law 111 = .ok (.iaload, 1) := by decide +kernel
theorem dL_law_112 : decode cL_law 112 = .ok (.istore 6, 2) := by decide +kernel
theorem dL_law_114 : decode cL_law 114 = .ok (.iload 6, 2) := by decide +kernel
theorem dL_law_116 : decode cL_law 116 = .ok (.ifCond .eq 13, 3) := by decide +kernel
theorem dL_law_119 : decode cL_law 119 = .ok (.iload 6, 2) := by decide +kernel
theorem dL_law_121 : decode cL_law 121 = .ok (.bipush 6, 2) := by decide +kernel
theorem dL_law_123 : decode cL_law 123 = .ok (.if_icmp .eq 6, 3) := by decide +kernel
theorem dL_law_126 : decode cL_law 126 = .ok (.goto 84, 3) := by decide +kernel
theorem dL_law_129 : decode cL_law 129 = .ok (.aload_n 0, 1) := by decide +kernel
theorem dL_law_130 : decode cL_law 130 = .ok (.iload_n 3, 1) := by decide +kernel
theorem dL_law_131 : decode cL_law 131 = .ok (.iconst 4, 1) := by decide +kernel
theorem dL_law_132 : decode cL_law 132 = .ok (.iadd, 1) := by decide +kernel
theorem dL_law_133 : decode cL_law 133 = .ok (.invokestatic 57, 3) := by decide +kernel
theorem dL_law_136 : decode cL_law 136 = .ok (.bipush 41, 2) := by decide +kernel
theorem dL_law_138 : decode cL_law 138 = .ok (.invokestatic 29, 3) := by decide +kernel
theorem dL_law_141 : decode cL_law 141 = .ok (.bipush 20, 2) := by decide +kernel
theorem dL_law_143 : decode cL_law 143 = .ok (.isub, 1) := by decide +kernel
theorem dL_law_144 : decode cL_law 144 = .ok (.istore 7, 2) := by decide +kernel
theorem dL_law_146 : decode cL_law 146 = .ok (.aload_n 1, 1) := by decide +kernel
theorem dL_law_147 : decode cL_law 147 = .ok (.iload 5, 2) := by decide +kernel
theorem dL_law_149 : decode cL_law 149 = .ok (.iload 7, 2) := by decide +kernel
theorem dL_law_151 : decode cL_law 151 = .ok (.invokevirtual 105, 3) := by decide +kernel
theorem dL_law_154 : decode cL_law 154 = .ok (.istore 8, 2) := by decide +kernel
theorem dL_law_156 : decode cL_law 156 = .ok (.aload_n 1, 1) := by decide +kernel
theorem dL_law_157 : decode cL_law 157 = .ok (.iload 5, 2) := by decide +kernel
theorem dL_law_159 : decode cL_law 159 = .ok (.iload 6, 2) := by decide +kernel
theorem dL_law_161 : decode cL_law 161 = .ok (.aload_n 2, 1) := by decide +kernel
theorem dL_law_162 : decode cL_law 162 = .ok (.getfield 9, 3) := by decide +kernel
theorem dL_law_165 : decode cL_law 165 = .ok (.iload 5, 2) := by decide +kernel
theorem dL_law_167 : decode cL_law 167 = .ok (.aaload, 1) := by decide +kernel
theorem dL_law_168 : decode cL_law 168 = .ok (.iconst 1, 1) := by decide +kernel
theorem dL_law_169 : decode cL_law 169 = .ok (.iaload, 1) := by decide +kernel
theorem dL_law_170 : decode cL_law 170 = .ok (.iload 7, 2) := by decide +kernel
theorem dL_law_172 : decode cL_law 172 = .ok (.invokevirtual 75, 3) := by decide +kernel
theorem dL_law_175 : decode cL_law 175 = .ok (.iload 6, 2) := by decide +kernel
theorem dL_law_177 : decode cL_law 177 = .ok (.if_icmp .ne 20, 3) := by decide +kernel
theorem dL_law_180 : decode cL_law 180 = .ok (.aload_n 1, 1) := by decide +kernel
theorem dL_law_181 : decode cL_law 181 = .ok (.iconst 2, 1) := by decide +kernel
theorem dL_law_182 : decode cL_law 182 = .ok (.invokevirtual 69, 3) := by decide +kernel
theorem dL_law_185 : decode cL_law 185 = .ok (.ifCond .ne 12, 3) := by decide +kernel
theorem dL_law_188 : decode cL_law 188 = .ok (.aload_n 1, 1) := by decide +kernel
theorem dL_law_189 : decode cL_law 189 = .ok (.invokevirtual 92, 3) := by decide +kernel
theorem dL_law_192 : decode cL_law 192 = .ok (.iload 8, 2) := by decide +kernel
theorem dL_law_194 : decode cL_law 194 = .ok (.if_icmp .eq 5, 3) := by decide +kernel
theorem dL_law_197 : decode cL_law 197 = .ok (.iconst 0, 1) := by decide +kernel
theorem dL_law_198 : decode cL_law 198 = .ok (.ireturn, 1) := by decide +kernel
theorem dL_law_199 : decode cL_law 199 = .ok (.aload_n 2, 1) := by decide +kernel
theorem dL_law_200 : decode cL_law 200 = .ok (.getfield 9, 3) := by decide +kernel
theorem dL_law_203 : decode cL_law 203 = .ok (.iload 5, 2) := by decide +kernel
theorem dL_law_205 : decode cL_law 205 = .ok (.aaload, 1) := by decide +kernel
theorem dL_law_206 : decode cL_law 206 = .ok (.iconst 2, 1) := by decide +kernel
theorem dL_law_207 : decode cL_law 207 = .ok (.iload 7, 2) := by decide +kernel
theorem dL_law_209 : decode cL_law 209 = .ok (.iastore, 1) := by decide +kernel
theorem dL_law_210 : decode cL_law 210 = .ok (.iinc 3 1, 3) := by decide +kernel
theorem dL_law_213 : decode cL_law 213 = .ok (.goto (-165), 3) := by decide +kernel
theorem dL_law_216 : decode cL_law 216 = .ok (.aload_n 1, 1) := by decide +kernel
theorem dL_law_217 : decode cL_law 217 = .ok (.invokevirtual 108, 3) := by decide +kernel
theorem dL_law_220 : decode cL_law 220 = .ok (.lstore_n 3, 1) := by decide +kernel
theorem dL_law_221 : decode cL_law 221 = .ok (.aload_n 1, 1) := by decide +kernel
theorem dL_law_222 : decode cL_law 222 = .ok (.iconst 0, 1) := by decide +kernel
theorem dL_law_223 : decode cL_law 223 = .ok (.invokevirtual 112, 3) := by decide +kernel
theorem dL_law_226 : decode cL_law 226 = .ok (.ifCond .ne 28, 3) := by decide +kernel
theorem dL_law_229 : decode cL_law 229 = .ok (.aload_n 1, 1) := by decide +kernel
theorem dL_law_230 : decode cL_law 230 = .ok (.aload_n 2, 1) := by decide +kernel
theorem dL_law_231 : decode cL_law 231 = .ok (.getfield 9, 3) := by decide +kernel
theorem dL_law_234 : decode cL_law 234 = .ok (.arraylength, 1) := by decide +kernel
theorem dL_law_235 : decode cL_law 235 = .ok (.iconst 1, 1) := by decide +kernel
theorem dL_law_236 : decode cL_law 236 = .ok (.isub, 1) := by decide +kernel
theorem dL_law_237 : decode cL_law 237 = .ok (.invokevirtual 115, 3) := by decide +kernel
theorem dL_law_240 : decode cL_law 240 = .ok (.ifCond .lt 14, 3) := by decide +kernel
theorem dL_law_243 : decode cL_law 243 = .ok (.aload_n 1, 1) := by decide +kernel
theorem dL_law_244 : decode cL_law 244 = .ok (.iconst 0, 1) := by decide +kernel
theorem dL_law_245 : decode cL_law 245 = .ok (.bipush 6, 2) := by decide +kernel
theorem dL_law_247 : decode cL_law 247 = .ok (.invokevirtual 118, 3) := by decide +kernel
theorem dL_law_250 : decode cL_law 250 = .ok (.iconst 1, 1) := by decide +kernel
theorem dL_law_251 : decode cL_law 251 = .ok (.if_icmp .eq 5, 3) := by decide +kernel
theorem dL_law_254 : decode cL_law 254 = .ok (.iconst 0, 1) := by decide +kernel
theorem dL_law_255 : decode cL_law 255 = .ok (.ireturn, 1) := by decide +kernel
theorem dL_law_256 : decode cL_law 256 = .ok (.aload_n 1, 1) := by decide +kernel
theorem dL_law_257 : decode cL_law 257 = .ok (.invokevirtual 108, 3) := by decide +kernel
theorem dL_law_260 : decode cL_law 260 = .ok (.lload_n 3, 1) := by decide +kernel
theorem dL_law_261 : decode cL_law 261 = .ok (.lcmp, 1) := by decide +kernel
theorem dL_law_262 : decode cL_law 262 = .ok (.ifCond .ne 7, 3) := by decide +kernel
theorem dL_law_265 : decode cL_law 265 = .ok (.iconst 1, 1) := by decide +kernel
theorem dL_law_266 : decode cL_law 266 = .ok (.goto 4, 3) := by decide +kernel
theorem dL_law_269 : decode cL_law 269 = .ok (.iconst 0, 1) := by decide +kernel
theorem dL_law_270 : decode cL_law 270 = .ok (.ireturn, 1) := by decide +kernel
theorem dL_isFair_0 : decode cL_isFair 0 = .ok (.iconst 0, 1) := by decide +kernel
theorem dL_isFair_1 : decode cL_isFair 1 = .ok (.istore_n 2, 1) := by decide +kernel
theorem dL_isFair_2 : decode cL_isFair 2 = .ok (.iconst 0, 1) := by decide +kernel
theorem dL_isFair_3 : decode cL_isFair 3 = .ok (.istore_n 3, 1) := by decide +kernel
theorem dL_isFair_4 : decode cL_isFair 4 = .ok (.bipush 60, 2) := by decide +kernel
theorem dL_isFair_6 : decode cL_isFair 6 = .ok (.aload_n 0, 1) := by decide +kernel
theorem dL_isFair_7 : decode cL_isFair 7 = .ok (.iconst 2, 1) := by decide +kernel
theorem dL_isFair_8 : decode cL_isFair 8 = .ok (.invokevirtual 95, 3) := by decide +kernel
theorem dL_isFair_11 : decode cL_isFair 11 = .ok (.invokestatic 121, 3) := by decide +kernel
theorem dL_isFair_14 : decode cL_isFair 14 = .ok (.istore 4, 2) := by decide +kernel
theorem dL_isFair_16 : decode cL_isFair 16 = .ok (.iconst 0, 1) := by decide +kernel
theorem dL_isFair_17 : decode cL_isFair 17 = .ok (.istore 5, 2) := by decide +kernel
theorem dL_isFair_19 : decode cL_isFair 19 = .ok (.iload 5, 2) := by decide +kernel
theorem dL_isFair_21 : decode cL_isFair 21 = .ok (.iload 4, 2) := by decide +kernel
theorem dL_isFair_23 : decode cL_isFair 23 = .ok (.if_icmp .ge 47, 3) := by decide +kernel
theorem dL_isFair_26 : decode cL_isFair 26 = .ok (.iload_n 2, 1) := by decide +kernel
theorem dL_isFair_27 : decode cL_isFair 27 = .ok (.aload_n 0, 1) := by decide +kernel
theorem dL_isFair_28 : decode cL_isFair 28 = .ok (.iload 5, 2) := by decide +kernel
theorem dL_isFair_30 : decode cL_isFair 30 = .ok (.iconst 0, 1) := by decide +kernel
theorem dL_isFair_31 : decode cL_isFair 31 = .ok (.invokevirtual 126, 3) := by decide +kernel
theorem dL_isFair_34 : decode cL_isFair 34 = .ok (.iconst 1, 1) := by decide +kernel
theorem dL_isFair_35 : decode cL_isFair 35 = .ok (.if_icmp .ne 7, 3) := by decide +kernel
theorem dL_isFair_38 : decode cL_isFair 38 = .ok (.iconst 1, 1) := by decide +kernel
theorem dL_isFair_39 : decode cL_isFair 39 = .ok (.goto 4, 3) := by decide +kernel
theorem dL_isFair_42 : decode cL_isFair 42 = .ok (.iconst 0, 1) := by decide +kernel
theorem dL_isFair_43 : decode cL_isFair 43 = .ok (.iadd, 1) := by decide +kernel
theorem dL_isFair_44 : decode cL_isFair 44 = .ok (.istore_n 2, 1) := by decide +kernel
theorem dL_isFair_45 : decode cL_isFair 45 = .ok (.iload_n 3, 1) := by decide +kernel
theorem dL_isFair_46 : decode cL_isFair 46 = .ok (.aload_n 0, 1) := by decide +kernel
theorem dL_isFair_47 : decode cL_isFair 47 = .ok (.iload 5, 2) := by decide +kernel
theorem dL_isFair_49 : decode cL_isFair 49 = .ok (.iconst 0, 1) := by decide +kernel
theorem dL_isFair_50 : decode cL_isFair 50 = .ok (.invokevirtual 126, 3) := by decide +kernel
theorem dL_isFair_53 : decode cL_isFair 53 = .ok (.iconst 2, 1) := by decide +kernel
theorem dL_isFair_54 : decode cL_isFair 54 = .ok (.if_icmp .ne 7, 3) := by decide +kernel
theorem dL_isFair_57 : decode cL_isFair 57 = .ok (.iconst 1, 1) := by decide +kernel
theorem dL_isFair_58 : decode cL_isFair 58 = .ok (.goto 4, 3) := by decide +kernel
theorem dL_isFair_61 : decode cL_isFair 61 = .ok (.iconst 0, 1) := by decide +kernel
theorem dL_isFair_62 : decode cL_isFair 62 = .ok (.iadd, 1) := by decide +kernel
theorem dL_isFair_63 : decode cL_isFair 63 = .ok (.istore_n 3, 1) := by decide +kernel
theorem dL_isFair_64 : decode cL_isFair 64 = .ok (.iinc 5 1, 3) := by decide +kernel
theorem dL_isFair_67 : decode cL_isFair 67 = .ok (.goto (-48), 3) := by decide +kernel
theorem dL_isFair_70 : decode cL_isFair 70 = .ok (.aload_n 0, 1) := by decide +kernel
theorem dL_isFair_71 : decode cL_isFair 71 = .ok (.iconst 2, 1) := by decide +kernel
theorem dL_isFair_72 : decode cL_isFair 72 = .ok (.invokevirtual 95, 3) := by decide +kernel
theorem dL_isFair_75 : decode cL_isFair 75 = .ok (.bipush 60, 2) := by decide +kernel
theorem dL_isFair_77 : decode cL_isFair 77 = .ok (.if_icmp .gt 24, 3) := by decide +kernel
theorem dL_isFair_80 : decode cL_isFair 80 = .ok (.iload_n 2, 1) := by decide +kernel
theorem dL_isFair_81 : decode cL_isFair 81 = .ok (.aload_n 0, 1) := by decide +kernel
theorem dL_isFair_82 : decode cL_isFair 82 = .ok (.iconst 5, 1) := by decide +kernel
theorem dL_isFair_83 : decode cL_isFair 83 = .ok (.invokevirtual 95, 3) := by decide +kernel
theorem dL_isFair_86 : decode cL_isFair 86 = .ok (.if_icmp .ne 13, 3) := by decide +kernel
theorem dL_isFair_89 : decode cL_isFair 89 = .ok (.iload_n 3, 1) := by decide +kernel
theorem dL_isFair_90 : decode cL_isFair 90 = .ok (.aload_n 0, 1) := by decide +kernel
theorem dL_isFair_91 : decode cL_isFair 91 = .ok (.bipush 6, 2) := by decide +kernel
theorem dL_isFair_93 : decode cL_isFair 93 = .ok (.invokevirtual 95, 3) := by decide +kernel
theorem dL_isFair_96 : decode cL_isFair 96 = .ok (.if_icmp .eq 5, 3) := by decide +kernel
theorem dL_isFair_99 : decode cL_isFair 99 = .ok (.iconst 0, 1) := by decide +kernel
theorem dL_isFair_100 : decode cL_isFair 100 = .ok (.ireturn, 1) := by decide +kernel
theorem dL_isFair_101 : decode cL_isFair 101 = .ok (.iload_n 1, 1) := by decide +kernel
theorem dL_isFair_102 : decode cL_isFair 102 = .ok (.iconst 2, 1) := by decide +kernel
theorem dL_isFair_103 : decode cL_isFair 103 = .ok (.if_icmp .ge 16, 3) := by decide +kernel
theorem dL_isFair_106 : decode cL_isFair 106 = .ok (.aload_n 0, 1) := by decide +kernel
theorem dL_isFair_107 : decode cL_isFair 107 = .ok (.iconst 3, 1) := by decide +kernel
theorem dL_isFair_108 : decode cL_isFair 108 = .ok (.invokevirtual 95, 3) := by decide +kernel
theorem dL_isFair_111 : decode cL_isFair 111 = .ok (.aload_n 0, 1) := by decide +kernel
theorem dL_isFair_112 : decode cL_isFair 112 = .ok (.iconst 5, 1) := by decide +kernel
theorem dL_isFair_113 : decode cL_isFair 113 = .ok (.invokevirtual 95, 3) := by decide +kernel
theorem dL_isFair_116 : decode cL_isFair 116 = .ok (.if_icmp .ne 50, 3) := by decide +kernel
theorem dL_isFair_119 : decode cL_isFair 119 = .ok (.aload_n 0, 1) := by decide +kernel
theorem dL_isFair_120 : decode cL_isFair 120 = .ok (.bipush 6, 2) := by decide +kernel
theorem dL_isFair_122 : decode cL_isFair 122 = .ok (.invokevirtual 95, 3) := by decide +kernel
theorem dL_isFair_125 : decode cL_isFair 125 = .ok (.aload_n 0, 1) := by decide +kernel
theorem dL_isFair_126 : decode cL_isFair 126 = .ok (.iconst 4, 1) := by decide +kernel
theorem dL_isFair_127 : decode cL_isFair 127 = .ok (.invokevirtual 95, 3) := by decide +kernel
theorem dL_isFair_130 : decode cL_isFair 130 = .ok (.if_icmp .gt 36, 3) := by decide +kernel
theorem dL_isFair_133 : decode cL_isFair 133 = .ok (.aload_n 0, 1) := by decide +kernel
theorem dL_isFair_134 : decode cL_isFair 134 = .ok (.bipush 7, 2) := by decide +kernel
theorem dL_isFair_136 : decode cL_isFair 136 = .ok (.invokevirtual 95, 3) := by decide +kernel
theorem dL_isFair_139 : decode cL_isFair 139 = .ok (.aload_n 0, 1) := by decide +kernel
theorem dL_isFair_140 : decode cL_isFair 140 = .ok (.iconst 3, 1) := by decide +kernel
theorem dL_isFair_141 : decode cL_isFair 141 = .ok (.invokevirtual 95, 3) := by decide +kernel
theorem dL_isFair_144 : decode cL_isFair 144 = .ok (.aload_n 0, 1) := by decide +kernel
theorem dL_isFair_145 : decode cL_isFair 145 = .ok (.iconst 5, 1) := by decide +kernel
theorem dL_isFair_146 : decode cL_isFair 146 = .ok (.invokevirtual 95, 3) := by decide +kernel
theorem dL_isFair_149 : decode cL_isFair 149 = .ok (.isub, 1) := by decide +kernel
theorem dL_isFair_150 : decode cL_isFair 150 = .ok (.aload_n 0, 1) := by decide +kernel
theorem dL_isFair_151 : decode cL_isFair 151 = .ok (.iconst 4, 1) := by decide +kernel
theorem dL_isFair_152 : decode cL_isFair 152 = .ok (.invokevirtual 95, 3) := by decide +kernel
theorem dL_isFair_155 : decode cL_isFair 155 = .ok (.iadd, 1) := by decide +kernel
theorem dL_isFair_156 : decode cL_isFair 156 = .ok (.aload_n 0, 1) := by decide +kernel
theorem dL_isFair_157 : decode cL_isFair 157 = .ok (.bipush 6, 2) := by decide +kernel
theorem dL_isFair_159 : decode cL_isFair 159 = .ok (.invokevirtual 95, 3) := by decide +kernel
theorem dL_isFair_162 : decode cL_isFair 162 = .ok (.isub, 1) := by decide +kernel
theorem dL_isFair_163 : decode cL_isFair 163 = .ok (.if_icmp .eq 5, 3) := by decide +kernel
theorem dL_isFair_166 : decode cL_isFair 166 = .ok (.iconst 0, 1) := by decide +kernel
theorem dL_isFair_167 : decode cL_isFair 167 = .ok (.ireturn, 1) := by decide +kernel
theorem dL_isFair_168 : decode cL_isFair 168 = .ok (.aload_n 0, 1) := by decide +kernel
theorem dL_isFair_169 : decode cL_isFair 169 = .ok (.bipush 8, 2) := by decide +kernel
theorem dL_isFair_171 : decode cL_isFair 171 = .ok (.invokevirtual 95, 3) := by decide +kernel
theorem dL_isFair_174 : decode cL_isFair 174 = .ok (.ifCond .ge 7, 3) := by decide +kernel
theorem dL_isFair_177 : decode cL_isFair 177 = .ok (.iconst 1, 1) := by decide +kernel
theorem dL_isFair_178 : decode cL_isFair 178 = .ok (.goto 4, 3) := by decide +kernel
theorem dL_isFair_181 : decode cL_isFair 181 = .ok (.iconst 0, 1) := by decide +kernel
theorem dL_isFair_182 : decode cL_isFair 182 = .ok (.iload_n 1, 1) := by decide +kernel
theorem dL_isFair_183 : decode cL_isFair 183 = .ok (.ifCond .eq 8, 3) := by decide +kernel
theorem dL_isFair_186 : decode cL_isFair 186 = .ok (.iload_n 1, 1) := by decide +kernel
theorem dL_isFair_187 : decode cL_isFair 187 = .ok (.iconst 3, 1) := by decide +kernel
theorem dL_isFair_188 : decode cL_isFair 188 = .ok (.if_icmp .ne 7, 3) := by decide +kernel
theorem dL_isFair_191 : decode cL_isFair 191 = .ok (.iconst 1, 1) := by decide +kernel
theorem dL_isFair_192 : decode cL_isFair 192 = .ok (.goto 4, 3) := by decide +kernel
theorem dL_isFair_195 : decode cL_isFair 195 = .ok (.iconst 0, 1) := by decide +kernel
theorem dL_isFair_196 : decode cL_isFair 196 = .ok (.if_icmp .ne 34, 3) := by decide +kernel
theorem dL_isFair_199 : decode cL_isFair 199 = .ok (.aload_n 0, 1) := by decide +kernel
theorem dL_isFair_200 : decode cL_isFair 200 = .ok (.iconst 1, 1) := by decide +kernel
theorem dL_isFair_201 : decode cL_isFair 201 = .ok (.invokevirtual 95, 3) := by decide +kernel
theorem dL_isFair_204 : decode cL_isFair 204 = .ok (.sipush 500, 3) := by decide +kernel
theorem dL_isFair_207 : decode cL_isFair 207 = .ok (.if_icmp .gt 23, 3) := by decide +kernel
theorem dL_isFair_210 : decode cL_isFair 210 = .ok (.iload_n 1, 1) := by decide +kernel
theorem dL_isFair_211 : decode cL_isFair 211 = .ok (.iconst 3, 1) := by decide +kernel
theorem dL_isFair_212 : decode cL_isFair 212 = .ok (.if_icmp .lt 14, 3) := by decide +kernel
theorem dL_isFair_215 : decode cL_isFair 215 = .ok (.aload_n 0, 1) := by decide +kernel
theorem dL_isFair_216 : decode cL_isFair 216 = .ok (.iconst 1, 1) := by decide +kernel
theorem dL_isFair_217 : decode cL_isFair 217 = .ok (.invokevirtual 95, 3) := by decide +kernel
theorem dL_isFair_220 : decode cL_isFair 220 = .ok (.sipush 500, 3) := by decide +kernel
theorem dL_isFair_223 : decode cL_isFair 223 = .ok (.if_icmp .ne 7, 3) := by decide +kernel
theorem dL_isFair_226 : decode cL_isFair 226 = .ok (.iconst 1, 1) := by decide +kernel
theorem dL_isFair_227 : decode cL_isFair 227 = .ok (.goto 4, 3) := by decide +kernel
theorem dL_isFair_230 : decode cL_isFair 230 = .ok (.iconst 0, 1) := by decide +kernel
theorem dL_isFair_231 : decode cL_isFair 231 = .ok (.ireturn, 1) := by decide +kernel
theorem dL_isInLoop_0 : decode cL_isInLoop 0 = .ok (.iload_n 1, 1) := by decide +kernel
theorem dL_isInLoop_1 : decode cL_isInLoop 1 = .ok (.istore_n 2, 1) := by decide +kernel
theorem dL_isInLoop_2 : decode cL_isInLoop 2 = .ok (.iload_n 2, 1) := by decide +kernel
theorem dL_isInLoop_3 : decode cL_isInLoop 3 = .ok (.aload_n 0, 1) := by decide +kernel
theorem dL_isInLoop_4 : decode cL_isInLoop 4 = .ok (.getfield 9, 3) := by decide +kernel
theorem dL_isInLoop_7 : decode cL_isInLoop 7 = .ok (.arraylength, 1) := by decide +kernel
theorem dL_isInLoop_8 : decode cL_isInLoop 8 = .ok (.if_icmp .ge 47, 3) := by decide +kernel
theorem dL_isInLoop_11 : decode cL_isInLoop 11 = .ok (.aload_n 0, 1) := by decide +kernel
theorem dL_isInLoop_12 : decode cL_isInLoop 12 = .ok (.getfield 9, 3) := by decide +kernel
theorem dL_isInLoop_15 : decode cL_isInLoop 15 = .ok (.iload_n 2, 1) := by decide +kernel
theorem dL_isInLoop_16 : decode cL_isInLoop 16 = .ok (.aaload, 1) := by decide +kernel
theorem dL_isInLoop_17 : decode cL_isInLoop 17 = .ok (.iconst 0, 1) := by decide +kernel
theorem dL_isInLoop_18 : decode cL_isInLoop 18 = .ok (.iaload, 1) := by decide +kernel
theorem dL_isInLoop_19 : decode cL_isInLoop 19 = .ok (.bipush 11, 2) := by decide +kernel
theorem dL_isInLoop_21 : decode cL_isInLoop 21 = .ok (.if_icmp .ne 28, 3) := by decide +kernel
theorem dL_isInLoop_24 : decode cL_isInLoop 24 = .ok (.aload_n 0, 1) := by decide +kernel
theorem dL_isInLoop_25 : decode cL_isInLoop 25 = .ok (.getfield 129, 3) := by decide +kernel
theorem dL_isInLoop_28 : decode cL_isInLoop 28 = .ok (.iload_n 2, 1) := by decide +kernel
theorem dL_isInLoop_29 : decode cL_isInLoop 29 = .ok (.aaload, 1) := by decide +kernel
theorem dL_isInLoop_30 : decode cL_isInLoop 30 = .ok (.arraylength, 1) := by decide +kernel
theorem dL_isInLoop_31 : decode cL_isInLoop 31 = .ok (.iconst 1, 1) := by decide +kernel
theorem dL_isInLoop_32 : decode cL_isInLoop 32 = .ok (.if_icmp .le 17, 3) := by decide +kernel
theorem dL_isInLoop_35 : decode cL_isInLoop 35 = .ok (.aload_n 0, 1) := by decide +kernel
theorem dL_isInLoop_36 : decode cL_isInLoop 36 = .ok (.getfield 129, 3) := by decide +kernel
theorem dL_isInLoop_39 : decode cL_isInLoop 39 = .ok (.iload_n 2, 1) := by decide +kernel
theorem dL_isInLoop_40 : decode cL_isInLoop 40 = .ok (.aaload, 1) := by decide +kernel
theorem dL_isInLoop_41 : decode cL_isInLoop 41 = .ok (.iconst 0, 1) := by decide +kernel
theorem dL_isInLoop_42 : decode cL_isInLoop 42 = .ok (.iaload, 1) := by decide +kernel
theorem dL_isInLoop_43 : decode cL_isInLoop 43 = .ok (.iload_n 1, 1) := by decide +kernel
theorem dL_isInLoop_44 : decode cL_isInLoop 44 = .ok (.if_icmp .gt 5, 3) := by decide +kernel
theorem dL_isInLoop_47 : decode cL_isInLoop 47 = .ok (.iconst 1, 1) := by decide +kernel
theorem dL_isInLoop_48 : decode cL_isInLoop 48 = .ok (.ireturn, 1) := by decide +kernel
theorem dL_isInLoop_49 : decode cL_isInLoop 49 = .ok (.iinc 2 1, 3) := by decide +kernel
theorem dL_isInLoop_52 : decode cL_isInLoop 52 = .ok (.goto (-50), 3) := by decide +kernel
theorem dL_isInLoop_55 : decode cL_isInLoop 55 = .ok (.iconst 0, 1) := by decide +kernel
theorem dL_isInLoop_56 : decode cL_isInLoop 56 = .ok (.ireturn, 1) := by decide +kernel
theorem dL_isSound_0 : decode cL_isSound 0 = .ok (.iconst 0, 1) := by decide +kernel
theorem dL_isSound_1 : decode cL_isSound 1 = .ok (.istore_n 2, 1) := by decide +kernel
theorem dL_isSound_2 : decode cL_isSound 2 = .ok (.iload_n 2, 1) := by decide +kernel
theorem dL_isSound_3 : decode cL_isSound 3 = .ok (.aload_n 1, 1) := by decide +kernel
theorem dL_isSound_4 : decode cL_isSound 4 = .ok (.getfield 9, 3) := by decide +kernel
theorem dL_isSound_7 : decode cL_isSound 7 = .ok (.arraylength, 1) := by decide +kernel
theorem dL_isSound_8 : decode cL_isSound 8 = .ok (.if_icmp .ge 67, 3) := by decide +kernel
theorem dL_isSound_11 : decode cL_isSound 11 = .ok (.aload_n 0, 1) := by decide +kernel
theorem dL_isSound_12 : decode cL_isSound 12 = .ok (.iload_n 2, 1) := by decide +kernel
theorem dL_isSound_13 : decode cL_isSound 13 = .ok (.iconst 5, 1) := by decide +kernel
theorem dL_isSound_14 : decode cL_isSound 14 = .ok (.invokevirtual 132, 3) := by decide +kernel
theorem dL_isSound_17 : decode cL_isSound 17 = .ok (.iconst 1, 1) := by decide +kernel
theorem dL_isSound_18 : decode cL_isSound 18 = .ok (.if_icmp .ne 6, 3) := by decide +kernel
theorem dL_isSound_21 : decode cL_isSound 21 = .ok (.goto 48, 3) := by decide +kernel
theorem dL_isSound_24 : decode cL_isSound 24 = .ok (.aload_n 1, 1) := by decide +kernel
theorem dL_isSound_25 : decode cL_isSound 25 = .ok (.iload_n 2, 1) := by decide +kernel
theorem dL_isSound_26 : decode cL_isSound 26 = .ok (.invokevirtual 135, 3) := by decide +kernel
theorem dL_isSound_29 : decode cL_isSound 29 = .ok (.astore_n 3, 1) := by decide +kernel
theorem dL_isSound_30 : decode cL_isSound 30 = .ok (.aload_n 3, 1) := by decide +kernel
theorem dL_isSound_31 : decode cL_isSound 31 = .ok (.arraylength, 1) := by decide +kernel
theorem dL_isSound_32 : decode cL_isSound 32 = .ok (.istore 4, 2) := by decide +kernel
theorem dL_isSound_34 : decode cL_isSound 34 = .ok (.iconst 0, 1) := by decide +kernel
theorem dL_isSound_35 : decode cL_isSound 35 = .ok (.istore 5, 2) := by decide +kernel
theorem dL_isSound_37 : decode cL_isSound 37 = .ok (.iload 5, 2) := by decide +kernel
theorem dL_isSound_39 : decode cL_isSound 39 = .ok (.iload 4, 2) := by decide +kernel
theorem dL_isSound_41 : decode cL_isSound 41 = .ok (.if_icmp .ge 28, 3) := by decide +kernel
theorem dL_isSound_44 : decode cL_isSound 44 = .ok (.aload_n 3, 1) := by decide +kernel
theorem dL_isSound_45 : decode cL_isSound 45 = .ok (.iload 5, 2) := by decide +kernel
theorem dL_isSound_47 : decode cL_isSound 47 = .ok (.iaload, 1) := by decide +kernel
theorem dL_isSound_48 : decode cL_isSound 48 = .ok (.istore 6, 2) := by decide +kernel
theorem dL_isSound_50 : decode cL_isSound 50 = .ok (.aload_n 0, 1) := by decide +kernel
theorem dL_isSound_51 : decode cL_isSound 51 = .ok (.iload_n 2, 1) := by decide +kernel
theorem dL_isSound_52 : decode cL_isSound 52 = .ok (.iload 6, 2) := by decide +kernel
theorem dL_isSound_54 : decode cL_isSound 54 = .ok (.invokevirtual 139, 3) := by decide +kernel
theorem dL_isSound_57 : decode cL_isSound 57 = .ok (.iconst 1, 1) := by decide +kernel
theorem dL_isSound_58 : decode cL_isSound 58 = .ok (.if_icmp .eq 5, 3) := by decide +kernel
theorem dL_isSound_61 : decode cL_isSound 61 = .ok (.iconst 0, 1) := by decide +kernel
theorem dL_isSound_62 : decode cL_isSound 62 = .ok (.ireturn, 1) := by decide +kernel
theorem dL_isSound_63 : decode cL_isSound 63 = .ok (.iinc 5 1, 3) := by decide +kernel
theorem dL_isSound_66 : decode cL_isSound 66 = .ok (.goto (-29), 3) := by decide +kernel
theorem dL_isSound_69 : decode cL_isSound 69 = .ok (.iinc 2 1, 3) := by decide +kernel
theorem dL_isSound_72 : decode cL_isSound 72 = .ok (.goto (-70), 3) := by decide +kernel
theorem dL_isSound_75 : decode cL_isSound 75 = .ok (.iconst 0, 1) := by decide +kernel
theorem dL_isSound_76 : decode cL_isSound 76 = .ok (.istore_n 2, 1) := by decide +kernel
theorem dL_isSound_77 : decode cL_isSound 77 = .ok (.iload_n 2, 1) := by decide +kernel
theorem dL_isSound_78 : decode cL_isSound 78 = .ok (.aload_n 1, 1) := by decide +kernel
theorem dL_isSound_79 : decode cL_isSound 79 = .ok (.getfield 9, 3) := by decide +kernel
theorem dL_isSound_82 : decode cL_isSound 82 = .ok (.arraylength, 1) := by decide +kernel
theorem dL_isSound_83 : decode cL_isSound 83 = .ok (.if_icmp .gt 173, 3) := by decide +kernel
theorem dL_isSound_86 : decode cL_isSound 86 = .ok (.bipush 6, 2) := by decide +kernel
theorem dL_isSound_88 : decode cL_isSound 88 = .ok (.istore_n 3, 1) := by decide +kernel
theorem dL_isSound_89 : decode cL_isSound 89 = .ok (.iload_n 3, 1) := by decide +kernel
theorem dL_isSound_90 : decode cL_isSound 90 = .ok (.bipush 12, 2) := by decide +kernel
theorem dL_isSound_92 : decode cL_isSound 92 = .ok (.if_icmp .ge 158, 3) := by decide +kernel
theorem dL_isSound_95 : decode cL_isSound 95 = .ok (.iload_n 2, 1) := by decide +kernel
theorem dL_isSound_96 : decode cL_isSound 96 = .ok (.aload_n 1, 1) := by decide +kernel
theorem dL_isSound_97 : decode cL_isSound 97 = .ok (.getfield 9, 3) := by decide +kernel
theorem dL_isSound_100 : decode cL_isSound 100 = .ok (.arraylength, 1) := by decide +kernel
theorem dL_isSound_101 : decode cL_isSound 101 = .ok (.if_icmp .ge 27, 3) := by decide +kernel
theorem dL_isSound_104 : decode cL_isSound 104 = .ok (.aload_n 1, 1) := by decide +kernel
theorem dL_isSound_105 : decode cL_isSound 105 = .ok (.getfield 9, 3) := by decide +kernel
theorem dL_isSound_108 : decode cL_isSound 108 = .ok (.iload_n 2, 1) := by decide +kernel
theorem dL_isSound_109 : decode cL_isSound 109 = .ok (.aaload, 1) := by decide +kernel
theorem dL_isSound_110 : decode cL_isSound 110 = .ok (.iconst 0, 1) := by decide +kernel
theorem dL_isSound_111 : decode cL_isSound 111 = .ok (.iaload, 1) := by decide +kernel
theorem dL_isSound_112 : decode cL_isSound 112 = .ok (.bipush 11, 2) := by decide +kernel
theorem dL_isSound_114 : decode cL_isSound 114 = .ok (.if_icmp .eq 130, 3) := by decide +kernel
theorem dL_isSound_117 : decode cL_isSound 117 = .ok (.aload_n 1, 1) := by decide +kernel
theorem dL_isSound_118 : decode cL_isSound 118 = .ok (.iload_n 2, 1) := by decide +kernel
theorem dL_isSound_119 : decode cL_isSound 119 = .ok (.invokestatic 142, 3) := by decide +kernel
theorem dL_isSound_122 : decode cL_isSound 122 = .ok (.ifCond .eq 6, 3) := by decide +kernel
theorem dL_isSound_125 : decode cL_isSound 125 = .ok (.goto 119, 3) := by decide +kernel
theorem dL_isSound_128 : decode cL_isSound 128 = .ok (.aload_n 1, 1) := by decide +kernel
theorem dL_isSound_129 : decode cL_isSound 129 = .ok (.iload_n 3, 1) := by decide +kernel
theorem dL_isSound_130 : decode cL_isSound 130 = .ok (.invokevirtual 146, 3) := by decide +kernel
theorem dL_isSound_133 : decode cL_isSound 133 = .ok (.ifCond .eq 12, 3) := by decide +kernel
theorem dL_isSound_136 : decode cL_isSound 136 = .ok (.aload_n 0, 1) := by decide +kernel
theorem dL_isSound_137 : decode cL_isSound 137 = .ok (.iload_n 2, 1) := by decide +kernel
theorem dL_isSound_138 : decode cL_isSound 138 = .ok (.iload_n 3, 1) := by decide +kernel
theorem dL_isSound_139 : decode cL_isSound 139 = .ok (.invokevirtual 118, 3) := by decide +kernel
theorem dL_isSound_142 : decode cL_isSound 142 = .ok (.goto 4, 3) := by decide +kernel
theorem dL_isSound_145 : decode cL_isSound 145 = .ok (.iconst 0, 1) := by decide +kernel
theorem dL_isSound_146 : decode cL_isSound 146 = .ok (.istore 4, 2) := by decide +kernel
theorem dL_isSound_148 : decode cL_isSound 148 = .ok (.aload_n 1, 1) := by decide +kernel
theorem dL_isSound_149 : decode cL_isSound 149 = .ok (.iload_n 3, 1) := by decide +kernel
theorem dL_isSound_150 : decode cL_isSound 150 = .ok (.invokevirtual 146, 3) := by decide +kernel
theorem dL_isSound_153 : decode cL_isSound 153 = .ok (.ifCond .eq 12, 3) := by decide +kernel
theorem dL_isSound_156 : decode cL_isSound 156 = .ok (.aload_n 0, 1) := by decide +kernel
theorem dL_isSound_157 : decode cL_isSound 157 = .ok (.iload_n 2, 1) := by decide +kernel
theorem dL_isSound_158 : decode cL_isSound 158 = .ok (.iload_n 3, 1) := by decide +kernel
theorem dL_isSound_159 : decode cL_isSound 159 = .ok (.invokevirtual 139, 3) := by decide +kernel
theorem dL_isSound_162 : decode cL_isSound 162 = .ok (.goto 4, 3) := by decide +kernel
theorem dL_isSound_165 : decode cL_isSound 165 = .ok (.iconst 0, 1) := by decide +kernel
theorem dL_isSound_166 : decode cL_isSound 166 = .ok (.istore 5, 2) := by decide +kernel
theorem dL_isSound_168 : decode cL_isSound 168 = .ok (.iload 4, 2) := by decide +kernel
theorem dL_isSound_170 : decode cL_isSound 170 = .ok (.iconst 3, 1) := by decide +kernel
theorem dL_isSound_171 : decode cL_isSound 171 = .ok (.if_icmp .gt 71, 3) := by decide +kernel
theorem dL_isSound_174 : decode cL_isSound 174 = .ok (.iload 4, 2) := by decide +kernel
theorem dL_isSound_176 : decode cL_isSound 176 = .ok (.iconst 3, 1) := by decide +kernel
theorem dL_isSound_177 : decode cL_isSound 177 = .ok (.if_icmp .ne 7, 3) := by decide +kernel
theorem dL_isSound_180 : decode cL_isSound 180 = .ok (.iconst 1, 1) := by decide +kernel
theorem dL_isSound_181 : decode cL_isSound 181 = .ok (.goto 4, 3) := by decide +kernel
theorem dL_isSound_184 : decode cL_isSound 184 = .ok (.iconst 0, 1) := by decide +kernel
theorem dL_isSound_185 : decode cL_isSound 185 = .ok (.iload 5, 2) := by decide +kernel
theorem dL_isSound_187 : decode cL_isSound 187 = .ok (.iconst 1, 1) := by decide +kernel
theorem dL_isSound_188 : decode cL_isSound 188 = .ok (.if_icmp .ne 16, 3) := by decide +kernel
theorem dL_isSound_191 : decode cL_isSound 191 = .ok (.aload_n 0, 1) := by decide +kernel
theorem dL_isSound_192 : decode cL_isSound 192 = .ok (.iload_n 2, 1) := by decide +kernel
theorem dL_isSound_193 : decode cL_isSound 193 = .ok (.iload_n 3, 1) := by decide +kernel
theorem dL_isSound_194 : decode cL_isSound 194 = .ok (.invokevirtual 150, 3) := by decide +kernel
theorem dL_isSound_197 : decode cL_isSound 197 = .ok (.ifCond .lt 7, 3) := by decide +kernel
theorem dL_isSound_200 : decode cL_isSound 200 = .ok (.iconst 1, 1) := by decide +kernel
theorem dL_isSound_201 : decode cL_isSound 201 = .ok (.goto 4, 3) := by decide +kernel
theorem dL_isSound_204 : decode cL_isSound 204 = .ok (.iconst 0, 1) := by decide +kernel
theorem dL_isSound_205 : decode cL_isSound 205 = .ok (.if_icmp .ne 37, 3) := by decide +kernel
theorem dL_isSound_208 : decode cL_isSound 208 = .ok (.iload 4, 2) := by decide +kernel
theorem dL_isSound_210 : decode cL_isSound 210 = .ok (.iconst 1, 1) := by decide +kernel
theorem dL_isSound_211 : decode cL_isSound 211 = .ok (.if_icmp .ne 9, 3) := by decide +kernel
theorem dL_isSound_214 : decode cL_isSound 214 = .ok (.iload 5, 2) := by decide +kernel
theorem dL_isSound_216 : decode cL_isSound 216 = .ok (.iconst 2, 1) := by decide +kernel
theorem dL_isSound_217 : decode cL_isSound 217 = .ok (.if_icmp .ne 25, 3) := by decide +kernel
theorem dL_isSound_220 : decode cL_isSound 220 = .ok (.iload 4, 2) := by decide +kernel
theorem dL_isSound_222 : decode cL_isSound 222 = .ok (.iconst 2, 1) := by decide +kernel
theorem dL_isSound_223 : decode cL_isSound 223 = .ok (.if_icmp .ne 9, 3) := by decide +kernel
theorem dL_isSound_226 : decode cL_isSound 226 = .ok (.iload 5, 2) := by decide +kernel
theorem dL_isSound_228 : decode cL_isSound 228 = .ok (.iconst 1, 1) := by decide +kernel
theorem dL_isSound_229 : decode cL_isSound 229 = .ok (.if_icmp .eq 13, 3) := by decide +kernel
theorem dL_isSound_232 : decode cL_isSound 232 = .ok (.iload 5, 2) := by decide +kernel
theorem dL_isSound_234 : decode cL_isSound 234 = .ok (.ifCond .ne 10, 3) := by decide +kernel
theorem dL_isSound_237 : decode cL_isSound 237 = .ok (.iload 4, 2) := by decide +kernel
theorem dL_isSound_239 : decode cL_isSound 239 = .ok (.ifCond .eq 5, 3) := by decide +kernel
theorem dL_isSound_242 : decode cL_isSound 242 = .ok (.iconst 0, 1) := by decide +kernel
theorem dL_isSound_243 : decode cL_isSound 243 = .ok (.ireturn, 1) := by decide +kernel
theorem dL_isSound_244 : decode cL_isSound 244 = .ok (.iinc 3 1, 3) := by decide +kernel
theorem dL_isSound_247 : decode cL_isSound 247 = .ok (.goto (-158), 3) := by decide +kernel
theorem dL_isSound_250 : decode cL_isSound 250 = .ok (.iinc 2 1, 3) := by decide +kernel
theorem dL_isSound_253 : decode cL_isSound 253 = .ok (.goto (-176), 3) := by decide +kernel
theorem dL_isSound_256 : decode cL_isSound 256 = .ok (.iconst 1, 1) := by decide +kernel
theorem dL_isSound_257 : decode cL_isSound 257 = .ok (.ireturn, 1) := by decide +kernel
