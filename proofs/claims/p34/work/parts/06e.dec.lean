theorem dL_take_61 : decode cL_take 61 = .ok (.iconst 3, 1) := by decide +kernel
theorem dL_take_62 : decode cL_take 62 = .ok (.aload_n 0, 1) := by decide +kernel
theorem dL_take_63 : decode cL_take 63 = .ok (.iload 11, 2) := by decide +kernel
theorem dL_take_65 : decode cL_take 65 = .ok (.iconst 3, 1) := by decide +kernel
theorem dL_take_66 : decode cL_take 66 = .ok (.iadd, 1) := by decide +kernel
theorem dL_take_67 : decode cL_take 67 = .ok (.iaload, 1) := by decide +kernel
theorem dL_take_68 : decode cL_take 68 = .ok (.imul, 1) := by decide +kernel
theorem dL_take_69 : decode cL_take 69 = .ok (.iconst 1, 1) := by decide +kernel
theorem dL_take_70 : decode cL_take 70 = .ok (.iadd, 1) := by decide +kernel
theorem dL_take_71 : decode cL_take 71 = .ok (.iaload, 1) := by decide +kernel
theorem dL_take_72 : decode cL_take 72 = .ok (.imul, 1) := by decide +kernel
theorem dL_take_73 : decode cL_take 73 = .ok (.bipush 100, 2) := by decide +kernel
theorem dL_take_75 : decode cL_take 75 = .ok (.idiv, 1) := by decide +kernel
theorem dL_take_76 : decode cL_take 76 = .ok (.isub, 1) := by decide +kernel
theorem dL_take_77 : decode cL_take 77 = .ok (.i2l, 1) := by decide +kernel
theorem dL_take_78 : decode cL_take 78 = .ok (.lstore 15, 2) := by decide +kernel
theorem dL_take_80 : decode cL_take 80 = .ok (.lload 15, 2) := by decide +kernel
theorem dL_take_82 : decode cL_take 82 = .ok (.lconst 0, 1) := by decide +kernel
theorem dL_take_83 : decode cL_take 83 = .ok (.lcmp, 1) := by decide +kernel
theorem dL_take_84 : decode cL_take 84 = .ok (.ifCond .ge 7, 3) := by decide +kernel
theorem dL_take_87 : decode cL_take 87 = .ok (.lconst 0, 1) := by decide +kernel
theorem dL_take_88 : decode cL_take 88 = .ok (.goto 5, 3) := by decide +kernel
theorem dL_take_91 : decode cL_take 91 = .ok (.lload 15, 2) := by decide +kernel
theorem dL_take_93 : decode cL_take 93 = .ok (.lstore 15, 2) := by decide +kernel
theorem dL_take_95 : decode cL_take 95 = .ok (.lload 15, 2) := by decide +kernel
theorem dL_take_97 : decode cL_take 97 = .ok (.lstore 17, 2) := by decide +kernel
theorem dL_take_99 : decode cL_take 99 = .ok (.aload_n 0, 1) := by decide +kernel
theorem dL_take_100 : decode cL_take 100 = .ok (.iload 11, 2) := by decide +kernel
theorem dL_take_102 : decode cL_take 102 = .ok (.iconst 2, 1) := by decide +kernel
theorem dL_take_103 : decode cL_take 103 = .ok (.iadd, 1) := by decide +kernel
theorem dL_take_104 : decode cL_take 104 = .ok (.iconst 1, 1) := by decide +kernel
theorem dL_take_105 : decode cL_take 105 = .ok (.iastore, 1) := by decide +kernel
theorem dL_take_106 : decode cL_take 106 = .ok (.aload_n 0, 1) := by decide +kernel
theorem dL_take_107 : decode cL_take 107 = .ok (.iload 11, 2) := by decide +kernel
theorem dL_take_109 : decode cL_take 109 = .ok (.iconst 5, 1) := by decide +kernel
theorem dL_take_110 : decode cL_take 110 = .ok (.iadd, 1) := by decide +kernel
theorem dL_take_111 : decode cL_take 111 = .ok (.iload 10, 2) := by decide +kernel
theorem dL_take_113 : decode cL_take 113 = .ok (.iastore, 1) := by decide +kernel
theorem dL_take_114 : decode cL_take 114 = .ok (.iconst 0, 1) := by decide +kernel
theorem dL_take_115 : decode cL_take 115 = .ok (.istore 19, 2) := by decide +kernel
theorem dL_take_117 : decode cL_take 117 = .ok (.iload 19, 2) := by decide +kernel
theorem dL_take_119 : decode cL_take 119 = .ok (.iload 7, 2) := by decide +kernel
theorem dL_take_121 : decode cL_take 121 = .ok (.if_icmp .ge 157, 3) := by decide +kernel
theorem dL_take_124 : decode cL_take 124 = .ok (.aload_n 1, 1) := by decide +kernel
theorem dL_take_125 : decode cL_take 125 = .ok (.iload 19, 2) := by decide +kernel
theorem dL_take_127 : decode cL_take 127 = .ok (.iaload, 1) := by decide +kernel
theorem dL_take_128 : decode cL_take 128 = .ok (.iconst 2, 1) := by decide +kernel
theorem dL_take_129 : decode cL_take 129 = .ok (.if_icmp .ne 51, 3) := by decide +kernel
theorem dL_take_132 : decode cL_take 132 = .ok (.aload_n 1, 1) := by decide +kernel
theorem dL_take_133 : decode cL_take 133 = .ok (.bipush 24, 2) := by decide +kernel
theorem dL_take_135 : decode cL_take 135 = .ok (.iload 19, 2) := by decide +kernel
theorem dL_take_137 : decode cL_take 137 = .ok (.iadd, 1) := by decide +kernel
theorem dL_take_138 : decode cL_take 138 = .ok (.iaload, 1) := by decide +kernel
theorem dL_take_139 : decode cL_take 139 = .ok (.iload 8, 2) := by decide +kernel
theorem dL_take_141 : decode cL_take 141 = .ok (.if_icmp .ne 39, 3) := by decide +kernel
theorem dL_take_144 : decode cL_take 144 = .ok (.aload 6, 2) := by decide +kernel
theorem dL_take_146 : decode cL_take 146 = .ok (.iload 19, 2) := by decide +kernel
theorem dL_take_148 : decode cL_take 148 = .ok (.lload 17, 2) := by decide +kernel
theorem dL_take_150 : decode cL_take 150 = .ok (.aload_n 2, 1) := by decide +kernel
theorem dL_take_151 : decode cL_take 151 = .ok (.iload 19, 2) := by decide +kernel
theorem dL_take_153 : decode cL_take 153 = .ok (.iaload, 1) := by decide +kernel
theorem dL_take_154 : decode cL_take 154 = .ok (.i2l, 1) := by decide +kernel
theorem dL_take_155 : decode cL_take 155 = .ok (.lcmp, 1) := by decide +kernel
theorem dL_take_156 : decode cL_take 156 = .ok (.ifCond .ge 8, 3) := by decide +kernel
theorem dL_take_159 : decode cL_take 159 = .ok (.lload 17, 2) := by decide +kernel
theorem dL_take_161 : decode cL_take 161 = .ok (.goto 8, 3) := by decide +kernel
theorem dL_take_164 : decode cL_take 164 = .ok (.aload_n 2, 1) := by decide +kernel
theorem dL_take_165 : decode cL_take 165 = .ok (.iload 19, 2) := by decide +kernel
theorem dL_take_167 : decode cL_take 167 = .ok (.iaload, 1) := by decide +kernel
theorem dL_take_168 : decode cL_take 168 = .ok (.i2l, 1) := by decide +kernel
theorem dL_take_169 : decode cL_take 169 = .ok (.lastore, 1) := by decide +kernel
theorem dL_take_170 : decode cL_take 170 = .ok (.lload 17, 2) := by decide +kernel
theorem dL_take_172 : decode cL_take 172 = .ok (.aload 6, 2) := by decide +kernel
theorem dL_take_174 : decode cL_take 174 = .ok (.iload 19, 2) := by decide +kernel
theorem dL_take_176 : decode cL_take 176 = .ok (.laload, 1) := by decide +kernel
theorem dL_take_177 : decode cL_take 177 = .ok (.lsub, 1) := by decide +kernel
theorem dL_take_178 : decode cL_take 178 = .ok (.lstore 17, 2) := by decide +kernel
theorem dL_take_180 : decode cL_take 180 = .ok (.aload_n 1, 1) := by decide +kernel
theorem dL_take_181 : decode cL_take 181 = .ok (.iload 19, 2) := by decide +kernel
theorem dL_take_183 : decode cL_take 183 = .ok (.iaload, 1) := by decide +kernel
theorem dL_take_184 : decode cL_take 184 = .ok (.iconst 1, 1) := by decide +kernel
theorem dL_take_185 : decode cL_take 185 = .ok (.if_icmp .ne 87, 3) := by decide +kernel
theorem dL_take_188 : decode cL_take 188 = .ok (.aload_n 1, 1) := by decide +kernel
theorem dL_take_189 : decode cL_take 189 = .ok (.bipush 24, 2) := by decide +kernel
theorem dL_take_191 : decode cL_take 191 = .ok (.iload 19, 2) := by decide +kernel
theorem dL_take_193 : decode cL_take 193 = .ok (.iadd, 1) := by decide +kernel
theorem dL_take_194 : decode cL_take 194 = .ok (.iaload, 1) := by decide +kernel
theorem dL_take_195 : decode cL_take 195 = .ok (.iload 8, 2) := by decide +kernel
theorem dL_take_197 : decode cL_take 197 = .ok (.if_icmp .ne 75, 3) := by decide +kernel
theorem dL_take_200 : decode cL_take 200 = .ok (.aload_n 2, 1) := by decide +kernel
theorem dL_take_201 : decode cL_take 201 = .ok (.iload 19, 2) := by decide +kernel
theorem dL_take_203 : decode cL_take 203 = .ok (.iaload, 1) := by decide +kernel
theorem dL_take_204 : decode cL_take 204 = .ok (.iload 10, 2) := by decide +kernel
theorem dL_take_206 : decode cL_take 206 = .ok (.isub, 1) := by decide +kernel
theorem dL_take_207 : decode cL_take 207 = .ok (.sipush 730, 3) := by decide +kernel
theorem dL_take_210 : decode cL_take 210 = .ok (.if_icmp .le 9, 3) := by decide +kernel
theorem dL_take_213 : decode cL_take 213 = .ok (.ldc2_w 80, 3) := by decide +kernel
theorem dL_take_216 : decode cL_take 216 = .ok (.goto 11, 3) := by decide +kernel
theorem dL_take_219 : decode cL_take 219 = .ok (.aload_n 2, 1) := by decide +kernel
theorem dL_take_220 : decode cL_take 220 = .ok (.iload 19, 2) := by decide +kernel
theorem dL_take_222 : decode cL_take 222 = .ok (.iaload, 1) := by decide +kernel
theorem dL_take_223 : decode cL_take 223 = .ok (.iload 10, 2) := by decide +kernel
theorem dL_take_225 : decode cL_take 225 = .ok (.isub, 1) := by decide +kernel
theorem dL_take_226 : decode cL_take 226 = .ok (.i2l, 1) := by decide +kernel
theorem dL_take_227 : decode cL_take 227 = .ok (.lstore 20, 2) := by decide +kernel
theorem dL_take_229 : decode cL_take 229 = .ok (.aload 6, 2) := by decide +kernel
theorem dL_take_231 : decode cL_take 231 = .ok (.iload 19, 2) := by decide +kernel
theorem dL_take_233 : decode cL_take 233 = .ok (.lload 20, 2) := by decide +kernel
theorem dL_take_235 : decode cL_take 235 = .ok (.lconst 0, 1) := by decide +kernel
theorem dL_take_236 : decode cL_take 236 = .ok (.lcmp, 1) := by decide +kernel
theorem dL_take_237 : decode cL_take 237 = .ok (.ifCond .gt 7, 3) := by decide +kernel
theorem dL_take_240 : decode cL_take 240 = .ok (.lconst 0, 1) := by decide +kernel
theorem dL_take_241 : decode cL_take 241 = .ok (.goto 30, 3) := by decide +kernel
theorem dL_take_244 : decode cL_take 244 = .ok (.lload 20, 2) := by decide +kernel
theorem dL_take_246 : decode cL_take 246 = .ok (.aload_n 0, 1) := by decide +kernel
theorem dL_take_247 : decode cL_take 247 = .ok (.iload 11, 2) := by decide +kernel
theorem dL_take_249 : decode cL_take 249 = .ok (.iconst 1, 1) := by decide +kernel
theorem dL_take_250 : decode cL_take 250 = .ok (.iadd, 1) := by decide +kernel
theorem dL_take_251 : decode cL_take 251 = .ok (.iaload, 1) := by decide +kernel
theorem dL_take_252 : decode cL_take 252 = .ok (.iconst 2, 1) := by decide +kernel
theorem dL_take_253 : decode cL_take 253 = .ok (.if_icmp .ne 8, 3) := by decide +kernel
theorem dL_take_256 : decode cL_take 256 = .ok (.bipush 90, 2) := by decide +kernel
theorem dL_take_258 : decode cL_take 258 = .ok (.goto 4, 3) := by decide +kernel
theorem dL_take_261 : decode cL_take 261 = .ok (.iconst 0, 1) := by decide +kernel
theorem dL_take_262 : decode cL_take 262 = .ok (.i2l, 1) := by decide +kernel
theorem dL_take_263 : decode cL_take 263 = .ok (.ladd, 1) := by decide +kernel
theorem dL_take_264 : decode cL_take 264 = .ok (.aload 4, 2) := by decide +kernel
theorem dL_take_266 : decode cL_take 266 = .ok (.iload 19, 2) := by decide +kernel
theorem dL_take_268 : decode cL_take 268 = .ok (.iaload, 1) := by decide +kernel
theorem dL_take_269 : decode cL_take 269 = .ok (.i2l, 1) := by decide +kernel
theorem dL_take_270 : decode cL_take 270 = .ok (.lmul, 1) := by decide +kernel
theorem dL_take_271 : decode cL_take 271 = .ok (.lastore, 1) := by decide +kernel
theorem dL_take_272 : decode cL_take 272 = .ok (.iinc 19 1, 3) := by decide +kernel
theorem dL_take_275 : decode cL_take 275 = .ok (.goto (-158), 3) := by decide +kernel
theorem dL_take_278 : decode cL_take 278 = .ok (.lload 17, 2) := by decide +kernel
theorem dL_take_280 : decode cL_take 280 = .ok (.lstore 19, 2) := by decide +kernel
theorem dL_take_282 : decode cL_take 282 = .ok (.iconst 0, 1) := by decide +kernel
theorem dL_take_283 : decode cL_take 283 = .ok (.istore 21, 2) := by decide +kernel
theorem dL_take_285 : decode cL_take 285 = .ok (.iload 21, 2) := by decide +kernel
theorem dL_take_287 : decode cL_take 287 = .ok (.iload 7, 2) := by decide +kernel
theorem dL_take_289 : decode cL_take 289 = .ok (.if_icmp .ge 101, 3) := by decide +kernel
theorem dL_take_292 : decode cL_take 292 = .ok (.aload_n 1, 1) := by decide +kernel
theorem dL_take_293 : decode cL_take 293 = .ok (.iload 21, 2) := by decide +kernel
theorem dL_take_295 : decode cL_take 295 = .ok (.iaload, 1) := by decide +kernel
theorem dL_take_296 : decode cL_take 296 = .ok (.ifCond .ne 88, 3) := by decide +kernel
theorem dL_take_299 : decode cL_take 299 = .ok (.aload_n 1, 1) := by decide +kernel
theorem dL_take_300 : decode cL_take 300 = .ok (.bipush 24, 2) := by decide +kernel
theorem dL_take_302 : decode cL_take 302 = .ok (.iload 21, 2) := by decide +kernel
theorem dL_take_304 : decode cL_take 304 = .ok (.iadd, 1) := by decide +kernel
theorem dL_take_305 : decode cL_take 305 = .ok (.iaload, 1) := by decide +kernel
theorem dL_take_306 : decode cL_take 306 = .ok (.iload 8, 2) := by decide +kernel
theorem dL_take_308 : decode cL_take 308 = .ok (.if_icmp .ne 76, 3) := by decide +kernel
theorem dL_take_311 : decode cL_take 311 = .ok (.lload 17, 2) := by decide +kernel
theorem dL_take_313 : decode cL_take 313 = .ok (.aload_n 2, 1) := by decide +kernel
theorem dL_take_314 : decode cL_take 314 = .ok (.iload 21, 2) := by decide +kernel
theorem dL_take_316 : decode cL_take 316 = .ok (.iaload, 1) := by decide +kernel
theorem dL_take_317 : decode cL_take 317 = .ok (.i2l, 1) := by decide +kernel
theorem dL_take_318 : decode cL_take 318 = .ok (.lmul, 1) := by decide +kernel
theorem dL_take_319 : decode cL_take 319 = .ok (.ldc2_w 82, 3) := by decide +kernel
theorem dL_take_322 : decode cL_take 322 = .ok (.ldiv, 1) := by decide +kernel
theorem dL_take_323 : decode cL_take 323 = .ok (.lstore 22, 2) := by decide +kernel
theorem dL_take_325 : decode cL_take 325 = .ok (.lload 19, 2) := by decide +kernel
theorem dL_take_327 : decode cL_take 327 = .ok (.lload 22, 2) := by decide +kernel
theorem dL_take_329 : decode cL_take 329 = .ok (.lsub, 1) := by decide +kernel
theorem dL_take_330 : decode cL_take 330 = .ok (.lstore 19, 2) := by decide +kernel
theorem dL_take_332 : decode cL_take 332 = .ok (.aload 6, 2) := by decide +kernel
theorem dL_take_334 : decode cL_take 334 = .ok (.iload 21, 2) := by decide +kernel
theorem dL_take_336 : decode cL_take 336 = .ok (.lload 22, 2) := by decide +kernel
theorem dL_take_338 : decode cL_take 338 = .ok (.aload_n 0, 1) := by decide +kernel
theorem dL_take_339 : decode cL_take 339 = .ok (.iload 11, 2) := by decide +kernel
theorem dL_take_341 : decode cL_take 341 = .ok (.iconst 1, 1) := by decide +kernel
theorem dL_take_342 : decode cL_take 342 = .ok (.iadd, 1) := by decide +kernel
theorem dL_take_343 : decode cL_take 343 = .ok (.iaload, 1) := by decide +kernel
theorem dL_take_344 : decode cL_take 344 = .ok (.iconst 1, 1) := by decide +kernel
theorem dL_take_345 : decode cL_take 345 = .ok (.if_icmp .ne 36, 3) := by decide +kernel
theorem dL_take_348 : decode cL_take 348 = .ok (.aload_n 0, 1) := by decide +kernel
theorem dL_take_349 : decode cL_take 349 = .ok (.iload 11, 2) := by decide +kernel
theorem dL_take_351 : decode cL_take 351 = .ok (.iconst 4, 1) := by decide +kernel
theorem dL_take_352 : decode cL_take 352 = .ok (.iadd, 1) := by decide +kernel
theorem dL_take_353 : decode cL_take 353 = .ok (.iaload, 1) := by decide +kernel
theorem dL_take_354 : decode cL_take 354 = .ok (.bipush 100, 2) := by decide +kernel
theorem dL_take_356 : decode cL_take 356 = .ok (.if_icmp .ne 25, 3) := by decide +kernel
theorem dL_take_359 : decode cL_take 359 = .ok (.iload 10, 2) := by decide +kernel
theorem dL_take_361 : decode cL_take 361 = .ok (.aload_n 3, 1) := by decide +kernel
theorem dL_take_362 : decode cL_take 362 = .ok (.iload 21, 2) := by decide +kernel
theorem dL_take_364 : decode cL_take 364 = .ok (.iaload, 1) := by decide +kernel
theorem dL_take_365 : decode cL_take 365 = .ok (.isub, 1) := by decide +kernel
theorem dL_take_366 : decode cL_take 366 = .ok (.sipush 365, 3) := by decide +kernel
theorem dL_take_369 : decode cL_take 369 = .ok (.if_icmp .lt 12, 3) := by decide +kernel
theorem dL_take_372 : decode cL_take 372 = .ok (.lload 22, 2) := by decide +kernel
theorem dL_take_374 : decode cL_take 374 = .ok (.ldc2_w 84, 3) := by decide +kernel
theorem dL_take_377 : decode cL_take 377 = .ok (.ldiv, 1) := by decide +kernel
theorem dL_take_378 : decode cL_take 378 = .ok (.goto 4, 3) := by decide +kernel
theorem dL_take_381 : decode cL_take 381 = .ok (.lconst 0, 1) := by decide +kernel
theorem dL_take_382 : decode cL_take 382 = .ok (.ladd, 1) := by decide +kernel
theorem dL_take_383 : decode cL_take 383 = .ok (.lastore, 1) := by decide +kernel
theorem dL_take_384 : decode cL_take 384 = .ok (.iinc 21 1, 3) := by decide +kernel
theorem dL_take_387 : decode cL_take 387 = .ok (.goto (-102), 3) := by decide +kernel
theorem dL_take_390 : decode cL_take 390 = .ok (.aload 6, 2) := by decide +kernel
theorem dL_take_392 : decode cL_take 392 = .ok (.bipush 24, 2) := by decide +kernel
theorem dL_take_394 : decode cL_take 394 = .ok (.dup2, 1) := by decide +kernel
theorem dL_take_395 : decode cL_take 395 = .ok (.laload, 1) := by decide +kernel
theorem dL_take_396 : decode cL_take 396 = .ok (.lload 19, 2) := by decide +kernel
theorem dL_take_398 : decode cL_take 398 = .ok (.ladd, 1) := by decide +kernel
theorem dL_take_399 : decode cL_take 399 = .ok (.lastore, 1) := by decide +kernel
theorem dL_take_400 : decode cL_take 400 = .ok (.aload 6, 2) := by decide +kernel
theorem dL_take_402 : decode cL_take 402 = .ok (.bipush 25, 2) := by decide +kernel
theorem dL_take_404 : decode cL_take 404 = .ok (.dup2, 1) := by decide +kernel
theorem dL_take_405 : decode cL_take 405 = .ok (.laload, 1) := by decide +kernel
theorem dL_take_406 : decode cL_take 406 = .ok (.lload 15, 2) := by decide +kernel
theorem dL_take_408 : decode cL_take 408 = .ok (.ladd, 1) := by decide +kernel
theorem dL_take_409 : decode cL_take 409 = .ok (.lastore, 1) := by decide +kernel
theorem dL_take_410 : decode cL_take 410 = .ok (.lload 15, 2) := by decide +kernel
theorem dL_take_412 : decode cL_take 412 = .ok (.lreturn, 1) := by decide +kernel
theorem dL_law_0 : decode cL_law 0 = .ok (.new 8, 3) := by decide +kernel
theorem dL_law_3 : decode cL_law 3 = .ok (.dup, 1) := by decide +kernel
theorem dL_law_4 : decode cL_law 4 = .ok (.invokespecial 86, 3) := by decide +kernel
theorem dL_law_7 : decode cL_law 7 = .ok (.astore_n 1, 1) := by decide +kernel
theorem dL_law_8 : decode cL_law 8 = .ok (.bipush 32, 2) := by decide +kernel
theorem dL_law_10 : decode cL_law 10 = .ok (.newarray .int, 2) := by decide +kernel
theorem dL_law_12 : decode cL_law 12 = .ok (.astore_n 2, 1) := by decide +kernel
theorem dL_law_13 : decode cL_law 13 = .ok (.bipush 48, 2) := by decide +kernel
theorem dL_law_15 : decode cL_law 15 = .ok (.newarray .int, 2) := by decide +kernel
theorem dL_law_17 : decode cL_law 17 = .ok (.astore_n 3, 1) := by decide +kernel
theorem dL_law_18 : decode cL_law 18 = .ok (.bipush 24, 2) := by decide +kernel
theorem dL_law_20 : decode cL_law 20 = .ok (.newarray .int, 2) := by decide +kernel
theorem dL_law_22 : decode cL_law 22 = .ok (.astore 4, 2) := by decide +kernel
theorem dL_law_24 : decode cL_law 24 = .ok (.bipush 24, 2) := by decide +kernel
theorem dL_law_26 : decode cL_law 26 = .ok (.newarray .int, 2) := by decide +kernel
theorem dL_law_28 : decode cL_law 28 = .ok (.astore 5, 2) := by decide +kernel
theorem dL_law_30 : decode cL_law 30 = .ok (.bipush 24, 2) := by decide +kernel
theorem dL_law_32 : decode cL_law 32 = .ok (.newarray .int, 2) := by decide +kernel
theorem dL_law_34 : decode cL_law 34 = .ok (.astore 6, 2) := by decide +kernel
theorem dL_law_36 : decode cL_law 36 = .ok (.bipush 24, 2) := by decide +kernel
theorem dL_law_38 : decode cL_law 38 = .ok (.newarray .int, 2) := by decide +kernel
theorem dL_law_40 : decode cL_law 40 = .ok (.astore 7, 2) := by decide +kernel
theorem dL_law_42 : decode cL_law 42 = .ok (.bipush 24, 2) := by decide +kernel
theorem dL_law_44 : decode cL_law 44 = .ok (.newarray .int, 2) := by decide +kernel
theorem dL_law_46 : decode cL_law 46 = .ok (.astore 8, 2) := by decide +kernel
theorem dL_law_48 : decode cL_law 48 = .ok (.bipush 8, 2) := by decide +kernel
theorem dL_law_50 : decode cL_law 50 = .ok (.newarray .int, 2) := by decide +kernel
theorem dL_law_52 : decode cL_law 52 = .ok (.astore 9, 2) := by decide +kernel
theorem dL_law_54 : decode cL_law 54 = .ok (.iconst 3, 1) := by decide +kernel
theorem dL_law_55 : decode cL_law 55 = .ok (.newarray .int, 2) := by decide +kernel
theorem dL_law_57 : decode cL_law 57 = .ok (.astore 10, 2) := by decide +kernel
theorem dL_law_59 : decode cL_law 59 = .ok (.bipush 24, 2) := by decide +kernel
theorem dL_law_61 : decode cL_law 61 = .ok (.newarray .int, 2) := by decide +kernel
theorem dL_law_63 : decode cL_law 63 = .ok (.astore 11, 2) := by decide +kernel
theorem dL_law_65 : decode cL_law 65 = .ok (.bipush 24, 2) := by decide +kernel
theorem dL_law_67 : decode cL_law 67 = .ok (.newarray .int, 2) := by decide +kernel
theorem dL_law_69 : decode cL_law 69 = .ok (.astore 12, 2) := by decide +kernel
theorem dL_law_71 : decode cL_law 71 = .ok (.iconst 4, 1) := by decide +kernel
theorem dL_law_72 : decode cL_law 72 = .ok (.newarray .int, 2) := by decide +kernel
theorem dL_law_74 : decode cL_law 74 = .ok (.astore 13, 2) := by decide +kernel
theorem dL_law_76 : decode cL_law 76 = .ok (.iconst 4, 1) := by decide +kernel
theorem dL_law_77 : decode cL_law 77 = .ok (.newarray .int, 2) := by decide +kernel
theorem dL_law_79 : decode cL_law 79 = .ok (.astore 14, 2) := by decide +kernel
theorem dL_law_81 : decode cL_law 81 = .ok (.bipush 26, 2) := by decide +kernel
theorem dL_law_83 : decode cL_law 83 = .ok (.newarray .long, 2) := by decide +kernel
theorem dL_law_85 : decode cL_law 85 = .ok (.astore 15, 2) := by decide +kernel
theorem dL_law_87 : decode cL_law 87 = .ok (.bipush 24, 2) := by decide +kernel
theorem dL_law_89 : decode cL_law 89 = .ok (.newarray .long, 2) := by decide +kernel
theorem dL_law_91 : decode cL_law 91 = .ok (.astore 16, 2) := by decide +kernel
theorem dL_law_93 : decode cL_law 93 = .ok (.bipush 24, 2) := by decide +kernel
theorem dL_law_95 : decode cL_law 95 = .ok (.newarray .long, 2) := by decide +kernel
theorem dL_law_97 : decode cL_law 97 = .ok (.astore 17, 2) := by decide +kernel
theorem dL_law_99 : decode cL_law 99 = .ok (.iconst 0, 1) := by decide +kernel
theorem dL_law_100 : decode cL_law 100 = .ok (.istore 18, 2) := by decide +kernel
theorem dL_law_102 : decode cL_law 102 = .ok (.iconst 0, 1) := by decide +kernel
theorem dL_law_103 : decode cL_law 103 = .ok (.istore 19, 2) := by decide +kernel
theorem dL_law_105 : decode cL_law 105 = .ok (.lconst 0, 1) := by decide +kernel
theorem dL_law_106 : decode cL_law 106 = .ok (.lstore 20, 2) := by decide +kernel
theorem dL_law_108 : decode cL_law 108 = .ok (.aload_n 0, 1) := by decide +kernel
theorem dL_law_109 : decode cL_law 109 = .ok (.iconst 0, 1) := by decide +kernel
theorem dL_law_110 : decode cL_law 110 = .ok (.invokestatic 87, 3) := by decide +kernel
theorem dL_law_113 : decode cL_law 113 = .ok (.istore 22, 2) := by decide +kernel
theorem dL_law_115 : decode cL_law 115 = .ok (.iconst 1, 1) := by decide +kernel
theorem dL_law_116 : decode cL_law 116 = .ok (.istore 23, 2) := by decide +kernel
theorem dL_law_118 : decode cL_law 118 = .ok (.iconst 0, 1) := by decide +kernel
theorem dL_law_119 : decode cL_law 119 = .ok (.istore 24, 2) := by decide +kernel
theorem dL_law_121 : decode cL_law 121 = .ok (.iload 24, 2) := by decide +kernel
theorem dL_law_123 : decode cL_law 123 = .ok (.iconst 4, 1) := by decide +kernel
theorem dL_law_124 : decode cL_law 124 = .ok (.if_icmp .ge 140, 3) := by decide +kernel
theorem dL_law_127 : decode cL_law 127 = .ok (.aload_n 2, 1) := by decide +kernel
theorem dL_law_128 : decode cL_law 128 = .ok (.bipush 8, 2) := by decide +kernel
theorem dL_law_130 : decode cL_law 130 = .ok (.iload 24, 2) := by decide +kernel
theorem dL_law_132 : decode cL_law 132 = .ok (.imul, 1) := by decide +kernel
theorem dL_law_133 : decode cL_law 133 = .ok (.iconst 1, 1) := by decide +kernel
theorem dL_law_134 : decode cL_law 134 = .ok (.iload 22, 2) := by decide +kernel
theorem dL_law_136 : decode cL_law 136 = .ok (.iload 24, 2) := by decide +kernel
theorem dL_law_138 : decode cL_law 138 = .ok (.iconst 1, 1) := by decide +kernel
theorem dL_law_139 : decode cL_law 139 = .ok (.iadd, 1) := by decide +kernel
theorem dL_law_140 : decode cL_law 140 = .ok (.idiv, 1) := by decide +kernel
theorem dL_law_141 : decode cL_law 141 = .ok (.bipush 100, 2) := by decide +kernel
theorem dL_law_143 : decode cL_law 143 = .ok (.invokestatic 91, 3) := by decide +kernel
theorem dL_law_146 : decode cL_law 146 = .ok (.iadd, 1) := by decide +kernel
theorem dL_law_147 : decode cL_law 147 = .ok (.iastore, 1) := by decide +kernel
theorem dL_law_148 : decode cL_law 148 = .ok (.aload_n 2, 1) := by decide +kernel
theorem dL_law_149 : decode cL_law 149 = .ok (.bipush 8, 2) := by decide +kernel
theorem dL_law_151 : decode cL_law 151 = .ok (.iload 24, 2) := by decide +kernel
theorem dL_law_153 : decode cL_law 153 = .ok (.imul, 1) := by decide +kernel
theorem dL_law_154 : decode cL_law 154 = .ok (.iconst 1, 1) := by decide +kernel
theorem dL_law_155 : decode cL_law 155 = .ok (.iadd, 1) := by decide +kernel
theorem dL_law_156 : decode cL_law 156 = .ok (.iload 24, 2) := by decide +kernel
theorem dL_law_158 : decode cL_law 158 = .ok (.iconst 3, 1) := by decide +kernel
theorem dL_law_159 : decode cL_law 159 = .ok (.if_icmp .ne 7, 3) := by decide +kernel
theorem dL_law_162 : decode cL_law 162 = .ok (.iconst 2, 1) := by decide +kernel
theorem dL_law_163 : decode cL_law 163 = .ok (.goto 21, 3) := by decide +kernel
theorem dL_law_166 : decode cL_law 166 = .ok (.iload 24, 2) := by decide +kernel
theorem dL_law_168 : decode cL_law 168 = .ok (.ifCond .ne 15, 3) := by decide +kernel
theorem dL_law_171 : decode cL_law 171 = .ok (.iload 22, 2) := by decide +kernel
theorem dL_law_173 : decode cL_law 173 = .ok (.bipush 8, 2) := by decide +kernel
theorem dL_law_175 : decode cL_law 175 = .ok (.idiv, 1) := by decide +kernel
theorem dL_law_176 : decode cL_law 176 = .ok (.iconst 2, 1) := by decide +kernel
theorem dL_law_177 : decode cL_law 177 = .ok (.invokestatic 91, 3) := by decide +kernel
theorem dL_law_180 : decode cL_law 180 = .ok (.goto 4, 3) := by decide +kernel
theorem dL_law_183 : decode cL_law 183 = .ok (.iconst 1, 1) := by decide +kernel
theorem dL_law_184 : decode cL_law 184 = .ok (.iastore, 1) := by decide +kernel
theorem dL_law_185 : decode cL_law 185 = .ok (.aload_n 2, 1) := by decide +kernel
theorem dL_law_186 : decode cL_law 186 = .ok (.bipush 8, 2) := by decide +kernel
theorem dL_law_188 : decode cL_law 188 = .ok (.iload 24, 2) := by decide +kernel
theorem dL_law_190 : decode cL_law 190 = .ok (.imul, 1) := by decide +kernel
theorem dL_law_191 : decode cL_law 191 = .ok (.iconst 3, 1) := by decide +kernel
theorem dL_law_192 : decode cL_law 192 = .ok (.iadd, 1) := by decide +kernel
theorem dL_law_193 : decode cL_law 193 = .ok (.iconst (-1), 1) := by decide +kernel
theorem dL_law_194 : decode cL_law 194 = .ok (.iastore, 1) := by decide +kernel
theorem dL_law_195 : decode cL_law 195 = .ok (.aload_n 2, 1) := by decide +kernel
theorem dL_law_196 : decode cL_law 196 = .ok (.bipush 8, 2) := by decide +kernel
theorem dL_law_198 : decode cL_law 198 = .ok (.iload 24, 2) := by decide +kernel
theorem dL_law_200 : decode cL_law 200 = .ok (.imul, 1) := by decide +kernel
theorem dL_law_201 : decode cL_law 201 = .ok (.iconst 5, 1) := by decide +kernel
theorem dL_law_202 : decode cL_law 202 = .ok (.iadd, 1) := by decide +kernel
theorem dL_law_203 : decode cL_law 203 = .ok (.iconst (-1), 1) := by decide +kernel
theorem dL_law_204 : decode cL_law 204 = .ok (.iastore, 1) := by decide +kernel
theorem dL_law_205 : decode cL_law 205 = .ok (.aload_n 2, 1) := by decide +kernel
theorem dL_law_206 : decode cL_law 206 = .ok (.bipush 8, 2) := by decide +kernel
theorem dL_law_208 : decode cL_law 208 = .ok (.iload 24, 2) := by decide +kernel
theorem dL_law_210 : decode cL_law 210 = .ok (.imul, 1) := by decide +kernel
theorem dL_law_211 : decode cL_law 211 = .ok (.bipush 7, 2) := by decide +kernel
theorem dL_law_213 : decode cL_law 213 = .ok (.iadd, 1) := by decide +kernel
theorem dL_law_214 : decode cL_law 214 = .ok (.iconst (-1), 1) := by decide +kernel
theorem dL_law_215 : decode cL_law 215 = .ok (.iastore, 1) := by decide +kernel
theorem dL_law_216 : decode cL_law 216 = .ok (.iload 23, 2) := by decide +kernel
theorem dL_law_218 : decode cL_law 218 = .ok (.ifCond .eq 37, 3) := by decide +kernel
theorem dL_law_221 : decode cL_law 221 = .ok (.aload_n 1, 1) := by decide +kernel
theorem dL_law_222 : decode cL_law 222 = .ok (.iload 24, 2) := by decide +kernel
theorem dL_law_224 : decode cL_law 224 = .ok (.invokestatic 95, 3) := by decide +kernel
theorem dL_law_227 : decode cL_law 227 = .ok (.aload_n 2, 1) := by decide +kernel
theorem dL_law_228 : decode cL_law 228 = .ok (.bipush 8, 2) := by decide +kernel
theorem dL_law_230 : decode cL_law 230 = .ok (.iload 24, 2) := by decide +kernel
theorem dL_law_232 : decode cL_law 232 = .ok (.imul, 1) := by decide +kernel
theorem dL_law_233 : decode cL_law 233 = .ok (.iaload, 1) := by decide +kernel
theorem dL_law_234 : decode cL_law 234 = .ok (.aload_n 2, 1) := by decide +kernel
theorem dL_law_235 : decode cL_law 235 = .ok (.bipush 8, 2) := by decide +kernel
theorem dL_law_237 : decode cL_law 237 = .ok (.iload 24, 2) := by decide +kernel
theorem dL_law_239 : decode cL_law 239 = .ok (.imul, 1) := by decide +kernel
theorem dL_law_240 : decode cL_law 240 = .ok (.iconst 1, 1) := by decide +kernel
theorem dL_law_241 : decode cL_law 241 = .ok (.iadd, 1) := by decide +kernel
theorem dL_law_242 : decode cL_law 242 = .ok (.iaload, 1) := by decide +kernel
theorem dL_law_243 : decode cL_law 243 = .ok (.invokevirtual 98, 3) := by decide +kernel
theorem dL_law_246 : decode cL_law 246 = .ok (.bipush 10, 2) := by decide +kernel
theorem dL_law_248 : decode cL_law 248 = .ok (.if_icmp .ne 7, 3) := by decide +kernel
theorem dL_law_251 : decode cL_law 251 = .ok (.iconst 1, 1) := by decide +kernel
theorem dL_law_252 : decode cL_law 252 = .ok (.goto 4, 3) := by decide +kernel
theorem dL_law_255 : decode cL_law 255 = .ok (.iconst 0, 1) := by decide +kernel
theorem dL_law_256 : decode cL_law 256 = .ok (.istore 23, 2) := by decide +kernel
theorem dL_law_258 : decode cL_law 258 = .ok (.iinc 24 1, 3) := by decide +kernel
theorem dL_law_261 : decode cL_law 261 = .ok (.goto (-140), 3) := by decide +kernel
theorem dL_law_264 : decode cL_law 264 = .ok (.iconst 0, 1) := by decide +kernel
theorem dL_law_265 : decode cL_law 265 = .ok (.istore 24, 2) := by decide +kernel
theorem dL_law_267 : decode cL_law 267 = .ok (.iload 24, 2) := by decide +kernel
theorem dL_law_269 : decode cL_law 269 = .ok (.iconst 3, 1) := by decide +kernel
theorem dL_law_270 : decode cL_law 270 = .ok (.if_icmp .ge 75, 3) := by decide +kernel
theorem dL_law_273 : decode cL_law 273 = .ok (.aload 10, 2) := by decide +kernel
theorem dL_law_275 : decode cL_law 275 = .ok (.iload 24, 2) := by decide +kernel
theorem dL_law_277 : decode cL_law 277 = .ok (.iload 22, 2) := by decide +kernel
theorem dL_law_279 : decode cL_law 279 = .ok (.iconst 3, 1) := by decide +kernel
theorem dL_law_280 : decode cL_law 280 = .ok (.iload 24, 2) := by decide +kernel
theorem dL_law_282 : decode cL_law 282 = .ok (.iadd, 1) := by decide +kernel
theorem dL_law_283 : decode cL_law 283 = .ok (.idiv, 1) := by decide +kernel
theorem dL_law_284 : decode cL_law 284 = .ok (.sipush 1001, 3) := by decide +kernel
theorem dL_law_287 : decode cL_law 287 = .ok (.invokestatic 91, 3) := by decide +kernel
theorem dL_law_290 : decode cL_law 290 = .ok (.iastore, 1) := by decide +kernel
theorem dL_law_291 : decode cL_law 291 = .ok (.iload 23, 2) := by decide +kernel
theorem dL_law_293 : decode cL_law 293 = .ok (.ifCond .eq 43, 3) := by decide +kernel
theorem dL_law_296 : decode cL_law 296 = .ok (.aload_n 1, 1) := by decide +kernel
theorem dL_law_297 : decode cL_law 297 = .ok (.iload 24, 2) := by decide +kernel
theorem dL_law_299 : decode cL_law 299 = .ok (.aload 10, 2) := by decide +kernel
theorem dL_law_301 : decode cL_law 301 = .ok (.iload 24, 2) := by decide +kernel
theorem dL_law_303 : decode cL_law 303 = .ok (.iaload, 1) := by decide +kernel
theorem dL_law_304 : decode cL_law 304 = .ok (.invokevirtual 100, 3) := by decide +kernel
theorem dL_law_307 : decode cL_law 307 = .ok (.iload 24, 2) := by decide +kernel
theorem dL_law_309 : decode cL_law 309 = .ok (.ifCond .ne 7, 3) := by decide +kernel
theorem dL_law_312 : decode cL_law 312 = .ok (.iconst 5, 1) := by decide +kernel
theorem dL_law_313 : decode cL_law 313 = .ok (.goto 16, 3) := by decide +kernel
theorem dL_law_316 : decode cL_law 316 = .ok (.iload 24, 2) := by decide +kernel
theorem dL_law_318 : decode cL_law 318 = .ok (.iconst 1, 1) := by decide +kernel
theorem dL_law_319 : decode cL_law 319 = .ok (.if_icmp .ne 8, 3) := by decide +kernel
theorem dL_law_322 : decode cL_law 322 = .ok (.bipush 20, 2) := by decide +kernel
theorem dL_law_324 : decode cL_law 324 = .ok (.goto 5, 3) := by decide +kernel
theorem dL_law_327 : decode cL_law 327 = .ok (.bipush 30, 2) := by decide +kernel
theorem dL_law_329 : decode cL_law 329 = .ok (.if_icmp .ne 7, 3) := by decide +kernel
theorem dL_law_332 : decode cL_law 332 = .ok (.iconst 1, 1) := by decide +kernel
theorem dL_law_333 : decode cL_law 333 = .ok (.goto 4, 3) := by decide +kernel
theorem dL_law_336 : decode cL_law 336 = .ok (.iconst 0, 1) := by decide +kernel
theorem dL_law_337 : decode cL_law 337 = .ok (.istore 23, 2) := by decide +kernel
theorem dL_law_339 : decode cL_law 339 = .ok (.iinc 24 1, 3) := by decide +kernel
theorem dL_law_342 : decode cL_law 342 = .ok (.goto (-75), 3) := by decide +kernel
theorem dL_law_345 : decode cL_law 345 = .ok (.iconst 0, 1) := by decide +kernel
theorem dL_law_346 : decode cL_law 346 = .ok (.istore 24, 2) := by decide +kernel
theorem dL_law_348 : decode cL_law 348 = .ok (.iload 24, 2) := by decide +kernel
theorem dL_law_350 : decode cL_law 350 = .ok (.iconst 2, 1) := by decide +kernel
theorem dL_law_351 : decode cL_law 351 = .ok (.if_icmp .ge 96, 3) := by decide +kernel
theorem dL_law_354 : decode cL_law 354 = .ok (.aload 9, 2) := by decide +kernel
theorem dL_law_356 : decode cL_law 356 = .ok (.iconst 3, 1) := by decide +kernel
theorem dL_law_357 : decode cL_law 357 = .ok (.iload 24, 2) := by decide +kernel
theorem dL_law_359 : decode cL_law 359 = .ok (.imul, 1) := by decide +kernel
theorem dL_law_360 : decode cL_law 360 = .ok (.iload 22, 2) := by decide +kernel
theorem dL_law_362 : decode cL_law 362 = .ok (.bipush 16, 2) := by decide +kernel
theorem dL_law_364 : decode cL_law 364 = .ok (.iload 24, 2) := by decide +kernel
theorem dL_law_366 : decode cL_law 366 = .ok (.iadd, 1) := by decide +kernel
theorem dL_law_367 : decode cL_law 367 = .ok (.idiv, 1) := by decide +kernel
theorem dL_law_368 : decode cL_law 368 = .ok (.bipush 51, 2) := by decide +kernel
theorem dL_law_370 : decode cL_law 370 = .ok (.invokestatic 91, 3) := by decide +kernel
theorem dL_law_373 : decode cL_law 373 = .ok (.iastore, 1) := by decide +kernel
theorem dL_law_374 : decode cL_law 374 = .ok (.aload 9, 2) := by decide +kernel
theorem dL_law_376 : decode cL_law 376 = .ok (.iconst 3, 1) := by decide +kernel
theorem dL_law_377 : decode cL_law 377 = .ok (.iload 24, 2) := by decide +kernel
theorem dL_law_379 : decode cL_law 379 = .ok (.imul, 1) := by decide +kernel
theorem dL_law_380 : decode cL_law 380 = .ok (.iconst 1, 1) := by decide +kernel
theorem dL_law_381 : decode cL_law 381 = .ok (.iadd, 1) := by decide +kernel
theorem dL_law_382 : decode cL_law 382 = .ok (.iload 22, 2) := by decide +kernel
theorem dL_law_384 : decode cL_law 384 = .ok (.bipush 64, 2) := by decide +kernel
theorem dL_law_386 : decode cL_law 386 = .ok (.iload 24, 2) := by decide +kernel
theorem dL_law_388 : decode cL_law 388 = .ok (.iadd, 1) := by decide +kernel
theorem dL_law_389 : decode cL_law 389 = .ok (.idiv, 1) := by decide +kernel
theorem dL_law_390 : decode cL_law 390 = .ok (.bipush 51, 2) := by decide +kernel
theorem dL_law_392 : decode cL_law 392 = .ok (.invokestatic 91, 3) := by decide +kernel
theorem dL_law_395 : decode cL_law 395 = .ok (.iastore, 1) := by decide +kernel
theorem dL_law_396 : decode cL_law 396 = .ok (.iload 23, 2) := by decide +kernel
theorem dL_law_398 : decode cL_law 398 = .ok (.ifCond .eq 32, 3) := by decide +kernel
theorem dL_law_401 : decode cL_law 401 = .ok (.aload_n 1, 1) := by decide +kernel
theorem dL_law_402 : decode cL_law 402 = .ok (.aload 9, 2) := by decide +kernel
theorem dL_law_404 : decode cL_law 404 = .ok (.iconst 3, 1) := by decide +kernel
theorem dL_law_405 : decode cL_law 405 = .ok (.iload 24, 2) := by decide +kernel
theorem dL_law_407 : decode cL_law 407 = .ok (.imul, 1) := by decide +kernel
theorem dL_law_408 : decode cL_law 408 = .ok (.iaload, 1) := by decide +kernel
theorem dL_law_409 : decode cL_law 409 = .ok (.aload 9, 2) := by decide +kernel
theorem dL_law_411 : decode cL_law 411 = .ok (.iconst 3, 1) := by decide +kernel
theorem dL_law_412 : decode cL_law 412 = .ok (.iload 24, 2) := by decide +kernel
theorem dL_law_414 : decode cL_law 414 = .ok (.imul, 1) := by decide +kernel
theorem dL_law_415 : decode cL_law 415 = .ok (.iconst 1, 1) := by decide +kernel
theorem dL_law_416 : decode cL_law 416 = .ok (.iadd, 1) := by decide +kernel
theorem dL_law_417 : decode cL_law 417 = .ok (.iaload, 1) := by decide +kernel
theorem dL_law_418 : decode cL_law 418 = .ok (.invokevirtual 103, 3) := by decide +kernel
theorem dL_law_421 : decode cL_law 421 = .ok (.iload 24, 2) := by decide +kernel
theorem dL_law_423 : decode cL_law 423 = .ok (.if_icmp .ne 7, 3) := by decide +kernel
theorem dL_law_426 : decode cL_law 426 = .ok (.iconst 1, 1) := by decide +kernel
theorem dL_law_427 : decode cL_law 427 = .ok (.goto 4, 3) := by decide +kernel
theorem dL_law_430 : decode cL_law 430 = .ok (.iconst 0, 1) := by decide +kernel
theorem dL_law_431 : decode cL_law 431 = .ok (.istore 23, 2) := by decide +kernel
theorem dL_law_433 : decode cL_law 433 = .ok (.aload 13, 2) := by decide +kernel
theorem dL_law_435 : decode cL_law 435 = .ok (.iconst 2, 1) := by decide +kernel
theorem dL_law_436 : decode cL_law 436 = .ok (.iload 24, 2) := by decide +kernel
theorem dL_law_438 : decode cL_law 438 = .ok (.iadd, 1) := by decide +kernel
theorem dL_law_439 : decode cL_law 439 = .ok (.iconst (-1), 1) := by decide +kernel
theorem dL_law_440 : decode cL_law 440 = .ok (.iastore, 1) := by decide +kernel
theorem dL_law_441 : decode cL_law 441 = .ok (.iinc 24 1, 3) := by decide +kernel
theorem dL_law_444 : decode cL_law 444 = .ok (.goto (-96), 3) := by decide +kernel
theorem dL_law_447 : decode cL_law 447 = .ok (.iconst 1, 1) := by decide +kernel
theorem dL_law_448 : decode cL_law 448 = .ok (.istore 24, 2) := by decide +kernel
theorem dL_law_450 : decode cL_law 450 = .ok (.iload 24, 2) := by decide +kernel
theorem dL_law_452 : decode cL_law 452 = .ok (.bipush 90, 2) := by decide +kernel
theorem dL_law_454 : decode cL_law 454 = .ok (.if_icmp .ge 3114, 3) := by decide +kernel
theorem dL_law_457 : decode cL_law 457 = .ok (.iload 23, 2) := by decide +kernel
theorem dL_law_459 : decode cL_law 459 = .ok (.ifCond .eq 3109, 3) := by decide +kernel
theorem dL_law_462 : decode cL_law 462 = .ok (.aload_n 0, 1) := by decide +kernel
theorem dL_law_463 : decode cL_law 463 = .ok (.iload 24, 2) := by decide +kernel
theorem dL_law_465 : decode cL_law 465 = .ok (.invokestatic 87, 3) := by decide +kernel
theorem dL_law_468 : decode cL_law 468 = .ok (.istore 25, 2) := by decide +kernel
theorem dL_law_470 : decode cL_law 470 = .ok (.iload 25, 2) := by decide +kernel
theorem dL_law_472 : decode cL_law 472 = .ok (.bipush 24, 2) := by decide +kernel
theorem dL_law_474 : decode cL_law 474 = .ok (.invokestatic 91, 3) := by decide +kernel
theorem dL_law_477 : decode cL_law 477 = .ok (.istore 26, 2) := by decide +kernel
theorem dL_law_479 : decode cL_law 479 = .ok (.iload 25, 2) := by decide +kernel
theorem dL_law_481 : decode cL_law 481 = .ok (.bipush 32, 2) := by decide +kernel
theorem dL_law_483 : decode cL_law 483 = .ok (.idiv, 1) := by decide +kernel
theorem dL_law_484 : decode cL_law 484 = .ok (.iconst 4, 1) := by decide +kernel
theorem dL_law_485 : decode cL_law 485 = .ok (.invokestatic 91, 3) := by decide +kernel
theorem dL_law_488 : decode cL_law 488 = .ok (.istore 27, 2) := by decide +kernel
theorem dL_law_490 : decode cL_law 490 = .ok (.bipush 8, 2) := by decide +kernel
theorem dL_law_492 : decode cL_law 492 = .ok (.iload 27, 2) := by decide +kernel
theorem dL_law_494 : decode cL_law 494 = .ok (.imul, 1) := by decide +kernel
theorem dL_law_495 : decode cL_law 495 = .ok (.istore 28, 2) := by decide +kernel
theorem dL_law_497 : decode cL_law 497 = .ok (.iload 18, 2) := by decide +kernel
theorem dL_law_499 : decode cL_law 499 = .ok (.ifCond .ne 7, 3) := by decide +kernel
theorem dL_law_502 : decode cL_law 502 = .ok (.iconst 0, 1) := by decide +kernel
theorem dL_law_503 : decode cL_law 503 = .ok (.goto 14, 3) := by decide +kernel
theorem dL_law_506 : decode cL_law 506 = .ok (.iload 25, 2) := by decide +kernel
theorem dL_law_508 : decode cL_law 508 = .ok (.sipush 128, 3) := by decide +kernel
theorem dL_law_511 : decode cL_law 511 = .ok (.idiv, 1) := by decide +kernel
theorem dL_law_512 : decode cL_law 512 = .ok (.iload 18, 2) := by decide +kernel
theorem dL_law_514 : decode cL_law 514 = .ok (.invokestatic 91, 3) := by decide +kernel
theorem dL_law_517 : decode cL_law 517 = .ok (.istore 29, 2) := by decide +kernel
theorem dL_law_519 : decode cL_law 519 = .ok (.iload 25, 2) := by decide +kernel
theorem dL_law_521 : decode cL_law 521 = .ok (.bipush 64, 2) := by decide +kernel
theorem dL_law_523 : decode cL_law 523 = .ok (.idiv, 1) := by decide +kernel
theorem dL_law_524 : decode cL_law 524 = .ok (.iconst 2, 1) := by decide +kernel
theorem dL_law_525 : decode cL_law 525 = .ok (.invokestatic 91, 3) := by decide +kernel
theorem dL_law_528 : decode cL_law 528 = .ok (.istore 30, 2) := by decide +kernel
theorem dL_law_530 : decode cL_law 530 = .ok (.iload 26, 2) := by decide +kernel
theorem dL_law_532 : decode cL_law 532 = .ok (.iconst 5, 1) := by decide +kernel
theorem dL_law_533 : decode cL_law 533 = .ok (.if_icmp .ge 291, 3) := by decide +kernel
theorem dL_law_536 : decode cL_law 536 = .ok (.iload 26, 2) := by decide +kernel
theorem dL_law_538 : decode cL_law 538 = .ok (.iconst 3, 1) := by decide +kernel
theorem dL_law_539 : decode cL_law 539 = .ok (.if_icmp .ge 7, 3) := by decide +kernel
theorem dL_law_542 : decode cL_law 542 = .ok (.iconst 0, 1) := by decide +kernel
theorem dL_law_543 : decode cL_law 543 = .ok (.goto 7, 3) := by decide +kernel
theorem dL_law_546 : decode cL_law 546 = .ok (.iload 26, 2) := by decide +kernel
theorem dL_law_548 : decode cL_law 548 = .ok (.iconst 2, 1) := by decide +kernel
theorem dL_law_549 : decode cL_law 549 = .ok (.isub, 1) := by decide +kernel
theorem dL_law_550 : decode cL_law 550 = .ok (.istore 31, 2) := by decide +kernel
theorem dL_law_552 : decode cL_law 552 = .ok (.iload 31, 2) := by decide +kernel
theorem dL_law_554 : decode cL_law 554 = .ok (.ifCond .ne 19, 3) := by decide +kernel
theorem dL_law_557 : decode cL_law 557 = .ok (.iconst 1, 1) := by decide +kernel
theorem dL_law_558 : decode cL_law 558 = .ok (.iload 25, 2) := by decide +kernel
theorem dL_law_560 : decode cL_law 560 = .ok (.sipush 256, 3) := by decide +kernel
theorem dL_law_563 : decode cL_law 563 = .ok (.idiv, 1) := by decide +kernel
theorem dL_law_564 : decode cL_law 564 = .ok (.bipush 60, 2) := by decide +kernel
theorem dL_law_566 : decode cL_law 566 = .ok (.invokestatic 91, 3) := by decide +kernel
theorem dL_law_569 : decode cL_law 569 = .ok (.iadd, 1) := by decide +kernel
theorem dL_law_570 : decode cL_law 570 = .ok (.goto 43, 3) := by decide +kernel
theorem dL_law_573 : decode cL_law 573 = .ok (.iload 31, 2) := by decide +kernel
theorem dL_law_575 : decode cL_law 575 = .ok (.iconst 1, 1) := by decide +kernel
theorem dL_law_576 : decode cL_law 576 = .ok (.if_icmp .ne 23, 3) := by decide +kernel
theorem dL_law_579 : decode cL_law 579 = .ok (.iload 19, 2) := by decide +kernel
theorem dL_law_581 : decode cL_law 581 = .ok (.iconst 1, 1) := by decide +kernel
theorem dL_law_582 : decode cL_law 582 = .ok (.iadd, 1) := by decide +kernel
theorem dL_law_583 : decode cL_law 583 = .ok (.iload 25, 2) := by decide +kernel
theorem dL_law_585 : decode cL_law 585 = .ok (.sipush 256, 3) := by decide +kernel
theorem dL_law_588 : decode cL_law 588 = .ok (.idiv, 1) := by decide +kernel
theorem dL_law_589 : decode cL_law 589 = .ok (.sipush 1200, 3) := by decide +kernel
theorem dL_law_592 : decode cL_law 592 = .ok (.invokestatic 91, 3) := by decide +kernel
theorem dL_law_595 : decode cL_law 595 = .ok (.iadd, 1) := by decide +kernel
theorem dL_law_596 : decode cL_law 596 = .ok (.goto 17, 3) := by decide +kernel
theorem dL_law_599 : decode cL_law 599 = .ok (.iconst 1, 1) := by decide +kernel
theorem dL_law_600 : decode cL_law 600 = .ok (.iload 25, 2) := by decide +kernel
theorem dL_law_602 : decode cL_law 602 = .ok (.sipush 256, 3) := by decide +kernel
theorem dL_law_605 : decode cL_law 605 = .ok (.idiv, 1) := by decide +kernel
theorem dL_law_606 : decode cL_law 606 = .ok (.sipush 20000, 3) := by decide +kernel
theorem dL_law_609 : decode cL_law 609 = .ok (.invokestatic 91, 3) := by decide +kernel
theorem dL_law_612 : decode cL_law 612 = .ok (.iadd, 1) := by decide +kernel
theorem dL_law_613 : decode cL_law 613 = .ok (.istore 32, 2) := by decide +kernel
theorem dL_law_615 : decode cL_law 615 = .ok (.iload 32, 2) := by decide +kernel
theorem dL_law_617 : decode cL_law 617 = .ok (.istore 33, 2) := by decide +kernel
theorem dL_law_619 : decode cL_law 619 = .ok (.iconst 0, 1) := by decide +kernel
theorem dL_law_620 : decode cL_law 620 = .ok (.istore 34, 2) := by decide +kernel
theorem dL_law_622 : decode cL_law 622 = .ok (.iload 34, 2) := by decide +kernel
theorem dL_law_624 : decode cL_law 624 = .ok (.iload 18, 2) := by decide +kernel
theorem dL_law_626 : decode cL_law 626 = .ok (.if_icmp .ge 42, 3) := by decide +kernel
theorem dL_law_629 : decode cL_law 629 = .ok (.iload 33, 2) := by decide +kernel
theorem dL_law_631 : decode cL_law 631 = .ok (.aload_n 3, 1) := by decide +kernel
theorem dL_law_632 : decode cL_law 632 = .ok (.iload 34, 2) := by decide +kernel
theorem dL_law_634 : decode cL_law 634 = .ok (.iaload, 1) := by decide +kernel
theorem dL_law_635 : decode cL_law 635 = .ok (.ifCond .ne 23, 3) := by decide +kernel
theorem dL_law_638 : decode cL_law 638 = .ok (.aload_n 3, 1) := by decide +kernel
theorem dL_law_639 : decode cL_law 639 = .ok (.bipush 24, 2) := by decide +kernel
theorem dL_law_641 : decode cL_law 641 = .ok (.iload 34, 2) := by decide +kernel
theorem dL_law_643 : decode cL_law 643 = .ok (.iadd, 1) := by decide +kernel
theorem dL_law_644 : decode cL_law 644 = .ok (.iaload, 1) := by decide +kernel
theorem dL_law_645 : decode cL_law 645 = .ok (.iload 27, 2) := by decide +kernel
theorem dL_law_647 : decode cL_law 647 = .ok (.if_icmp .ne 11, 3) := by decide +kernel
theorem dL_law_650 : decode cL_law 650 = .ok (.aload 4, 2) := by decide +kernel
theorem dL_law_652 : decode cL_law 652 = .ok (.iload 34, 2) := by decide +kernel
theorem dL_law_654 : decode cL_law 654 = .ok (.iaload, 1) := by decide +kernel
theorem dL_law_655 : decode cL_law 655 = .ok (.goto 4, 3) := by decide +kernel
theorem dL_law_658 : decode cL_law 658 = .ok (.iconst 0, 1) := by decide +kernel
theorem dL_law_659 : decode cL_law 659 = .ok (.iadd, 1) := by decide +kernel
theorem dL_law_660 : decode cL_law 660 = .ok (.istore 33, 2) := by decide +kernel
theorem dL_law_662 : decode cL_law 662 = .ok (.iinc 34 1, 3) := by decide +kernel
theorem dL_law_665 : decode cL_law 665 = .ok (.goto (-43), 3) := by decide +kernel
theorem dL_law_668 : decode cL_law 668 = .ok (.iload 25, 2) := by decide +kernel
theorem dL_law_670 : decode cL_law 670 = .ok (.sipush 512, 3) := by decide +kernel
theorem dL_law_673 : decode cL_law 673 = .ok (.idiv, 1) := by decide +kernel
theorem dL_law_674 : decode cL_law 674 = .ok (.bipush 101, 2) := by decide +kernel
theorem dL_law_676 : decode cL_law 676 = .ok (.invokestatic 91, 3) := by decide +kernel
theorem dL_law_679 : decode cL_law 679 = .ok (.istore 34, 2) := by decide +kernel
theorem dL_law_681 : decode cL_law 681 = .ok (.iload 31, 2) := by decide +kernel
theorem dL_law_683 : decode cL_law 683 = .ok (.ifCond .ne 16, 3) := by decide +kernel
theorem dL_law_686 : decode cL_law 686 = .ok (.iload 33, 2) := by decide +kernel
theorem dL_law_688 : decode cL_law 688 = .ok (.bipush 100, 2) := by decide +kernel
theorem dL_law_690 : decode cL_law 690 = .ok (.if_icmp .le 9, 3) := by decide +kernel
theorem dL_law_693 : decode cL_law 693 = .ok (.sipush (-1002), 3) := by decide +kernel
theorem dL_law_696 : decode cL_law 696 = .ok (.goto 27, 3) := by decide +kernel
theorem dL_law_699 : decode cL_law 699 = .ok (.iload 18, 2) := by decide +kernel
theorem dL_law_701 : decode cL_law 701 = .ok (.bipush 24, 2) := by decide +kernel
theorem dL_law_703 : decode cL_law 703 = .ok (.if_icmp .eq 12, 3) := by decide +kernel
theorem dL_law_706 : decode cL_law 706 = .ok (.aload_n 2, 1) := by decide +kernel
theorem dL_law_707 : decode cL_law 707 = .ok (.iload 28, 2) := by decide +kernel
theorem dL_law_709 : decode cL_law 709 = .ok (.iconst 2, 1) := by decide +kernel
theorem dL_law_710 : decode cL_law 710 = .ok (.iadd, 1) := by decide +kernel
theorem dL_law_711 : decode cL_law 711 = .ok (.iaload, 1) := by decide +kernel
theorem dL_law_712 : decode cL_law 712 = .ok (.ifCond .eq 9, 3) := by decide +kernel
theorem dL_law_715 : decode cL_law 715 = .ok (.sipush (-1003), 3) := by decide +kernel
theorem dL_law_718 : decode cL_law 718 = .ok (.goto 5, 3) := by decide +kernel
theorem dL_law_721 : decode cL_law 721 = .ok (.iload 18, 2) := by decide +kernel
theorem dL_law_723 : decode cL_law 723 = .ok (.istore 35, 2) := by decide +kernel
theorem dL_law_725 : decode cL_law 725 = .ok (.aload_n 1, 1) := by decide +kernel
theorem dL_law_726 : decode cL_law 726 = .ok (.iload 31, 2) := by decide +kernel
theorem dL_law_728 : decode cL_law 728 = .ok (.iload 27, 2) := by decide +kernel
theorem dL_law_730 : decode cL_law 730 = .ok (.invokestatic 95, 3) := by decide +kernel
theorem dL_law_733 : decode cL_law 733 = .ok (.iload 25, 2) := by decide +kernel
theorem dL_law_735 : decode cL_law 735 = .ok (.sipush 1024, 3) := by decide +kernel
theorem dL_law_738 : decode cL_law 738 = .ok (.idiv, 1) := by decide +kernel
theorem dL_law_739 : decode cL_law 739 = .ok (.bipush 10, 2) := by decide +kernel
theorem dL_law_741 : decode cL_law 741 = .ok (.invokestatic 91, 3) := by decide +kernel
theorem dL_law_744 : decode cL_law 744 = .ok (.iload 32, 2) := by decide +kernel
theorem dL_law_746 : decode cL_law 746 = .ok (.iload 34, 2) := by decide +kernel
theorem dL_law_748 : decode cL_law 748 = .ok (.invokestatic 106, 3) := by decide +kernel
theorem dL_law_751 : decode cL_law 751 = .ok (.iload 35, 2) := by decide +kernel
theorem dL_law_753 : decode cL_law 753 = .ok (.i2l, 1) := by decide +kernel
theorem dL_law_754 : decode cL_law 754 = .ok (.lcmp, 1) := by decide +kernel
theorem dL_law_755 : decode cL_law 755 = .ok (.ifCond .ne 7, 3) := by decide +kernel
theorem dL_law_758 : decode cL_law 758 = .ok (.iconst 1, 1) := by decide +kernel
theorem dL_law_759 : decode cL_law 759 = .ok (.goto 4, 3) := by decide +kernel
theorem dL_law_762 : decode cL_law 762 = .ok (.iconst 0, 1) := by decide +kernel
theorem dL_law_763 : decode cL_law 763 = .ok (.istore 23, 2) := by decide +kernel
theorem dL_law_765 : decode cL_law 765 = .ok (.iload 35, 2) := by decide +kernel
theorem dL_law_767 : decode cL_law 767 = .ok (.ifCond .lt 54, 3) := by decide +kernel
theorem dL_law_770 : decode cL_law 770 = .ok (.aload_n 3, 1) := by decide +kernel
theorem dL_law_771 : decode cL_law 771 = .ok (.iload 18, 2) := by decide +kernel
theorem dL_law_773 : decode cL_law 773 = .ok (.iload 31, 2) := by decide +kernel
theorem dL_law_775 : decode cL_law 775 = .ok (.iastore, 1) := by decide +kernel
theorem dL_law_776 : decode cL_law 776 = .ok (.aload_n 3, 1) := by decide +kernel
theorem dL_law_777 : decode cL_law 777 = .ok (.bipush 24, 2) := by decide +kernel
theorem dL_law_779 : decode cL_law 779 = .ok (.iload 18, 2) := by decide +kernel
theorem dL_law_781 : decode cL_law 781 = .ok (.iadd, 1) := by decide +kernel
theorem dL_law_782 : decode cL_law 782 = .ok (.iload 27, 2) := by decide +kernel
theorem dL_law_784 : decode cL_law 784 = .ok (.iastore, 1) := by decide +kernel
theorem dL_law_785 : decode cL_law 785 = .ok (.aload 4, 2) := by decide +kernel
theorem dL_law_787 : decode cL_law 787 = .ok (.iload 18, 2) := by decide +kernel
theorem dL_law_789 : decode cL_law 789 = .ok (.iload 32, 2) := by decide +kernel
theorem dL_law_791 : decode cL_law 791 = .ok (.iastore, 1) := by decide +kernel
theorem dL_law_792 : decode cL_law 792 = .ok (.aload 5, 2) := by decide +kernel
theorem dL_law_794 : decode cL_law 794 = .ok (.iload 18, 2) := by decide +kernel
theorem dL_law_796 : decode cL_law 796 = .ok (.iload 19, 2) := by decide +kernel
theorem dL_law_798 : decode cL_law 798 = .ok (.iastore, 1) := by decide +kernel
theorem dL_law_799 : decode cL_law 799 = .ok (.aload 6, 2) := by decide +kernel
theorem dL_law_801 : decode cL_law 801 = .ok (.iload 18, 2) := by decide +kernel
theorem dL_law_803 : decode cL_law 803 = .ok (.iconst (-1), 1) := by decide +kernel
theorem dL_law_804 : decode cL_law 804 = .ok (.iastore, 1) := by decide +kernel
theorem dL_law_805 : decode cL_law 805 = .ok (.aload 8, 2) := by decide +kernel
theorem dL_law_807 : decode cL_law 807 = .ok (.iload 18, 2) := by decide +kernel
theorem dL_law_809 : decode cL_law 809 = .ok (.iload 34, 2) := by decide +kernel
theorem dL_law_811 : decode cL_law 811 = .ok (.iastore, 1) := by decide +kernel
theorem dL_law_812 : decode cL_law 812 = .ok (.aload 11, 2) := by decide +kernel
theorem dL_law_814 : decode cL_law 814 = .ok (.iload 18, 2) := by decide +kernel
theorem dL_law_816 : decode cL_law 816 = .ok (.iconst (-1), 1) := by decide +kernel
theorem dL_law_817 : decode cL_law 817 = .ok (.iastore, 1) := by decide +kernel
theorem dL_law_818 : decode cL_law 818 = .ok (.iinc 18 1, 3) := by decide +kernel
theorem dL_law_821 : decode cL_law 821 = .ok (.goto 2294, 3) := by decide +kernel
theorem dL_law_824 : decode cL_law 824 = .ok (.iload 26, 2) := by decide +kernel
theorem dL_law_826 : decode cL_law 826 = .ok (.bipush 7, 2) := by decide +kernel
theorem dL_law_828 : decode cL_law 828 = .ok (.if_icmp .ge 161, 3) := by decide +kernel
theorem dL_law_831 : decode cL_law 831 = .ok (.iload 25, 2) := by decide +kernel
theorem dL_law_833 : decode cL_law 833 = .ok (.sipush 256, 3) := by decide +kernel
theorem dL_law_836 : decode cL_law 836 = .ok (.idiv, 1) := by decide +kernel
theorem dL_law_837 : decode cL_law 837 = .ok (.iconst 3, 1) := by decide +kernel
theorem dL_law_838 : decode cL_law 838 = .ok (.invokestatic 91, 3) := by decide +kernel
theorem dL_law_841 : decode cL_law 841 = .ok (.ifCond .ne 8, 3) := by decide +kernel
theorem dL_law_844 : decode cL_law 844 = .ok (.bipush 100, 2) := by decide +kernel
theorem dL_law_846 : decode cL_law 846 = .ok (.goto 16, 3) := by decide +kernel
theorem dL_law_849 : decode cL_law 849 = .ok (.iconst 1, 1) := by decide +kernel
theorem dL_law_850 : decode cL_law 850 = .ok (.iload 25, 2) := by decide +kernel
theorem dL_law_852 : decode cL_law 852 = .ok (.sipush 512, 3) := by decide +kernel
theorem dL_law_855 : decode cL_law 855 = .ok (.idiv, 1) := by decide +kernel
theorem dL_law_856 : decode cL_law 856 = .ok (.bipush 100, 2) := by decide +kernel
theorem dL_law_858 : decode cL_law 858 = .ok (.invokestatic 91, 3) := by decide +kernel
theorem dL_law_861 : decode cL_law 861 = .ok (.iadd, 1) := by decide +kernel
theorem dL_law_862 : decode cL_law 862 = .ok (.istore 31, 2) := by decide +kernel
theorem dL_law_864 : decode cL_law 864 = .ok (.aload 13, 2) := by decide +kernel
theorem dL_law_866 : decode cL_law 866 = .ok (.iload 30, 2) := by decide +kernel
theorem dL_law_868 : decode cL_law 868 = .ok (.iaload, 1) := by decide +kernel
theorem dL_law_869 : decode cL_law 869 = .ok (.ifCond .ne 25, 3) := by decide +kernel
theorem dL_law_872 : decode cL_law 872 = .ok (.aload_n 2, 1) := by decide +kernel
theorem dL_law_873 : decode cL_law 873 = .ok (.iload 28, 2) := by decide +kernel
theorem dL_law_875 : decode cL_law 875 = .ok (.iconst 2, 1) := by decide +kernel
theorem dL_law_876 : decode cL_law 876 = .ok (.iadd, 1) := by decide +kernel
theorem dL_law_877 : decode cL_law 877 = .ok (.iaload, 1) := by decide +kernel
theorem dL_law_878 : decode cL_law 878 = .ok (.ifCond .ne 16, 3) := by decide +kernel
theorem dL_law_881 : decode cL_law 881 = .ok (.aload_n 2, 1) := by decide +kernel
theorem dL_law_882 : decode cL_law 882 = .ok (.iload 28, 2) := by decide +kernel
theorem dL_law_884 : decode cL_law 884 = .ok (.iconst 3, 1) := by decide +kernel
theorem dL_law_885 : decode cL_law 885 = .ok (.iadd, 1) := by decide +kernel
theorem dL_law_886 : decode cL_law 886 = .ok (.iaload, 1) := by decide +kernel
theorem dL_law_887 : decode cL_law 887 = .ok (.ifCond .ge 7, 3) := by decide +kernel
theorem dL_law_890 : decode cL_law 890 = .ok (.iconst 1, 1) := by decide +kernel
theorem dL_law_891 : decode cL_law 891 = .ok (.goto 4, 3) := by decide +kernel
theorem dL_law_894 : decode cL_law 894 = .ok (.iconst 0, 1) := by decide +kernel
theorem dL_law_895 : decode cL_law 895 = .ok (.istore 32, 2) := by decide +kernel
