theorem dX12_init_0 : decode cX12_init 0 = .ok (.aload_n 0, 1) := by decide +kernel
theorem dX12_init_1 : decode cX12_init 1 = .ok (.invokespecial 1, 3) := by decide +kernel
theorem dX12_init_4 : decode cX12_init 4 = .ok (.aload_n 0, 1) := by decide +kernel
theorem dX12_init_5 : decode cX12_init 5 = .ok (.bipush 10, 2) := by decide +kernel
theorem dX12_init_7 : decode cX12_init 7 = .ok (.newarray .int, 2) := by decide +kernel
theorem dX12_init_9 : decode cX12_init 9 = .ok (.putfield 9, 3) := by decide +kernel
theorem dX12_init_12 : decode cX12_init 12 = .ok (.aload_n 0, 1) := by decide +kernel
theorem dX12_init_13 : decode cX12_init 13 = .ok (.bipush 10, 2) := by decide +kernel
theorem dX12_init_15 : decode cX12_init 15 = .ok (.newarray .int, 2) := by decide +kernel
theorem dX12_init_17 : decode cX12_init 17 = .ok (.putfield 13, 3) := by decide +kernel
theorem dX12_init_20 : decode cX12_init 20 = .ok (.aload_n 0, 1) := by decide +kernel
theorem dX12_init_21 : decode cX12_init 21 = .ok (.bipush 10, 2) := by decide +kernel
theorem dX12_init_23 : decode cX12_init 23 = .ok (.newarray .int, 2) := by decide +kernel
theorem dX12_init_25 : decode cX12_init 25 = .ok (.putfield 16, 3) := by decide +kernel
theorem dX12_init_28 : decode cX12_init 28 = .ok (.aload_n 0, 1) := by decide +kernel
theorem dX12_init_29 : decode cX12_init 29 = .ok (.bipush 10, 2) := by decide +kernel
theorem dX12_init_31 : decode cX12_init 31 = .ok (.newarray .int, 2) := by decide +kernel
theorem dX12_init_33 : decode cX12_init 33 = .ok (.putfield 19, 3) := by decide +kernel
theorem dX12_init_36 : decode cX12_init 36 = .ok (.aload_n 0, 1) := by decide +kernel
theorem dX12_init_37 : decode cX12_init 37 = .ok (.bipush 100, 2) := by decide +kernel
theorem dX12_init_39 : decode cX12_init 39 = .ok (.newarray .boolean, 2) := by decide +kernel
theorem dX12_init_41 : decode cX12_init 41 = .ok (.putfield 22, 3) := by decide +kernel
theorem dX12_init_44 : decode cX12_init 44 = .ok (.aload_n 0, 1) := by decide +kernel
theorem dX12_init_45 : decode cX12_init 45 = .ok (.bipush 12, 2) := by decide +kernel
theorem dX12_init_47 : decode cX12_init 47 = .ok (.newarray .int, 2) := by decide +kernel
theorem dX12_init_49 : decode cX12_init 49 = .ok (.putfield 26, 3) := by decide +kernel
theorem dX12_init_52 : decode cX12_init 52 = .ok (.aload_n 0, 1) := by decide +kernel
theorem dX12_init_53 : decode cX12_init 53 = .ok (.bipush 12, 2) := by decide +kernel
theorem dX12_init_55 : decode cX12_init 55 = .ok (.newarray .int, 2) := by decide +kernel
theorem dX12_init_57 : decode cX12_init 57 = .ok (.putfield 29, 3) := by decide +kernel
theorem dX12_init_60 : decode cX12_init 60 = .ok (.aload_n 0, 1) := by decide +kernel
theorem dX12_init_61 : decode cX12_init 61 = .ok (.bipush 12, 2) := by decide +kernel
theorem dX12_init_63 : decode cX12_init 63 = .ok (.newarray .int, 2) := by decide +kernel
theorem dX12_init_65 : decode cX12_init 65 = .ok (.putfield 32, 3) := by decide +kernel
theorem dX12_init_68 : decode cX12_init 68 = .ok (.aload_n 0, 1) := by decide +kernel
theorem dX12_init_69 : decode cX12_init 69 = .ok (.bipush 12, 2) := by decide +kernel
theorem dX12_init_71 : decode cX12_init 71 = .ok (.newarray .int, 2) := by decide +kernel
theorem dX12_init_73 : decode cX12_init 73 = .ok (.putfield 35, 3) := by decide +kernel
theorem dX12_init_76 : decode cX12_init 76 = .ok (.aload_n 0, 1) := by decide +kernel
theorem dX12_init_77 : decode cX12_init 77 = .ok (.bipush 12, 2) := by decide +kernel
theorem dX12_init_79 : decode cX12_init 79 = .ok (.newarray .int, 2) := by decide +kernel
theorem dX12_init_81 : decode cX12_init 81 = .ok (.putfield 38, 3) := by decide +kernel
theorem dX12_init_84 : decode cX12_init 84 = .ok (.aload_n 0, 1) := by decide +kernel
theorem dX12_init_85 : decode cX12_init 85 = .ok (.bipush 12, 2) := by decide +kernel
theorem dX12_init_87 : decode cX12_init 87 = .ok (.newarray .int, 2) := by decide +kernel
theorem dX12_init_89 : decode cX12_init 89 = .ok (.putfield 41, 3) := by decide +kernel
theorem dX12_init_92 : decode cX12_init 92 = .ok (.aload_n 0, 1) := by decide +kernel
theorem dX12_init_93 : decode cX12_init 93 = .ok (.bipush 12, 2) := by decide +kernel
theorem dX12_init_95 : decode cX12_init 95 = .ok (.newarray .int, 2) := by decide +kernel
theorem dX12_init_97 : decode cX12_init 97 = .ok (.putfield 44, 3) := by decide +kernel
theorem dX12_init_100 : decode cX12_init 100 = .ok (.aload_n 0, 1) := by decide +kernel
theorem dX12_init_101 : decode cX12_init 101 = .ok (.bipush 12, 2) := by decide +kernel
theorem dX12_init_103 : decode cX12_init 103 = .ok (.newarray .int, 2) := by decide +kernel
theorem dX12_init_105 : decode cX12_init 105 = .ok (.putfield 47, 3) := by decide +kernel
theorem dX12_init_108 : decode cX12_init 108 = .ok (.aload_n 0, 1) := by decide +kernel
theorem dX12_init_109 : decode cX12_init 109 = .ok (.bipush 12, 2) := by decide +kernel
theorem dX12_init_111 : decode cX12_init 111 = .ok (.newarray .int, 2) := by decide +kernel
theorem dX12_init_113 : decode cX12_init 113 = .ok (.putfield 50, 3) := by decide +kernel
theorem dX12_init_116 : decode cX12_init 116 = .ok (.aload_n 0, 1) := by decide +kernel
theorem dX12_init_117 : decode cX12_init 117 = .ok (.sipush 1920, 3) := by decide +kernel
theorem dX12_init_120 : decode cX12_init 120 = .ok (.newarray .int, 2) := by decide +kernel
theorem dX12_init_122 : decode cX12_init 122 = .ok (.putfield 53, 3) := by decide +kernel
theorem dX12_init_125 : decode cX12_init 125 = .ok (.aload_n 0, 1) := by decide +kernel
theorem dX12_init_126 : decode cX12_init 126 = .ok (.bipush 20, 2) := by decide +kernel
theorem dX12_init_128 : decode cX12_init 128 = .ok (.newarray .int, 2) := by decide +kernel
theorem dX12_init_130 : decode cX12_init 130 = .ok (.putfield 56, 3) := by decide +kernel
theorem dX12_init_133 : decode cX12_init 133 = .ok (.aload_n 0, 1) := by decide +kernel
theorem dX12_init_134 : decode cX12_init 134 = .ok (.bipush 20, 2) := by decide +kernel
theorem dX12_init_136 : decode cX12_init 136 = .ok (.newarray .int, 2) := by decide +kernel
theorem dX12_init_138 : decode cX12_init 138 = .ok (.putfield 59, 3) := by decide +kernel
theorem dX12_init_141 : decode cX12_init 141 = .ok (.aload_n 0, 1) := by decide +kernel
theorem dX12_init_142 : decode cX12_init 142 = .ok (.bipush 20, 2) := by decide +kernel
theorem dX12_init_144 : decode cX12_init 144 = .ok (.newarray .int, 2) := by decide +kernel
theorem dX12_init_146 : decode cX12_init 146 = .ok (.putfield 62, 3) := by decide +kernel
theorem dX12_init_149 : decode cX12_init 149 = .ok (.aload_n 0, 1) := by decide +kernel
theorem dX12_init_150 : decode cX12_init 150 = .ok (.bipush 36, 2) := by decide +kernel
theorem dX12_init_152 : decode cX12_init 152 = .ok (.newarray .int, 2) := by decide +kernel
theorem dX12_init_154 : decode cX12_init 154 = .ok (.putfield 65, 3) := by decide +kernel
theorem dX12_init_157 : decode cX12_init 157 = .ok (.aload_n 0, 1) := by decide +kernel
theorem dX12_init_158 : decode cX12_init 158 = .ok (.bipush 36, 2) := by decide +kernel
theorem dX12_init_160 : decode cX12_init 160 = .ok (.newarray .int, 2) := by decide +kernel
theorem dX12_init_162 : decode cX12_init 162 = .ok (.putfield 68, 3) := by decide +kernel
theorem dX12_init_165 : decode cX12_init 165 = .ok (.aload_n 0, 1) := by decide +kernel
theorem dX12_init_166 : decode cX12_init 166 = .ok (.bipush 10, 2) := by decide +kernel
theorem dX12_init_168 : decode cX12_init 168 = .ok (.newarray .int, 2) := by decide +kernel
theorem dX12_init_170 : decode cX12_init 170 = .ok (.putfield 71, 3) := by decide +kernel
theorem dX12_init_173 : decode cX12_init 173 = .ok (.aload_n 0, 1) := by decide +kernel
theorem dX12_init_174 : decode cX12_init 174 = .ok (.bipush 10, 2) := by decide +kernel
theorem dX12_init_176 : decode cX12_init 176 = .ok (.newarray .int, 2) := by decide +kernel
theorem dX12_init_178 : decode cX12_init 178 = .ok (.putfield 74, 3) := by decide +kernel
theorem dX12_init_181 : decode cX12_init 181 = .ok (.aload_n 0, 1) := by decide +kernel
theorem dX12_init_182 : decode cX12_init 182 = .ok (.bipush 10, 2) := by decide +kernel
theorem dX12_init_184 : decode cX12_init 184 = .ok (.newarray .int, 2) := by decide +kernel
theorem dX12_init_186 : decode cX12_init 186 = .ok (.putfield 77, 3) := by decide +kernel
theorem dX12_init_189 : decode cX12_init 189 = .ok (.aload_n 0, 1) := by decide +kernel
theorem dX12_init_190 : decode cX12_init 190 = .ok (.sipush 160, 3) := by decide +kernel
theorem dX12_init_193 : decode cX12_init 193 = .ok (.newarray .int, 2) := by decide +kernel
theorem dX12_init_195 : decode cX12_init 195 = .ok (.putfield 80, 3) := by decide +kernel
theorem dX12_init_198 : decode cX12_init 198 = .ok (.aload_n 0, 1) := by decide +kernel
theorem dX12_init_199 : decode cX12_init 199 = .ok (.bipush 12, 2) := by decide +kernel
theorem dX12_init_201 : decode cX12_init 201 = .ok (.newarray .int, 2) := by decide +kernel
theorem dX12_init_203 : decode cX12_init 203 = .ok (.putfield 83, 3) := by decide +kernel
theorem dX12_init_206 : decode cX12_init 206 = .ok (.aload_n 0, 1) := by decide +kernel
theorem dX12_init_207 : decode cX12_init 207 = .ok (.bipush 12, 2) := by decide +kernel
theorem dX12_init_209 : decode cX12_init 209 = .ok (.newarray .int, 2) := by decide +kernel
theorem dX12_init_211 : decode cX12_init 211 = .ok (.putfield 86, 3) := by decide +kernel
theorem dX12_init_214 : decode cX12_init 214 = .ok (.aload_n 0, 1) := by decide +kernel
theorem dX12_init_215 : decode cX12_init 215 = .ok (.sipush 144, 3) := by decide +kernel
theorem dX12_init_218 : decode cX12_init 218 = .ok (.newarray .int, 2) := by decide +kernel
theorem dX12_init_220 : decode cX12_init 220 = .ok (.putfield 89, 3) := by decide +kernel
theorem dX12_init_223 : decode cX12_init 223 = .ok (.aload_n 0, 1) := by decide +kernel
theorem dX12_init_224 : decode cX12_init 224 = .ok (.iconst (-1), 1) := by decide +kernel
theorem dX12_init_225 : decode cX12_init 225 = .ok (.putfield 92, 3) := by decide +kernel
theorem dX12_init_228 : decode cX12_init 228 = .ok (.aload_n 0, 1) := by decide +kernel
theorem dX12_init_229 : decode cX12_init 229 = .ok (.iconst 5, 1) := by decide +kernel
theorem dX12_init_230 : decode cX12_init 230 = .ok (.newarray .int, 2) := by decide +kernel
theorem dX12_init_232 : decode cX12_init 232 = .ok (.putfield 96, 3) := by decide +kernel
theorem dX12_init_235 : decode cX12_init 235 = .ok (.aload_n 0, 1) := by decide +kernel
theorem dX12_init_236 : decode cX12_init 236 = .ok (.sipush 320, 3) := by decide +kernel
theorem dX12_init_239 : decode cX12_init 239 = .ok (.newarray .int, 2) := by decide +kernel
theorem dX12_init_241 : decode cX12_init 241 = .ok (.putfield 99, 3) := by decide +kernel
theorem dX12_init_244 : decode cX12_init 244 = .ok (.aload_n 0, 1) := by decide +kernel
theorem dX12_init_245 : decode cX12_init 245 = .ok (.sipush 161, 3) := by decide +kernel
theorem dX12_init_248 : decode cX12_init 248 = .ok (.newarray .int, 2) := by decide +kernel
theorem dX12_init_250 : decode cX12_init 250 = .ok (.putfield 102, 3) := by decide +kernel
theorem dX12_init_253 : decode cX12_init 253 = .ok (.aload_n 0, 1) := by decide +kernel
theorem dX12_init_254 : decode cX12_init 254 = .ok (.sipush 320, 3) := by decide +kernel
theorem dX12_init_257 : decode cX12_init 257 = .ok (.newarray .int, 2) := by decide +kernel
theorem dX12_init_259 : decode cX12_init 259 = .ok (.putfield 105, 3) := by decide +kernel
theorem dX12_init_262 : decode cX12_init 262 = .ok (.aload_n 0, 1) := by decide +kernel
theorem dX12_init_263 : decode cX12_init 263 = .ok (.sipush 320, 3) := by decide +kernel
theorem dX12_init_266 : decode cX12_init 266 = .ok (.newarray .int, 2) := by decide +kernel
theorem dX12_init_268 : decode cX12_init 268 = .ok (.putfield 108, 3) := by decide +kernel
theorem dX12_init_271 : decode cX12_init 271 = .ok (.aload_n 0, 1) := by decide +kernel
theorem dX12_init_272 : decode cX12_init 272 = .ok (.sipush 320, 3) := by decide +kernel
theorem dX12_init_275 : decode cX12_init 275 = .ok (.newarray .int, 2) := by decide +kernel
theorem dX12_init_277 : decode cX12_init 277 = .ok (.putfield 111, 3) := by decide +kernel
theorem dX12_init_280 : decode cX12_init 280 = .ok (.aload_n 0, 1) := by decide +kernel
theorem dX12_init_281 : decode cX12_init 281 = .ok (.iconst 2, 1) := by decide +kernel
theorem dX12_init_282 : decode cX12_init 282 = .ok (.newarray .int, 2) := by decide +kernel
theorem dX12_init_284 : decode cX12_init 284 = .ok (.putfield 114, 3) := by decide +kernel
theorem dX12_init_287 : decode cX12_init 287 = .ok (.aload_n 0, 1) := by decide +kernel
theorem dX12_init_288 : decode cX12_init 288 = .ok (.sipush 161, 3) := by decide +kernel
theorem dX12_init_291 : decode cX12_init 291 = .ok (.newarray .int, 2) := by decide +kernel
theorem dX12_init_293 : decode cX12_init 293 = .ok (.putfield 117, 3) := by decide +kernel
theorem dX12_init_296 : decode cX12_init 296 = .ok (.aload_n 0, 1) := by decide +kernel
theorem dX12_init_297 : decode cX12_init 297 = .ok (.sipush 161, 3) := by decide +kernel
theorem dX12_init_300 : decode cX12_init 300 = .ok (.newarray .int, 2) := by decide +kernel
theorem dX12_init_302 : decode cX12_init 302 = .ok (.putfield 120, 3) := by decide +kernel
theorem dX12_init_305 : decode cX12_init 305 = .ok (.aload_n 0, 1) := by decide +kernel
theorem dX12_init_306 : decode cX12_init 306 = .ok (.bipush 8, 2) := by decide +kernel
theorem dX12_init_308 : decode cX12_init 308 = .ok (.newarray .int, 2) := by decide +kernel
theorem dX12_init_310 : decode cX12_init 310 = .ok (.putfield 123, 3) := by decide +kernel
theorem dX12_init_313 : decode cX12_init 313 = .ok (.aload_n 0, 1) := by decide +kernel
theorem dX12_init_314 : decode cX12_init 314 = .ok (.sipush 2048, 3) := by decide +kernel
theorem dX12_init_317 : decode cX12_init 317 = .ok (.newarray .int, 2) := by decide +kernel
theorem dX12_init_319 : decode cX12_init 319 = .ok (.putfield 126, 3) := by decide +kernel
theorem dX12_init_322 : decode cX12_init 322 = .ok (.aload_n 0, 1) := by decide +kernel
theorem dX12_init_323 : decode cX12_init 323 = .ok (.iconst 4, 1) := by decide +kernel
theorem dX12_init_324 : decode cX12_init 324 = .ok (.newarray .int, 2) := by decide +kernel
theorem dX12_init_326 : decode cX12_init 326 = .ok (.putfield 129, 3) := by decide +kernel
theorem dX12_init_329 : decode cX12_init 329 = .ok (.aload_n 0, 1) := by decide +kernel
theorem dX12_init_330 : decode cX12_init 330 = .ok (.sipush 240, 3) := by decide +kernel
theorem dX12_init_333 : decode cX12_init 333 = .ok (.newarray .int, 2) := by decide +kernel
theorem dX12_init_335 : decode cX12_init 335 = .ok (.putfield 132, 3) := by decide +kernel
theorem dX12_init_338 : decode cX12_init 338 = .ok (.iconst 0, 1) := by decide +kernel
theorem dX12_init_339 : decode cX12_init 339 = .ok (.istore_n 1, 1) := by decide +kernel
theorem dX12_init_340 : decode cX12_init 340 = .ok (.iload_n 1, 1) := by decide +kernel
theorem dX12_init_341 : decode cX12_init 341 = .ok (.bipush 36, 2) := by decide +kernel
theorem dX12_init_343 : decode cX12_init 343 = .ok (.if_icmp .ge 53, 3) := by decide +kernel
theorem dX12_init_346 : decode cX12_init 346 = .ok (.iload_n 1, 1) := by decide +kernel
theorem dX12_init_347 : decode cX12_init 347 = .ok (.bipush 7, 2) := by decide +kernel
theorem dX12_init_349 : decode cX12_init 349 = .ok (.irem, 1) := by decide +kernel
theorem dX12_init_350 : decode cX12_init 350 = .ok (.ifCond .ne 7, 3) := by decide +kernel
theorem dX12_init_353 : decode cX12_init 353 = .ok (.iconst 1, 1) := by decide +kernel
theorem dX12_init_354 : decode cX12_init 354 = .ok (.goto 4, 3) := by decide +kernel
theorem dX12_init_357 : decode cX12_init 357 = .ok (.iconst 0, 1) := by decide +kernel
theorem dX12_init_358 : decode cX12_init 358 = .ok (.istore_n 2, 1) := by decide +kernel
theorem dX12_init_359 : decode cX12_init 359 = .ok (.aload_n 0, 1) := by decide +kernel
theorem dX12_init_360 : decode cX12_init 360 = .ok (.getfield 65, 3) := by decide +kernel
theorem dX12_init_363 : decode cX12_init 363 = .ok (.iload_n 1, 1) := by decide +kernel
theorem dX12_init_364 : decode cX12_init 364 = .ok (.iload_n 2, 1) := by decide +kernel
theorem dX12_init_365 : decode cX12_init 365 = .ok (.ifCond .eq 7, 3) := by decide +kernel
theorem dX12_init_368 : decode cX12_init 368 = .ok (.iconst 0, 1) := by decide +kernel
theorem dX12_init_369 : decode cX12_init 369 = .ok (.goto 4, 3) := by decide +kernel
theorem dX12_init_372 : decode cX12_init 372 = .ok (.iconst 1, 1) := by decide +kernel
theorem dX12_init_373 : decode cX12_init 373 = .ok (.iastore, 1) := by decide +kernel
theorem dX12_init_374 : decode cX12_init 374 = .ok (.aload_n 0, 1) := by decide +kernel
theorem dX12_init_375 : decode cX12_init 375 = .ok (.getfield 68, 3) := by decide +kernel
theorem dX12_init_378 : decode cX12_init 378 = .ok (.iload_n 1, 1) := by decide +kernel
theorem dX12_init_379 : decode cX12_init 379 = .ok (.iload_n 2, 1) := by decide +kernel
theorem dX12_init_380 : decode cX12_init 380 = .ok (.ifCond .eq 7, 3) := by decide +kernel
theorem dX12_init_383 : decode cX12_init 383 = .ok (.iconst 2, 1) := by decide +kernel
theorem dX12_init_384 : decode cX12_init 384 = .ok (.goto 5, 3) := by decide +kernel
theorem dX12_init_387 : decode cX12_init 387 = .ok (.bipush 30, 2) := by decide +kernel
theorem dX12_init_389 : decode cX12_init 389 = .ok (.iastore, 1) := by decide +kernel
theorem dX12_init_390 : decode cX12_init 390 = .ok (.iinc 1 1, 3) := by decide +kernel
theorem dX12_init_393 : decode cX12_init 393 = .ok (.goto (-53), 3) := by decide +kernel
theorem dX12_init_396 : decode cX12_init 396 = .ok (.iconst 0, 1) := by decide +kernel
theorem dX12_init_397 : decode cX12_init 397 = .ok (.istore_n 1, 1) := by decide +kernel
theorem dX12_init_398 : decode cX12_init 398 = .ok (.iload_n 1, 1) := by decide +kernel
theorem dX12_init_399 : decode cX12_init 399 = .ok (.iconst 4, 1) := by decide +kernel
theorem dX12_init_400 : decode cX12_init 400 = .ok (.if_icmp .ge 16, 3) := by decide +kernel
theorem dX12_init_403 : decode cX12_init 403 = .ok (.aload_n 0, 1) := by decide +kernel
theorem dX12_init_404 : decode cX12_init 404 = .ok (.getfield 129, 3) := by decide +kernel
theorem dX12_init_407 : decode cX12_init 407 = .ok (.iload_n 1, 1) := by decide +kernel
theorem dX12_init_408 : decode cX12_init 408 = .ok (.iconst (-1), 1) := by decide +kernel
theorem dX12_init_409 : decode cX12_init 409 = .ok (.iastore, 1) := by decide +kernel
theorem dX12_init_410 : decode cX12_init 410 = .ok (.iinc 1 1, 3) := by decide +kernel
theorem dX12_init_413 : decode cX12_init 413 = .ok (.goto (-15), 3) := by decide +kernel
theorem dX12_init_416 : decode cX12_init 416 = .ok (.return_, 1) := by decide +kernel
theorem dX12_isIn_0 : decode cX12_isIn 0 = .ok (.iload_n 0, 1) := by decide +kernel
theorem dX12_isIn_1 : decode cX12_isIn 1 = .ok (.ifCond .lt 12, 3) := by decide +kernel
theorem dX12_isIn_4 : decode cX12_isIn 4 = .ok (.iload_n 0, 1) := by decide +kernel
theorem dX12_isIn_5 : decode cX12_isIn 5 = .ok (.iload_n 1, 1) := by decide +kernel
theorem dX12_isIn_6 : decode cX12_isIn 6 = .ok (.if_icmp .ge 7, 3) := by decide +kernel
theorem dX12_isIn_9 : decode cX12_isIn 9 = .ok (.iconst 1, 1) := by decide +kernel
theorem dX12_isIn_10 : decode cX12_isIn 10 = .ok (.goto 4, 3) := by decide +kernel
theorem dX12_isIn_13 : decode cX12_isIn 13 = .ok (.iconst 0, 1) := by decide +kernel
theorem dX12_isIn_14 : decode cX12_isIn 14 = .ok (.ireturn, 1) := by decide +kernel
theorem dX12_isDay_0 : decode cX12_isDay 0 = .ok (.iload_n 0, 1) := by decide +kernel
theorem dX12_isDay_1 : decode cX12_isDay 1 = .ok (.sipush 10000, 3) := by decide +kernel
theorem dX12_isDay_4 : decode cX12_isDay 4 = .ok (.invokestatic 135, 3) := by decide +kernel
theorem dX12_isDay_7 : decode cX12_isDay 7 = .ok (.ireturn, 1) := by decide +kernel
theorem dX12_isPerson_0 : decode cX12_isPerson 0 = .ok (.iload_n 1, 1) := by decide +kernel
theorem dX12_isPerson_1 : decode cX12_isPerson 1 = .ok (.aload_n 0, 1) := by decide +kernel
theorem dX12_isPerson_2 : decode cX12_isPerson 2 = .ok (.getfield 139, 3) := by decide +kernel
theorem dX12_isPerson_5 : decode cX12_isPerson 5 = .ok (.invokestatic 135, 3) := by decide +kernel
theorem dX12_isPerson_8 : decode cX12_isPerson 8 = .ok (.ireturn, 1) := by decide +kernel
theorem dX12_isLetter_0 : decode cX12_isLetter 0 = .ok (.iload_n 1, 1) := by decide +kernel
theorem dX12_isLetter_1 : decode cX12_isLetter 1 = .ok (.aload_n 0, 1) := by decide +kernel
theorem dX12_isLetter_2 : decode cX12_isLetter 2 = .ok (.getfield 142, 3) := by decide +kernel
theorem dX12_isLetter_5 : decode cX12_isLetter 5 = .ok (.invokestatic 135, 3) := by decide +kernel
theorem dX12_isLetter_8 : decode cX12_isLetter 8 = .ok (.ireturn, 1) := by decide +kernel
theorem dX12_person_0 : decode cX12_person 0 = .ok (.iload_n 1, 1) := by decide +kernel
theorem dX12_person_1 : decode cX12_person 1 = .ok (.iconst 1, 1) := by decide +kernel
theorem dX12_person_2 : decode cX12_person 2 = .ok (.isub, 1) := by decide +kernel
theorem dX12_person_3 : decode cX12_person 3 = .ok (.bipush 99, 2) := by decide +kernel
theorem dX12_person_5 : decode cX12_person 5 = .ok (.invokestatic 135, 3) := by decide +kernel
theorem dX12_person_8 : decode cX12_person 8 = .ok (.ifCond .eq 12, 3) := by decide +kernel
theorem dX12_person_11 : decode cX12_person 11 = .ok (.iload_n 2, 1) := by decide +kernel
theorem dX12_person_12 : decode cX12_person 12 = .ok (.bipush 6, 2) := by decide +kernel
theorem dX12_person_14 : decode cX12_person 14 = .ok (.invokestatic 135, 3) := by decide +kernel
theorem dX12_person_17 : decode cX12_person 17 = .ok (.ifCond .ne 6, 3) := by decide +kernel
theorem dX12_person_20 : decode cX12_person 20 = .ok (.bipush (-2), 2) := by decide +kernel
theorem dX12_person_22 : decode cX12_person 22 = .ok (.ireturn, 1) := by decide +kernel
theorem dX12_person_23 : decode cX12_person 23 = .ok (.aload_n 0, 1) := by decide +kernel
theorem dX12_person_24 : decode cX12_person 24 = .ok (.getfield 139, 3) := by decide +kernel
theorem dX12_person_27 : decode cX12_person 27 = .ok (.bipush 10, 2) := by decide +kernel
theorem dX12_person_29 : decode cX12_person 29 = .ok (.if_icmp .ne 6, 3) := by decide +kernel
theorem dX12_person_32 : decode cX12_person 32 = .ok (.bipush (-4), 2) := by decide +kernel
theorem dX12_person_34 : decode cX12_person 34 = .ok (.ireturn, 1) := by decide +kernel
theorem dX12_person_35 : decode cX12_person 35 = .ok (.aload_n 0, 1) := by decide +kernel
theorem dX12_person_36 : decode cX12_person 36 = .ok (.getfield 9, 3) := by decide +kernel
theorem dX12_person_39 : decode cX12_person 39 = .ok (.aload_n 0, 1) := by decide +kernel
theorem dX12_person_40 : decode cX12_person 40 = .ok (.getfield 139, 3) := by decide +kernel
theorem dX12_person_43 : decode cX12_person 43 = .ok (.iload_n 1, 1) := by decide +kernel
theorem dX12_person_44 : decode cX12_person 44 = .ok (.iastore, 1) := by decide +kernel
theorem dX12_person_45 : decode cX12_person 45 = .ok (.aload_n 0, 1) := by decide +kernel
theorem dX12_person_46 : decode cX12_person 46 = .ok (.getfield 13, 3) := by decide +kernel
theorem dX12_person_49 : decode cX12_person 49 = .ok (.aload_n 0, 1) := by decide +kernel
theorem dX12_person_50 : decode cX12_person 50 = .ok (.getfield 139, 3) := by decide +kernel
theorem dX12_person_53 : decode cX12_person 53 = .ok (.iload_n 2, 1) := by decide +kernel
theorem dX12_person_54 : decode cX12_person 54 = .ok (.iastore, 1) := by decide +kernel
theorem dX12_person_55 : decode cX12_person 55 = .ok (.aload_n 0, 1) := by decide +kernel
theorem dX12_person_56 : decode cX12_person 56 = .ok (.getfield 16, 3) := by decide +kernel
theorem dX12_person_59 : decode cX12_person 59 = .ok (.aload_n 0, 1) := by decide +kernel
theorem dX12_person_60 : decode cX12_person 60 = .ok (.getfield 139, 3) := by decide +kernel
theorem dX12_person_63 : decode cX12_person 63 = .ok (.iconst 0, 1) := by decide +kernel
theorem dX12_person_64 : decode cX12_person 64 = .ok (.iastore, 1) := by decide +kernel
theorem dX12_person_65 : decode cX12_person 65 = .ok (.aload_n 0, 1) := by decide +kernel
theorem dX12_person_66 : decode cX12_person 66 = .ok (.getfield 19, 3) := by decide +kernel
theorem dX12_person_69 : decode cX12_person 69 = .ok (.aload_n 0, 1) := by decide +kernel
theorem dX12_person_70 : decode cX12_person 70 = .ok (.getfield 139, 3) := by decide +kernel
theorem dX12_person_73 : decode cX12_person 73 = .ok (.sipush 9999, 3) := by decide +kernel
theorem dX12_person_76 : decode cX12_person 76 = .ok (.iastore, 1) := by decide +kernel
theorem dX12_person_77 : decode cX12_person 77 = .ok (.aload_n 0, 1) := by decide +kernel
theorem dX12_person_78 : decode cX12_person 78 = .ok (.dup, 1) := by decide +kernel
theorem dX12_person_79 : decode cX12_person 79 = .ok (.getfield 139, 3) := by decide +kernel
theorem dX12_person_82 : decode cX12_person 82 = .ok (.iconst 1, 1) := by decide +kernel
theorem dX12_person_83 : decode cX12_person 83 = .ok (.iadd, 1) := by decide +kernel
theorem dX12_person_84 : decode cX12_person 84 = .ok (.putfield 139, 3) := by decide +kernel
theorem dX12_person_87 : decode cX12_person 87 = .ok (.aload_n 0, 1) := by decide +kernel
theorem dX12_person_88 : decode cX12_person 88 = .ok (.getfield 139, 3) := by decide +kernel
theorem dX12_person_91 : decode cX12_person 91 = .ok (.iconst 1, 1) := by decide +kernel
theorem dX12_person_92 : decode cX12_person 92 = .ok (.isub, 1) := by decide +kernel
theorem dX12_person_93 : decode cX12_person 93 = .ok (.ireturn, 1) := by decide +kernel
theorem dX12_lived_0 : decode cX12_lived 0 = .ok (.aload_n 0, 1) := by decide +kernel
theorem dX12_lived_1 : decode cX12_lived 1 = .ok (.iload_n 1, 1) := by decide +kernel
theorem dX12_lived_2 : decode cX12_lived 2 = .ok (.invokevirtual 145, 3) := by decide +kernel
theorem dX12_lived_5 : decode cX12_lived 5 = .ok (.ifCond .eq 22, 3) := by decide +kernel
theorem dX12_lived_8 : decode cX12_lived 8 = .ok (.iload_n 2, 1) := by decide +kernel
theorem dX12_lived_9 : decode cX12_lived 9 = .ok (.invokestatic 149, 3) := by decide +kernel
theorem dX12_lived_12 : decode cX12_lived 12 = .ok (.ifCond .eq 15, 3) := by decide +kernel
theorem dX12_lived_15 : decode cX12_lived 15 = .ok (.iload_n 3, 1) := by decide +kernel
theorem dX12_lived_16 : decode cX12_lived 16 = .ok (.invokestatic 149, 3) := by decide +kernel
theorem dX12_lived_19 : decode cX12_lived 19 = .ok (.ifCond .eq 8, 3) := by decide +kernel
theorem dX12_lived_22 : decode cX12_lived 22 = .ok (.iload_n 2, 1) := by decide +kernel
theorem dX12_lived_23 : decode cX12_lived 23 = .ok (.iload_n 3, 1) := by decide +kernel
theorem dX12_lived_24 : decode cX12_lived 24 = .ok (.if_icmp .le 6, 3) := by decide +kernel
theorem dX12_lived_27 : decode cX12_lived 27 = .ok (.bipush (-2), 2) := by decide +kernel
theorem dX12_lived_29 : decode cX12_lived 29 = .ok (.ireturn, 1) := by decide +kernel
theorem dX12_lived_30 : decode cX12_lived 30 = .ok (.aload_n 0, 1) := by decide +kernel
theorem dX12_lived_31 : decode cX12_lived 31 = .ok (.getfield 16, 3) := by decide +kernel
theorem dX12_lived_34 : decode cX12_lived 34 = .ok (.iload_n 1, 1) := by decide +kernel
theorem dX12_lived_35 : decode cX12_lived 35 = .ok (.iload_n 2, 1) := by decide +kernel
theorem dX12_lived_36 : decode cX12_lived 36 = .ok (.iastore, 1) := by decide +kernel
theorem dX12_lived_37 : decode cX12_lived 37 = .ok (.aload_n 0, 1) := by decide +kernel
theorem dX12_lived_38 : decode cX12_lived 38 = .ok (.getfield 19, 3) := by decide +kernel
theorem dX12_lived_41 : decode cX12_lived 41 = .ok (.iload_n 1, 1) := by decide +kernel
theorem dX12_lived_42 : decode cX12_lived 42 = .ok (.iload_n 3, 1) := by decide +kernel
theorem dX12_lived_43 : decode cX12_lived 43 = .ok (.iastore, 1) := by decide +kernel
theorem dX12_lived_44 : decode cX12_lived 44 = .ok (.iconst 1, 1) := by decide +kernel
theorem dX12_lived_45 : decode cX12_lived 45 = .ok (.ireturn, 1) := by decide +kernel
theorem dX12_knows_0 : decode cX12_knows 0 = .ok (.aload_n 0, 1) := by decide +kernel
theorem dX12_knows_1 : decode cX12_knows 1 = .ok (.iload_n 1, 1) := by decide +kernel
theorem dX12_knows_2 : decode cX12_knows 2 = .ok (.invokevirtual 145, 3) := by decide +kernel
theorem dX12_knows_5 : decode cX12_knows 5 = .ok (.ifCond .eq 11, 3) := by decide +kernel
theorem dX12_knows_8 : decode cX12_knows 8 = .ok (.aload_n 0, 1) := by decide +kernel
theorem dX12_knows_9 : decode cX12_knows 9 = .ok (.iload_n 2, 1) := by decide +kernel
theorem dX12_knows_10 : decode cX12_knows 10 = .ok (.invokevirtual 145, 3) := by decide +kernel
theorem dX12_knows_13 : decode cX12_knows 13 = .ok (.ifCond .ne 6, 3) := by decide +kernel
theorem dX12_knows_16 : decode cX12_knows 16 = .ok (.bipush (-2), 2) := by decide +kernel
theorem dX12_knows_18 : decode cX12_knows 18 = .ok (.ireturn, 1) := by decide +kernel
theorem dX12_knows_19 : decode cX12_knows 19 = .ok (.aload_n 0, 1) := by decide +kernel
theorem dX12_knows_20 : decode cX12_knows 20 = .ok (.getfield 22, 3) := by decide +kernel
theorem dX12_knows_23 : decode cX12_knows 23 = .ok (.bipush 10, 2) := by decide +kernel
theorem dX12_knows_25 : decode cX12_knows 25 = .ok (.iload_n 1, 1) := by decide +kernel
theorem dX12_knows_26 : decode cX12_knows 26 = .ok (.imul, 1) := by decide +kernel
theorem dX12_knows_27 : decode cX12_knows 27 = .ok (.iload_n 2, 1) := by decide +kernel
theorem dX12_knows_28 : decode cX12_knows 28 = .ok (.iadd, 1) := by decide +kernel
theorem dX12_knows_29 : decode cX12_knows 29 = .ok (.baload, 1) := by decide +kernel
theorem dX12_knows_30 : decode cX12_knows 30 = .ok (.istore 4, 2) := by decide +kernel
theorem dX12_knows_32 : decode cX12_knows 32 = .ok (.aload_n 0, 1) := by decide +kernel
theorem dX12_knows_33 : decode cX12_knows 33 = .ok (.getfield 22, 3) := by decide +kernel
theorem dX12_knows_36 : decode cX12_knows 36 = .ok (.bipush 10, 2) := by decide +kernel
theorem dX12_knows_38 : decode cX12_knows 38 = .ok (.iload_n 1, 1) := by decide +kernel
theorem dX12_knows_39 : decode cX12_knows 39 = .ok (.imul, 1) := by decide +kernel
theorem dX12_knows_40 : decode cX12_knows 40 = .ok (.iload_n 2, 1) := by decide +kernel
theorem dX12_knows_41 : decode cX12_knows 41 = .ok (.iadd, 1) := by decide +kernel
theorem dX12_knows_42 : decode cX12_knows 42 = .ok (.iload_n 3, 1) := by decide +kernel
theorem dX12_knows_43 : decode cX12_knows 43 = .ok (.bastore, 1) := by decide +kernel
theorem dX12_knows_44 : decode cX12_knows 44 = .ok (.iload 4, 2) := by decide +kernel
theorem dX12_knows_46 : decode cX12_knows 46 = .ok (.iload_n 3, 1) := by decide +kernel
theorem dX12_knows_47 : decode cX12_knows 47 = .ok (.if_icmp .ne 7, 3) := by decide +kernel
theorem dX12_knows_50 : decode cX12_knows 50 = .ok (.iconst 0, 1) := by decide +kernel
theorem dX12_knows_51 : decode cX12_knows 51 = .ok (.goto 4, 3) := by decide +kernel
theorem dX12_knows_54 : decode cX12_knows 54 = .ok (.iconst 1, 1) := by decide +kernel
theorem dX12_knows_55 : decode cX12_knows 55 = .ok (.ireturn, 1) := by decide +kernel
theorem dX12_letter_0 : decode cX12_letter 0 = .ok (.iload_n 1, 1) := by decide +kernel
theorem dX12_letter_1 : decode cX12_letter 1 = .ok (.bipush 6, 2) := by decide +kernel
theorem dX12_letter_3 : decode cX12_letter 3 = .ok (.invokestatic 135, 3) := by decide +kernel
theorem dX12_letter_6 : decode cX12_letter 6 = .ok (.ifCond .eq 29, 3) := by decide +kernel
theorem dX12_letter_9 : decode cX12_letter 9 = .ok (.aload_n 0, 1) := by decide +kernel
theorem dX12_letter_10 : decode cX12_letter 10 = .ok (.iload_n 2, 1) := by decide +kernel
theorem dX12_letter_11 : decode cX12_letter 11 = .ok (.invokevirtual 145, 3) := by decide +kernel
theorem dX12_letter_14 : decode cX12_letter 14 = .ok (.ifCond .eq 21, 3) := by decide +kernel
theorem dX12_letter_17 : decode cX12_letter 17 = .ok (.aload_n 0, 1) := by decide +kernel
theorem dX12_letter_18 : decode cX12_letter 18 = .ok (.iload_n 3, 1) := by decide +kernel
theorem dX12_letter_19 : decode cX12_letter 19 = .ok (.invokevirtual 145, 3) := by decide +kernel
theorem dX12_letter_22 : decode cX12_letter 22 = .ok (.ifCond .eq 13, 3) := by decide +kernel
theorem dX12_letter_25 : decode cX12_letter 25 = .ok (.iload 4, 2) := by decide +kernel
theorem dX12_letter_27 : decode cX12_letter 27 = .ok (.bipush 6, 2) := by decide +kernel
theorem dX12_letter_29 : decode cX12_letter 29 = .ok (.invokestatic 135, 3) := by decide +kernel
theorem dX12_letter_32 : decode cX12_letter 32 = .ok (.ifCond .ne 6, 3) := by decide +kernel
theorem dX12_letter_35 : decode cX12_letter 35 = .ok (.bipush (-2), 2) := by decide +kernel
theorem dX12_letter_37 : decode cX12_letter 37 = .ok (.ireturn, 1) := by decide +kernel
theorem dX12_letter_38 : decode cX12_letter 38 = .ok (.aload_n 0, 1) := by decide +kernel
theorem dX12_letter_39 : decode cX12_letter 39 = .ok (.getfield 142, 3) := by decide +kernel
theorem dX12_letter_42 : decode cX12_letter 42 = .ok (.bipush 12, 2) := by decide +kernel
theorem dX12_letter_44 : decode cX12_letter 44 = .ok (.if_icmp .ne 6, 3) := by decide +kernel
theorem dX12_letter_47 : decode cX12_letter 47 = .ok (.bipush (-4), 2) := by decide +kernel
theorem dX12_letter_49 : decode cX12_letter 49 = .ok (.ireturn, 1) := by decide +kernel
theorem dX12_letter_50 : decode cX12_letter 50 = .ok (.aload_n 0, 1) := by decide +kernel
theorem dX12_letter_51 : decode cX12_letter 51 = .ok (.getfield 26, 3) := by decide +kernel
theorem dX12_letter_54 : decode cX12_letter 54 = .ok (.aload_n 0, 1) := by decide +kernel
theorem dX12_letter_55 : decode cX12_letter 55 = .ok (.getfield 142, 3) := by decide +kernel
theorem dX12_letter_58 : decode cX12_letter 58 = .ok (.iload_n 1, 1) := by decide +kernel
theorem dX12_letter_59 : decode cX12_letter 59 = .ok (.iastore, 1) := by decide +kernel
theorem dX12_letter_60 : decode cX12_letter 60 = .ok (.aload_n 0, 1) := by decide +kernel
theorem dX12_letter_61 : decode cX12_letter 61 = .ok (.getfield 29, 3) := by decide +kernel
theorem dX12_letter_64 : decode cX12_letter 64 = .ok (.aload_n 0, 1) := by decide +kernel
theorem dX12_letter_65 : decode cX12_letter 65 = .ok (.getfield 142, 3) := by decide +kernel
theorem dX12_letter_68 : decode cX12_letter 68 = .ok (.iload_n 2, 1) := by decide +kernel
theorem dX12_letter_69 : decode cX12_letter 69 = .ok (.iastore, 1) := by decide +kernel
theorem dX12_letter_70 : decode cX12_letter 70 = .ok (.aload_n 0, 1) := by decide +kernel
theorem dX12_letter_71 : decode cX12_letter 71 = .ok (.getfield 32, 3) := by decide +kernel
theorem dX12_letter_74 : decode cX12_letter 74 = .ok (.aload_n 0, 1) := by decide +kernel
theorem dX12_letter_75 : decode cX12_letter 75 = .ok (.getfield 142, 3) := by decide +kernel
theorem dX12_letter_78 : decode cX12_letter 78 = .ok (.iload_n 3, 1) := by decide +kernel
theorem dX12_letter_79 : decode cX12_letter 79 = .ok (.iastore, 1) := by decide +kernel
theorem dX12_letter_80 : decode cX12_letter 80 = .ok (.aload_n 0, 1) := by decide +kernel
theorem dX12_letter_81 : decode cX12_letter 81 = .ok (.getfield 35, 3) := by decide +kernel
theorem dX12_letter_84 : decode cX12_letter 84 = .ok (.aload_n 0, 1) := by decide +kernel
theorem dX12_letter_85 : decode cX12_letter 85 = .ok (.getfield 142, 3) := by decide +kernel
theorem dX12_letter_88 : decode cX12_letter 88 = .ok (.iload 4, 2) := by decide +kernel
theorem dX12_letter_90 : decode cX12_letter 90 = .ok (.iastore, 1) := by decide +kernel
theorem dX12_letter_91 : decode cX12_letter 91 = .ok (.aload_n 0, 1) := by decide +kernel
theorem dX12_letter_92 : decode cX12_letter 92 = .ok (.getfield 38, 3) := by decide +kernel
theorem dX12_letter_95 : decode cX12_letter 95 = .ok (.aload_n 0, 1) := by decide +kernel
theorem dX12_letter_96 : decode cX12_letter 96 = .ok (.getfield 142, 3) := by decide +kernel
theorem dX12_letter_99 : decode cX12_letter 99 = .ok (.iconst 0, 1) := by decide +kernel
theorem dX12_letter_100 : decode cX12_letter 100 = .ok (.iastore, 1) := by decide +kernel
theorem dX12_letter_101 : decode cX12_letter 101 = .ok (.aload_n 0, 1) := by decide +kernel
theorem dX12_letter_102 : decode cX12_letter 102 = .ok (.getfield 41, 3) := by decide +kernel
theorem dX12_letter_105 : decode cX12_letter 105 = .ok (.aload_n 0, 1) := by decide +kernel
theorem dX12_letter_106 : decode cX12_letter 106 = .ok (.getfield 142, 3) := by decide +kernel
theorem dX12_letter_109 : decode cX12_letter 109 = .ok (.sipush 9999, 3) := by decide +kernel
theorem dX12_letter_112 : decode cX12_letter 112 = .ok (.iastore, 1) := by decide +kernel
theorem dX12_letter_113 : decode cX12_letter 113 = .ok (.aload_n 0, 1) := by decide +kernel
theorem dX12_letter_114 : decode cX12_letter 114 = .ok (.getfield 44, 3) := by decide +kernel
theorem dX12_letter_117 : decode cX12_letter 117 = .ok (.aload_n 0, 1) := by decide +kernel
theorem dX12_letter_118 : decode cX12_letter 118 = .ok (.getfield 142, 3) := by decide +kernel
theorem dX12_letter_121 : decode cX12_letter 121 = .ok (.iconst (-1), 1) := by decide +kernel
theorem dX12_letter_122 : decode cX12_letter 122 = .ok (.iastore, 1) := by decide +kernel
theorem dX12_letter_123 : decode cX12_letter 123 = .ok (.aload_n 0, 1) := by decide +kernel
theorem dX12_letter_124 : decode cX12_letter 124 = .ok (.getfield 47, 3) := by decide +kernel
theorem dX12_letter_127 : decode cX12_letter 127 = .ok (.aload_n 0, 1) := by decide +kernel
theorem dX12_letter_128 : decode cX12_letter 128 = .ok (.getfield 142, 3) := by decide +kernel
theorem dX12_letter_131 : decode cX12_letter 131 = .ok (.iconst (-1), 1) := by decide +kernel
theorem dX12_letter_132 : decode cX12_letter 132 = .ok (.iastore, 1) := by decide +kernel
theorem dX12_letter_133 : decode cX12_letter 133 = .ok (.aload_n 0, 1) := by decide +kernel
theorem dX12_letter_134 : decode cX12_letter 134 = .ok (.dup, 1) := by decide +kernel
theorem dX12_letter_135 : decode cX12_letter 135 = .ok (.getfield 142, 3) := by decide +kernel
theorem dX12_letter_138 : decode cX12_letter 138 = .ok (.iconst 1, 1) := by decide +kernel
theorem dX12_letter_139 : decode cX12_letter 139 = .ok (.iadd, 1) := by decide +kernel
theorem dX12_letter_140 : decode cX12_letter 140 = .ok (.putfield 142, 3) := by decide +kernel
theorem dX12_letter_143 : decode cX12_letter 143 = .ok (.aload_n 0, 1) := by decide +kernel
theorem dX12_letter_144 : decode cX12_letter 144 = .ok (.getfield 142, 3) := by decide +kernel
theorem dX12_letter_147 : decode cX12_letter 147 = .ok (.iconst 1, 1) := by decide +kernel
theorem dX12_letter_148 : decode cX12_letter 148 = .ok (.isub, 1) := by decide +kernel
theorem dX12_letter_149 : decode cX12_letter 149 = .ok (.ireturn, 1) := by decide +kernel
theorem dX12_told_0 : decode cX12_told 0 = .ok (.aload_n 0, 1) := by decide +kernel
theorem dX12_told_1 : decode cX12_told 1 = .ok (.iload_n 1, 1) := by decide +kernel
theorem dX12_told_2 : decode cX12_told 2 = .ok (.invokevirtual 152, 3) := by decide +kernel
theorem dX12_told_5 : decode cX12_told 5 = .ok (.ifCond .ne 6, 3) := by decide +kernel
theorem dX12_told_8 : decode cX12_told 8 = .ok (.bipush (-2), 2) := by decide +kernel
theorem dX12_told_10 : decode cX12_told 10 = .ok (.ireturn, 1) := by decide +kernel
theorem dX12_told_11 : decode cX12_told 11 = .ok (.iload_n 2, 1) := by decide +kernel
theorem dX12_told_12 : decode cX12_told 12 = .ok (.tableswitch 115 0 8 #[52, 59, 66, 73, 80, 87, 94, 101, 108], 52) := by decide +kernel
theorem dX12_told_64 : decode cX12_told 64 = .ok (.aload_n 0, 1) := by decide +kernel
theorem dX12_told_65 : decode cX12_told 65 = .ok (.getfield 26, 3) := by decide +kernel
theorem dX12_told_68 : decode cX12_told 68 = .ok (.iload_n 1, 1) := by decide +kernel
theorem dX12_told_69 : decode cX12_told 69 = .ok (.iaload, 1) := by decide +kernel
theorem dX12_told_70 : decode cX12_told 70 = .ok (.ireturn, 1) := by decide +kernel
theorem dX12_told_71 : decode cX12_told 71 = .ok (.aload_n 0, 1) := by decide +kernel
theorem dX12_told_72 : decode cX12_told 72 = .ok (.getfield 29, 3) := by decide +kernel
theorem dX12_told_75 : decode cX12_told 75 = .ok (.iload_n 1, 1) := by decide +kernel
theorem dX12_told_76 : decode cX12_told 76 = .ok (.iaload, 1) := by decide +kernel
theorem dX12_told_77 : decode cX12_told 77 = .ok (.ireturn, 1) := by decide +kernel
theorem dX12_told_78 : decode cX12_told 78 = .ok (.aload_n 0, 1) := by decide +kernel
theorem dX12_told_79 : decode cX12_told 79 = .ok (.getfield 32, 3) := by decide +kernel
theorem dX12_told_82 : decode cX12_told 82 = .ok (.iload_n 1, 1) := by decide +kernel
theorem dX12_told_83 : decode cX12_told 83 = .ok (.iaload, 1) := by decide +kernel
theorem dX12_told_84 : decode cX12_told 84 = .ok (.ireturn, 1) := by decide +kernel
theorem dX12_told_85 : decode cX12_told 85 = .ok (.aload_n 0, 1) := by decide +kernel
theorem dX12_told_86 : decode cX12_told 86 = .ok (.getfield 35, 3) := by decide +kernel
theorem dX12_told_89 : decode cX12_told 89 = .ok (.iload_n 1, 1) := by decide +kernel
theorem dX12_told_90 : decode cX12_told 90 = .ok (.iaload, 1) := by decide +kernel
theorem dX12_told_91 : decode cX12_told 91 = .ok (.ireturn, 1) := by decide +kernel
theorem dX12_told_92 : decode cX12_told 92 = .ok (.aload_n 0, 1) := by decide +kernel
theorem dX12_told_93 : decode cX12_told 93 = .ok (.getfield 38, 3) := by decide +kernel
theorem dX12_told_96 : decode cX12_told 96 = .ok (.iload_n 1, 1) := by decide +kernel
theorem dX12_told_97 : decode cX12_told 97 = .ok (.iaload, 1) := by decide +kernel
theorem dX12_told_98 : decode cX12_told 98 = .ok (.ireturn, 1) := by decide +kernel
theorem dX12_told_99 : decode cX12_told 99 = .ok (.aload_n 0, 1) := by decide +kernel
theorem dX12_told_100 : decode cX12_told 100 = .ok (.getfield 41, 3) := by decide +kernel
theorem dX12_told_103 : decode cX12_told 103 = .ok (.iload_n 1, 1) := by decide +kernel
theorem dX12_told_104 : decode cX12_told 104 = .ok (.iaload, 1) := by decide +kernel
theorem dX12_told_105 : decode cX12_told 105 = .ok (.ireturn, 1) := by decide +kernel
theorem dX12_told_106 : decode cX12_told 106 = .ok (.aload_n 0, 1) := by decide +kernel
theorem dX12_told_107 : decode cX12_told 107 = .ok (.getfield 44, 3) := by decide +kernel
theorem dX12_told_110 : decode cX12_told 110 = .ok (.iload_n 1, 1) := by decide +kernel
theorem dX12_told_111 : decode cX12_told 111 = .ok (.iaload, 1) := by decide +kernel
theorem dX12_told_112 : decode cX12_told 112 = .ok (.ireturn, 1) := by decide +kernel
theorem dX12_told_113 : decode cX12_told 113 = .ok (.aload_n 0, 1) := by decide +kernel
theorem dX12_told_114 : decode cX12_told 114 = .ok (.getfield 47, 3) := by decide +kernel
theorem dX12_told_117 : decode cX12_told 117 = .ok (.iload_n 1, 1) := by decide +kernel
theorem dX12_told_118 : decode cX12_told 118 = .ok (.iaload, 1) := by decide +kernel
theorem dX12_told_119 : decode cX12_told 119 = .ok (.ireturn, 1) := by decide +kernel
theorem dX12_told_120 : decode cX12_told 120 = .ok (.aload_n 0, 1) := by decide +kernel
theorem dX12_told_121 : decode cX12_told 121 = .ok (.getfield 50, 3) := by decide +kernel
theorem dX12_told_124 : decode cX12_told 124 = .ok (.iload_n 1, 1) := by decide +kernel
theorem dX12_told_125 : decode cX12_told 125 = .ok (.iaload, 1) := by decide +kernel
theorem dX12_told_126 : decode cX12_told 126 = .ok (.ireturn, 1) := by decide +kernel
theorem dX12_told_127 : decode cX12_told 127 = .ok (.bipush (-2), 2) := by decide +kernel
theorem dX12_told_129 : decode cX12_told 129 = .ok (.ireturn, 1) := by decide +kernel
theorem dX12_days_0 : decode cX12_days 0 = .ok (.aload_n 0, 1) := by decide +kernel
theorem dX12_days_1 : decode cX12_days 1 = .ok (.iload_n 1, 1) := by decide +kernel
theorem dX12_days_2 : decode cX12_days 2 = .ok (.invokevirtual 152, 3) := by decide +kernel
theorem dX12_days_5 : decode cX12_days 5 = .ok (.ifCond .eq 22, 3) := by decide +kernel
theorem dX12_days_8 : decode cX12_days 8 = .ok (.iload_n 2, 1) := by decide +kernel
theorem dX12_days_9 : decode cX12_days 9 = .ok (.invokestatic 149, 3) := by decide +kernel
theorem dX12_days_12 : decode cX12_days 12 = .ok (.ifCond .eq 15, 3) := by decide +kernel
theorem dX12_days_15 : decode cX12_days 15 = .ok (.iload_n 3, 1) := by decide +kernel
theorem dX12_days_16 : decode cX12_days 16 = .ok (.invokestatic 149, 3) := by decide +kernel
theorem dX12_days_19 : decode cX12_days 19 = .ok (.ifCond .eq 8, 3) := by decide +kernel
theorem dX12_days_22 : decode cX12_days 22 = .ok (.iload_n 2, 1) := by decide +kernel
theorem dX12_days_23 : decode cX12_days 23 = .ok (.iload_n 3, 1) := by decide +kernel
theorem dX12_days_24 : decode cX12_days 24 = .ok (.if_icmp .le 6, 3) := by decide +kernel
theorem dX12_days_27 : decode cX12_days 27 = .ok (.bipush (-2), 2) := by decide +kernel
theorem dX12_days_29 : decode cX12_days 29 = .ok (.ireturn, 1) := by decide +kernel
theorem dX12_days_30 : decode cX12_days 30 = .ok (.aload_n 0, 1) := by decide +kernel
theorem dX12_days_31 : decode cX12_days 31 = .ok (.getfield 38, 3) := by decide +kernel
theorem dX12_days_34 : decode cX12_days 34 = .ok (.iload_n 1, 1) := by decide +kernel
theorem dX12_days_35 : decode cX12_days 35 = .ok (.iload_n 2, 1) := by decide +kernel
theorem dX12_days_36 : decode cX12_days 36 = .ok (.iastore, 1) := by decide +kernel
theorem dX12_days_37 : decode cX12_days 37 = .ok (.aload_n 0, 1) := by decide +kernel
theorem dX12_days_38 : decode cX12_days 38 = .ok (.getfield 41, 3) := by decide +kernel
theorem dX12_days_41 : decode cX12_days 41 = .ok (.iload_n 1, 1) := by decide +kernel
theorem dX12_days_42 : decode cX12_days 42 = .ok (.iload_n 3, 1) := by decide +kernel
theorem dX12_days_43 : decode cX12_days 43 = .ok (.iastore, 1) := by decide +kernel
theorem dX12_days_44 : decode cX12_days 44 = .ok (.iconst 1, 1) := by decide +kernel
theorem dX12_days_45 : decode cX12_days 45 = .ok (.ireturn, 1) := by decide +kernel
theorem dX12_week_0 : decode cX12_week 0 = .ok (.aload_n 0, 1) := by decide +kernel
theorem dX12_week_1 : decode cX12_week 1 = .ok (.iload_n 1, 1) := by decide +kernel
theorem dX12_week_2 : decode cX12_week 2 = .ok (.invokevirtual 152, 3) := by decide +kernel
theorem dX12_week_5 : decode cX12_week 5 = .ok (.ifCond .eq 17, 3) := by decide +kernel
theorem dX12_week_8 : decode cX12_week 8 = .ok (.iload_n 2, 1) := by decide +kernel
theorem dX12_week_9 : decode cX12_week 9 = .ok (.iconst (-1), 1) := by decide +kernel
theorem dX12_week_10 : decode cX12_week 10 = .ok (.if_icmp .eq 15, 3) := by decide +kernel
theorem dX12_week_13 : decode cX12_week 13 = .ok (.iload_n 2, 1) := by decide +kernel
theorem dX12_week_14 : decode cX12_week 14 = .ok (.bipush 7, 2) := by decide +kernel
theorem dX12_week_16 : decode cX12_week 16 = .ok (.invokestatic 135, 3) := by decide +kernel
theorem dX12_week_19 : decode cX12_week 19 = .ok (.ifCond .ne 6, 3) := by decide +kernel
theorem dX12_week_22 : decode cX12_week 22 = .ok (.bipush (-2), 2) := by decide +kernel
theorem dX12_week_24 : decode cX12_week 24 = .ok (.ireturn, 1) := by decide +kernel
theorem dX12_week_25 : decode cX12_week 25 = .ok (.aload_n 0, 1) := by decide +kernel
theorem dX12_week_26 : decode cX12_week 26 = .ok (.getfield 44, 3) := by decide +kernel
theorem dX12_week_29 : decode cX12_week 29 = .ok (.iload_n 1, 1) := by decide +kernel
theorem dX12_week_30 : decode cX12_week 30 = .ok (.iload_n 2, 1) := by decide +kernel
theorem dX12_week_31 : decode cX12_week 31 = .ok (.iastore, 1) := by decide +kernel
theorem dX12_week_32 : decode cX12_week 32 = .ok (.iconst 1, 1) := by decide +kernel
theorem dX12_week_33 : decode cX12_week 33 = .ok (.ireturn, 1) := by decide +kernel
theorem dX12_bound_0 : decode cX12_bound 0 = .ok (.aload_n 0, 1) := by decide +kernel
theorem dX12_bound_1 : decode cX12_bound 1 = .ok (.iload_n 1, 1) := by decide +kernel
theorem dX12_bound_2 : decode cX12_bound 2 = .ok (.invokevirtual 152, 3) := by decide +kernel
theorem dX12_bound_5 : decode cX12_bound 5 = .ok (.ifCond .eq 30, 3) := by decide +kernel
theorem dX12_bound_8 : decode cX12_bound 8 = .ok (.aload_n 0, 1) := by decide +kernel
theorem dX12_bound_9 : decode cX12_bound 9 = .ok (.iload_n 2, 1) := by decide +kernel
theorem dX12_bound_10 : decode cX12_bound 10 = .ok (.invokevirtual 152, 3) := by decide +kernel
theorem dX12_bound_13 : decode cX12_bound 13 = .ok (.ifCond .eq 22, 3) := by decide +kernel
theorem dX12_bound_16 : decode cX12_bound 16 = .ok (.iload_n 1, 1) := by decide +kernel
theorem dX12_bound_17 : decode cX12_bound 17 = .ok (.iload_n 2, 1) := by decide +kernel
theorem dX12_bound_18 : decode cX12_bound 18 = .ok (.if_icmp .eq 17, 3) := by decide +kernel
theorem dX12_bound_21 : decode cX12_bound 21 = .ok (.iload_n 3, 1) := by decide +kernel
theorem dX12_bound_22 : decode cX12_bound 22 = .ok (.sipush (-500), 3) := by decide +kernel
theorem dX12_bound_25 : decode cX12_bound 25 = .ok (.if_icmp .lt 10, 3) := by decide +kernel
theorem dX12_bound_28 : decode cX12_bound 28 = .ok (.iload_n 3, 1) := by decide +kernel
theorem dX12_bound_29 : decode cX12_bound 29 = .ok (.sipush 500, 3) := by decide +kernel
theorem dX12_bound_32 : decode cX12_bound 32 = .ok (.if_icmp .le 6, 3) := by decide +kernel
theorem dX12_bound_35 : decode cX12_bound 35 = .ok (.bipush (-2), 2) := by decide +kernel
theorem dX12_bound_37 : decode cX12_bound 37 = .ok (.ireturn, 1) := by decide +kernel
theorem dX12_bound_38 : decode cX12_bound 38 = .ok (.aload_n 0, 1) := by decide +kernel
theorem dX12_bound_39 : decode cX12_bound 39 = .ok (.getfield 155, 3) := by decide +kernel
theorem dX12_bound_42 : decode cX12_bound 42 = .ok (.bipush 20, 2) := by decide +kernel
theorem dX12_bound_44 : decode cX12_bound 44 = .ok (.if_icmp .ne 6, 3) := by decide +kernel
theorem dX12_bound_47 : decode cX12_bound 47 = .ok (.bipush (-4), 2) := by decide +kernel
theorem dX12_bound_49 : decode cX12_bound 49 = .ok (.ireturn, 1) := by decide +kernel
theorem dX12_bound_50 : decode cX12_bound 50 = .ok (.aload_n 0, 1) := by decide +kernel
theorem dX12_bound_51 : decode cX12_bound 51 = .ok (.getfield 56, 3) := by decide +kernel
theorem dX12_bound_54 : decode cX12_bound 54 = .ok (.aload_n 0, 1) := by decide +kernel
theorem dX12_bound_55 : decode cX12_bound 55 = .ok (.getfield 155, 3) := by decide +kernel
theorem dX12_bound_58 : decode cX12_bound 58 = .ok (.iload_n 1, 1) := by decide +kernel
theorem dX12_bound_59 : decode cX12_bound 59 = .ok (.iastore, 1) := by decide +kernel
theorem dX12_bound_60 : decode cX12_bound 60 = .ok (.aload_n 0, 1) := by decide +kernel
theorem dX12_bound_61 : decode cX12_bound 61 = .ok (.getfield 59, 3) := by decide +kernel
theorem dX12_bound_64 : decode cX12_bound 64 = .ok (.aload_n 0, 1) := by decide +kernel
theorem dX12_bound_65 : decode cX12_bound 65 = .ok (.getfield 155, 3) := by decide +kernel
theorem dX12_bound_68 : decode cX12_bound 68 = .ok (.iload_n 2, 1) := by decide +kernel
theorem dX12_bound_69 : decode cX12_bound 69 = .ok (.iastore, 1) := by decide +kernel
theorem dX12_bound_70 : decode cX12_bound 70 = .ok (.aload_n 0, 1) := by decide +kernel
theorem dX12_bound_71 : decode cX12_bound 71 = .ok (.getfield 62, 3) := by decide +kernel
theorem dX12_bound_74 : decode cX12_bound 74 = .ok (.aload_n 0, 1) := by decide +kernel
theorem dX12_bound_75 : decode cX12_bound 75 = .ok (.getfield 155, 3) := by decide +kernel
theorem dX12_bound_78 : decode cX12_bound 78 = .ok (.iload_n 3, 1) := by decide +kernel
theorem dX12_bound_79 : decode cX12_bound 79 = .ok (.iastore, 1) := by decide +kernel
theorem dX12_bound_80 : decode cX12_bound 80 = .ok (.aload_n 0, 1) := by decide +kernel
theorem dX12_bound_81 : decode cX12_bound 81 = .ok (.dup, 1) := by decide +kernel
theorem dX12_bound_82 : decode cX12_bound 82 = .ok (.getfield 155, 3) := by decide +kernel
theorem dX12_bound_85 : decode cX12_bound 85 = .ok (.iconst 1, 1) := by decide +kernel
theorem dX12_bound_86 : decode cX12_bound 86 = .ok (.iadd, 1) := by decide +kernel
theorem dX12_bound_87 : decode cX12_bound 87 = .ok (.putfield 155, 3) := by decide +kernel
theorem dX12_bound_90 : decode cX12_bound 90 = .ok (.aload_n 0, 1) := by decide +kernel
theorem dX12_bound_91 : decode cX12_bound 91 = .ok (.getfield 155, 3) := by decide +kernel
theorem dX12_bound_94 : decode cX12_bound 94 = .ok (.ireturn, 1) := by decide +kernel
theorem dX12_loose_0 : decode cX12_loose 0 = .ok (.aload_n 0, 1) := by decide +kernel
theorem dX12_loose_1 : decode cX12_loose 1 = .ok (.getfield 155, 3) := by decide +kernel
theorem dX12_loose_4 : decode cX12_loose 4 = .ok (.ifCond .ne 6, 3) := by decide +kernel
theorem dX12_loose_7 : decode cX12_loose 7 = .ok (.bipush (-3), 2) := by decide +kernel
theorem dX12_loose_9 : decode cX12_loose 9 = .ok (.ireturn, 1) := by decide +kernel
theorem dX12_loose_10 : decode cX12_loose 10 = .ok (.aload_n 0, 1) := by decide +kernel
theorem dX12_loose_11 : decode cX12_loose 11 = .ok (.dup, 1) := by decide +kernel
theorem dX12_loose_12 : decode cX12_loose 12 = .ok (.getfield 155, 3) := by decide +kernel
theorem dX12_loose_15 : decode cX12_loose 15 = .ok (.iconst 1, 1) := by decide +kernel
theorem dX12_loose_16 : decode cX12_loose 16 = .ok (.isub, 1) := by decide +kernel
theorem dX12_loose_17 : decode cX12_loose 17 = .ok (.putfield 155, 3) := by decide +kernel
theorem dX12_loose_20 : decode cX12_loose 20 = .ok (.aload_n 0, 1) := by decide +kernel
theorem dX12_loose_21 : decode cX12_loose 21 = .ok (.getfield 155, 3) := by decide +kernel
theorem dX12_loose_24 : decode cX12_loose 24 = .ok (.ireturn, 1) := by decide +kernel
theorem dX12_found_0 : decode cX12_found 0 = .ok (.aload_n 0, 1) := by decide +kernel
theorem dX12_found_1 : decode cX12_found 1 = .ok (.iload_n 1, 1) := by decide +kernel
theorem dX12_found_2 : decode cX12_found 2 = .ok (.invokevirtual 152, 3) := by decide +kernel
theorem dX12_found_5 : decode cX12_found 5 = .ok (.ifCond .eq 31, 3) := by decide +kernel
theorem dX12_found_8 : decode cX12_found 8 = .ok (.aload_n 0, 1) := by decide +kernel
theorem dX12_found_9 : decode cX12_found 9 = .ok (.iload_n 2, 1) := by decide +kernel
theorem dX12_found_10 : decode cX12_found 10 = .ok (.invokevirtual 152, 3) := by decide +kernel
theorem dX12_found_13 : decode cX12_found 13 = .ok (.ifCond .eq 23, 3) := by decide +kernel
theorem dX12_found_16 : decode cX12_found 16 = .ok (.aload_n 0, 1) := by decide +kernel
theorem dX12_found_17 : decode cX12_found 17 = .ok (.getfield 26, 3) := by decide +kernel
theorem dX12_found_20 : decode cX12_found 20 = .ok (.iload_n 1, 1) := by decide +kernel
theorem dX12_found_21 : decode cX12_found 21 = .ok (.iaload, 1) := by decide +kernel
theorem dX12_found_22 : decode cX12_found 22 = .ok (.iconst 4, 1) := by decide +kernel
theorem dX12_found_23 : decode cX12_found 23 = .ok (.if_icmp .ne 13, 3) := by decide +kernel
theorem dX12_found_26 : decode cX12_found 26 = .ok (.aload_n 0, 1) := by decide +kernel
theorem dX12_found_27 : decode cX12_found 27 = .ok (.getfield 26, 3) := by decide +kernel
theorem dX12_found_30 : decode cX12_found 30 = .ok (.iload_n 2, 1) := by decide +kernel
theorem dX12_found_31 : decode cX12_found 31 = .ok (.iaload, 1) := by decide +kernel
theorem dX12_found_32 : decode cX12_found 32 = .ok (.iconst 4, 1) := by decide +kernel
theorem dX12_found_33 : decode cX12_found 33 = .ok (.if_icmp .ne 6, 3) := by decide +kernel
theorem dX12_found_36 : decode cX12_found 36 = .ok (.bipush (-2), 2) := by decide +kernel
theorem dX12_found_38 : decode cX12_found 38 = .ok (.ireturn, 1) := by decide +kernel
theorem dX12_found_39 : decode cX12_found 39 = .ok (.aload_n 0, 1) := by decide +kernel
theorem dX12_found_40 : decode cX12_found 40 = .ok (.getfield 47, 3) := by decide +kernel
theorem dX12_found_43 : decode cX12_found 43 = .ok (.iload_n 1, 1) := by decide +kernel
theorem dX12_found_44 : decode cX12_found 44 = .ok (.iaload, 1) := by decide +kernel
theorem dX12_found_45 : decode cX12_found 45 = .ok (.ifCond .lt 6, 3) := by decide +kernel
theorem dX12_found_48 : decode cX12_found 48 = .ok (.bipush (-3), 2) := by decide +kernel
theorem dX12_found_50 : decode cX12_found 50 = .ok (.ireturn, 1) := by decide +kernel
theorem dX12_found_51 : decode cX12_found 51 = .ok (.aload_n 0, 1) := by decide +kernel
theorem dX12_found_52 : decode cX12_found 52 = .ok (.getfield 47, 3) := by decide +kernel
theorem dX12_found_55 : decode cX12_found 55 = .ok (.iload_n 1, 1) := by decide +kernel
theorem dX12_found_56 : decode cX12_found 56 = .ok (.iload_n 2, 1) := by decide +kernel
theorem dX12_found_57 : decode cX12_found 57 = .ok (.iastore, 1) := by decide +kernel
theorem dX12_found_58 : decode cX12_found 58 = .ok (.iconst 1, 1) := by decide +kernel
theorem dX12_found_59 : decode cX12_found 59 = .ok (.ireturn, 1) := by decide +kernel
theorem dX12_lose_0 : decode cX12_lose 0 = .ok (.aload_n 0, 1) := by decide +kernel
theorem dX12_lose_1 : decode cX12_lose 1 = .ok (.iload_n 1, 1) := by decide +kernel
theorem dX12_lose_2 : decode cX12_lose 2 = .ok (.invokevirtual 152, 3) := by decide +kernel
theorem dX12_lose_5 : decode cX12_lose 5 = .ok (.ifCond .ne 6, 3) := by decide +kernel
theorem dX12_lose_8 : decode cX12_lose 8 = .ok (.bipush (-2), 2) := by decide +kernel
theorem dX12_lose_10 : decode cX12_lose 10 = .ok (.ireturn, 1) := by decide +kernel
theorem dX12_lose_11 : decode cX12_lose 11 = .ok (.aload_n 0, 1) := by decide +kernel
theorem dX12_lose_12 : decode cX12_lose 12 = .ok (.getfield 47, 3) := by decide +kernel
theorem dX12_lose_15 : decode cX12_lose 15 = .ok (.iload_n 1, 1) := by decide +kernel
theorem dX12_lose_16 : decode cX12_lose 16 = .ok (.iaload, 1) := by decide +kernel
theorem dX12_lose_17 : decode cX12_lose 17 = .ok (.ifCond .ge 6, 3) := by decide +kernel
theorem dX12_lose_20 : decode cX12_lose 20 = .ok (.bipush (-3), 2) := by decide +kernel
theorem dX12_lose_22 : decode cX12_lose 22 = .ok (.ireturn, 1) := by decide +kernel
theorem dX12_lose_23 : decode cX12_lose 23 = .ok (.aload_n 0, 1) := by decide +kernel
theorem dX12_lose_24 : decode cX12_lose 24 = .ok (.getfield 47, 3) := by decide +kernel
theorem dX12_lose_27 : decode cX12_lose 27 = .ok (.iload_n 1, 1) := by decide +kernel
theorem dX12_lose_28 : decode cX12_lose 28 = .ok (.iconst (-1), 1) := by decide +kernel
theorem dX12_lose_29 : decode cX12_lose 29 = .ok (.iastore, 1) := by decide +kernel
theorem dX12_lose_30 : decode cX12_lose 30 = .ok (.iconst 1, 1) := by decide +kernel
theorem dX12_lose_31 : decode cX12_lose 31 = .ok (.ireturn, 1) := by decide +kernel
theorem dX12_raise_0 : decode cX12_raise 0 = .ok (.iload_n 2, 1) := by decide +kernel
theorem dX12_raise_1 : decode cX12_raise 1 = .ok (.istore_n 3, 1) := by decide +kernel
theorem dX12_raise_2 : decode cX12_raise 2 = .ok (.aload_n 0, 1) := by decide +kernel
theorem dX12_raise_3 : decode cX12_raise 3 = .ok (.getfield 44, 3) := by decide +kernel
theorem dX12_raise_6 : decode cX12_raise 6 = .ok (.iload_n 1, 1) := by decide +kernel
theorem dX12_raise_7 : decode cX12_raise 7 = .ok (.iaload, 1) := by decide +kernel
theorem dX12_raise_8 : decode cX12_raise 8 = .ok (.ifCond .lt 22, 3) := by decide +kernel
theorem dX12_raise_11 : decode cX12_raise 11 = .ok (.iload_n 3, 1) := by decide +kernel
theorem dX12_raise_12 : decode cX12_raise 12 = .ok (.bipush 7, 2) := by decide +kernel
theorem dX12_raise_14 : decode cX12_raise 14 = .ok (.irem, 1) := by decide +kernel
theorem dX12_raise_15 : decode cX12_raise 15 = .ok (.aload_n 0, 1) := by decide +kernel
theorem dX12_raise_16 : decode cX12_raise 16 = .ok (.getfield 44, 3) := by decide +kernel
theorem dX12_raise_19 : decode cX12_raise 19 = .ok (.iload_n 1, 1) := by decide +kernel
theorem dX12_raise_20 : decode cX12_raise 20 = .ok (.iaload, 1) := by decide +kernel
theorem dX12_raise_21 : decode cX12_raise 21 = .ok (.if_icmp .eq 9, 3) := by decide +kernel
theorem dX12_raise_24 : decode cX12_raise 24 = .ok (.iinc 3 1, 3) := by decide +kernel
theorem dX12_raise_27 : decode cX12_raise 27 = .ok (.goto (-16), 3) := by decide +kernel
theorem dX12_raise_30 : decode cX12_raise 30 = .ok (.iload_n 3, 1) := by decide +kernel
theorem dX12_raise_31 : decode cX12_raise 31 = .ok (.aload_n 0, 1) := by decide +kernel
theorem dX12_raise_32 : decode cX12_raise 32 = .ok (.getfield 83, 3) := by decide +kernel
theorem dX12_raise_35 : decode cX12_raise 35 = .ok (.iload_n 1, 1) := by decide +kernel
theorem dX12_raise_36 : decode cX12_raise 36 = .ok (.iaload, 1) := by decide +kernel
theorem dX12_raise_37 : decode cX12_raise 37 = .ok (.if_icmp .gt 4, 3) := by decide +kernel
theorem dX12_raise_40 : decode cX12_raise 40 = .ok (.return_, 1) := by decide +kernel
theorem dX12_raise_41 : decode cX12_raise 41 = .ok (.aload_n 0, 1) := by decide +kernel
theorem dX12_raise_42 : decode cX12_raise 42 = .ok (.getfield 83, 3) := by decide +kernel
theorem dX12_raise_45 : decode cX12_raise 45 = .ok (.iload_n 1, 1) := by decide +kernel
theorem dX12_raise_46 : decode cX12_raise 46 = .ok (.iload_n 3, 1) := by decide +kernel
theorem dX12_raise_47 : decode cX12_raise 47 = .ok (.iastore, 1) := by decide +kernel
theorem dX12_raise_48 : decode cX12_raise 48 = .ok (.aload_n 0, 1) := by decide +kernel
theorem dX12_raise_49 : decode cX12_raise 49 = .ok (.iconst 1, 1) := by decide +kernel
theorem dX12_raise_50 : decode cX12_raise 50 = .ok (.putfield 158, 3) := by decide +kernel
theorem dX12_raise_53 : decode cX12_raise 53 = .ok (.return_, 1) := by decide +kernel
theorem dX12_sink_0 : decode cX12_sink 0 = .ok (.iload_n 2, 1) := by decide +kernel
theorem dX12_sink_1 : decode cX12_sink 1 = .ok (.istore_n 3, 1) := by decide +kernel
theorem dX12_sink_2 : decode cX12_sink 2 = .ok (.aload_n 0, 1) := by decide +kernel
theorem dX12_sink_3 : decode cX12_sink 3 = .ok (.getfield 44, 3) := by decide +kernel
theorem dX12_sink_6 : decode cX12_sink 6 = .ok (.iload_n 1, 1) := by decide +kernel
theorem dX12_sink_7 : decode cX12_sink 7 = .ok (.iaload, 1) := by decide +kernel
theorem dX12_sink_8 : decode cX12_sink 8 = .ok (.ifCond .lt 24, 3) := by decide +kernel
theorem dX12_sink_11 : decode cX12_sink 11 = .ok (.iload_n 3, 1) := by decide +kernel
theorem dX12_sink_12 : decode cX12_sink 12 = .ok (.bipush 7, 2) := by decide +kernel
theorem dX12_sink_14 : decode cX12_sink 14 = .ok (.invokestatic 162, 3) := by decide +kernel
theorem dX12_sink_17 : decode cX12_sink 17 = .ok (.aload_n 0, 1) := by decide +kernel
theorem dX12_sink_18 : decode cX12_sink 18 = .ok (.getfield 44, 3) := by decide +kernel
theorem dX12_sink_21 : decode cX12_sink 21 = .ok (.iload_n 1, 1) := by decide +kernel
theorem dX12_sink_22 : decode cX12_sink 22 = .ok (.iaload, 1) := by decide +kernel
theorem dX12_sink_23 : decode cX12_sink 23 = .ok (.if_icmp .eq 9, 3) := by decide +kernel
theorem dX12_sink_26 : decode cX12_sink 26 = .ok (.iinc 3 (-1), 3) := by decide +kernel
theorem dX12_sink_29 : decode cX12_sink 29 = .ok (.goto (-18), 3) := by decide +kernel
theorem dX12_sink_32 : decode cX12_sink 32 = .ok (.iload_n 3, 1) := by decide +kernel
theorem dX12_sink_33 : decode cX12_sink 33 = .ok (.aload_n 0, 1) := by decide +kernel
theorem dX12_sink_34 : decode cX12_sink 34 = .ok (.getfield 86, 3) := by decide +kernel
theorem dX12_sink_37 : decode cX12_sink 37 = .ok (.iload_n 1, 1) := by decide +kernel
theorem dX12_sink_38 : decode cX12_sink 38 = .ok (.iaload, 1) := by decide +kernel
theorem dX12_sink_39 : decode cX12_sink 39 = .ok (.if_icmp .lt 4, 3) := by decide +kernel
theorem dX12_sink_42 : decode cX12_sink 42 = .ok (.return_, 1) := by decide +kernel
theorem dX12_sink_43 : decode cX12_sink 43 = .ok (.aload_n 0, 1) := by decide +kernel
theorem dX12_sink_44 : decode cX12_sink 44 = .ok (.getfield 86, 3) := by decide +kernel
theorem dX12_sink_47 : decode cX12_sink 47 = .ok (.iload_n 1, 1) := by decide +kernel
theorem dX12_sink_48 : decode cX12_sink 48 = .ok (.iload_n 3, 1) := by decide +kernel
theorem dX12_sink_49 : decode cX12_sink 49 = .ok (.iastore, 1) := by decide +kernel
theorem dX12_sink_50 : decode cX12_sink 50 = .ok (.aload_n 0, 1) := by decide +kernel
theorem dX12_sink_51 : decode cX12_sink 51 = .ok (.iconst 1, 1) := by decide +kernel
theorem dX12_sink_52 : decode cX12_sink 52 = .ok (.putfield 158, 3) := by decide +kernel
theorem dX12_sink_55 : decode cX12_sink 55 = .ok (.return_, 1) := by decide +kernel
theorem dX12_clashes_0 : decode cX12_clashes 0 = .ok (.iconst 0, 1) := by decide +kernel
theorem dX12_clashes_1 : decode cX12_clashes 1 = .ok (.istore_n 2, 1) := by decide +kernel
theorem dX12_clashes_2 : decode cX12_clashes 2 = .ok (.iload_n 2, 1) := by decide +kernel
theorem dX12_clashes_3 : decode cX12_clashes 3 = .ok (.aload_n 0, 1) := by decide +kernel
theorem dX12_clashes_4 : decode cX12_clashes 4 = .ok (.getfield 142, 3) := by decide +kernel
theorem dX12_clashes_7 : decode cX12_clashes 7 = .ok (.if_icmp .ge 47, 3) := by decide +kernel
theorem dX12_clashes_10 : decode cX12_clashes 10 = .ok (.aload_n 0, 1) := by decide +kernel
theorem dX12_clashes_11 : decode cX12_clashes 11 = .ok (.getfield 83, 3) := by decide +kernel
theorem dX12_clashes_14 : decode cX12_clashes 14 = .ok (.iload_n 2, 1) := by decide +kernel
theorem dX12_clashes_15 : decode cX12_clashes 15 = .ok (.iconst (-1), 1) := by decide +kernel
theorem dX12_clashes_16 : decode cX12_clashes 16 = .ok (.iastore, 1) := by decide +kernel
theorem dX12_clashes_17 : decode cX12_clashes 17 = .ok (.aload_n 0, 1) := by decide +kernel
theorem dX12_clashes_18 : decode cX12_clashes 18 = .ok (.getfield 86, 3) := by decide +kernel
theorem dX12_clashes_21 : decode cX12_clashes 21 = .ok (.iload_n 2, 1) := by decide +kernel
theorem dX12_clashes_22 : decode cX12_clashes 22 = .ok (.sipush 10000, 3) := by decide +kernel
theorem dX12_clashes_25 : decode cX12_clashes 25 = .ok (.iastore, 1) := by decide +kernel
theorem dX12_clashes_26 : decode cX12_clashes 26 = .ok (.aload_n 0, 1) := by decide +kernel
theorem dX12_clashes_27 : decode cX12_clashes 27 = .ok (.iload_n 2, 1) := by decide +kernel
theorem dX12_clashes_28 : decode cX12_clashes 28 = .ok (.aload_n 0, 1) := by decide +kernel
theorem dX12_clashes_29 : decode cX12_clashes 29 = .ok (.getfield 38, 3) := by decide +kernel
theorem dX12_clashes_32 : decode cX12_clashes 32 = .ok (.iload_n 2, 1) := by decide +kernel
theorem dX12_clashes_33 : decode cX12_clashes 33 = .ok (.iaload, 1) := by decide +kernel
theorem dX12_clashes_34 : decode cX12_clashes 34 = .ok (.invokevirtual 168, 3) := by decide +kernel
theorem dX12_clashes_37 : decode cX12_clashes 37 = .ok (.aload_n 0, 1) := by decide +kernel
theorem dX12_clashes_38 : decode cX12_clashes 38 = .ok (.iload_n 2, 1) := by decide +kernel
theorem dX12_clashes_39 : decode cX12_clashes 39 = .ok (.aload_n 0, 1) := by decide +kernel
theorem dX12_clashes_40 : decode cX12_clashes 40 = .ok (.getfield 41, 3) := by decide +kernel
theorem dX12_clashes_43 : decode cX12_clashes 43 = .ok (.iload_n 2, 1) := by decide +kernel
theorem dX12_clashes_44 : decode cX12_clashes 44 = .ok (.iaload, 1) := by decide +kernel
theorem dX12_clashes_45 : decode cX12_clashes 45 = .ok (.invokevirtual 172, 3) := by decide +kernel
theorem dX12_clashes_48 : decode cX12_clashes 48 = .ok (.iinc 2 1, 3) := by decide +kernel
theorem dX12_clashes_51 : decode cX12_clashes 51 = .ok (.goto (-49), 3) := by decide +kernel
theorem dX12_clashes_54 : decode cX12_clashes 54 = .ok (.aload_n 0, 1) := by decide +kernel
theorem dX12_clashes_55 : decode cX12_clashes 55 = .ok (.iconst 1, 1) := by decide +kernel
theorem dX12_clashes_56 : decode cX12_clashes 56 = .ok (.putfield 158, 3) := by decide +kernel
theorem dX12_clashes_59 : decode cX12_clashes 59 = .ok (.aload_n 0, 1) := by decide +kernel
theorem dX12_clashes_60 : decode cX12_clashes 60 = .ok (.getfield 158, 3) := by decide +kernel
theorem dX12_clashes_63 : decode cX12_clashes 63 = .ok (.ifCond .eq 228, 3) := by decide +kernel
theorem dX12_clashes_66 : decode cX12_clashes 66 = .ok (.aload_n 0, 1) := by decide +kernel
theorem dX12_clashes_67 : decode cX12_clashes 67 = .ok (.iconst 0, 1) := by decide +kernel
theorem dX12_clashes_68 : decode cX12_clashes 68 = .ok (.putfield 158, 3) := by decide +kernel
theorem dX12_clashes_71 : decode cX12_clashes 71 = .ok (.iconst 0, 1) := by decide +kernel
theorem dX12_clashes_72 : decode cX12_clashes 72 = .ok (.istore_n 2, 1) := by decide +kernel
theorem dX12_clashes_73 : decode cX12_clashes 73 = .ok (.iload_n 2, 1) := by decide +kernel
theorem dX12_clashes_74 : decode cX12_clashes 74 = .ok (.aload_n 0, 1) := by decide +kernel
theorem dX12_clashes_75 : decode cX12_clashes 75 = .ok (.getfield 142, 3) := by decide +kernel
theorem dX12_clashes_78 : decode cX12_clashes 78 = .ok (.if_icmp .ge 117, 3) := by decide +kernel
theorem dX12_clashes_81 : decode cX12_clashes 81 = .ok (.aload_n 0, 1) := by decide +kernel
theorem dX12_clashes_82 : decode cX12_clashes 82 = .ok (.getfield 83, 3) := by decide +kernel
theorem dX12_clashes_85 : decode cX12_clashes 85 = .ok (.iload_n 2, 1) := by decide +kernel
theorem dX12_clashes_86 : decode cX12_clashes 86 = .ok (.iaload, 1) := by decide +kernel
theorem dX12_clashes_87 : decode cX12_clashes 87 = .ok (.aload_n 0, 1) := by decide +kernel
theorem dX12_clashes_88 : decode cX12_clashes 88 = .ok (.getfield 41, 3) := by decide +kernel
theorem dX12_clashes_91 : decode cX12_clashes 91 = .ok (.iload_n 2, 1) := by decide +kernel
theorem dX12_clashes_92 : decode cX12_clashes 92 = .ok (.iaload, 1) := by decide +kernel
theorem dX12_clashes_93 : decode cX12_clashes 93 = .ok (.if_icmp .gt 18, 3) := by decide +kernel
theorem dX12_clashes_96 : decode cX12_clashes 96 = .ok (.aload_n 0, 1) := by decide +kernel
theorem dX12_clashes_97 : decode cX12_clashes 97 = .ok (.getfield 86, 3) := by decide +kernel
theorem dX12_clashes_100 : decode cX12_clashes 100 = .ok (.iload_n 2, 1) := by decide +kernel
theorem dX12_clashes_101 : decode cX12_clashes 101 = .ok (.iaload, 1) := by decide +kernel
theorem dX12_clashes_102 : decode cX12_clashes 102 = .ok (.aload_n 0, 1) := by decide +kernel
theorem dX12_clashes_103 : decode cX12_clashes 103 = .ok (.getfield 38, 3) := by decide +kernel
theorem dX12_clashes_106 : decode cX12_clashes 106 = .ok (.iload_n 2, 1) := by decide +kernel
theorem dX12_clashes_107 : decode cX12_clashes 107 = .ok (.iaload, 1) := by decide +kernel
theorem dX12_clashes_108 : decode cX12_clashes 108 = .ok (.if_icmp .ge 5, 3) := by decide +kernel
theorem dX12_clashes_111 : decode cX12_clashes 111 = .ok (.iconst 1, 1) := by decide +kernel
theorem dX12_clashes_112 : decode cX12_clashes 112 = .ok (.ireturn, 1) := by decide +kernel
theorem dX12_clashes_113 : decode cX12_clashes 113 = .ok (.aload_n 0, 1) := by decide +kernel
theorem dX12_clashes_114 : decode cX12_clashes 114 = .ok (.getfield 47, 3) := by decide +kernel
theorem dX12_clashes_117 : decode cX12_clashes 117 = .ok (.iload_n 2, 1) := by decide +kernel
theorem dX12_clashes_118 : decode cX12_clashes 118 = .ok (.iaload, 1) := by decide +kernel
theorem dX12_clashes_119 : decode cX12_clashes 119 = .ok (.ifCond .ge 6, 3) := by decide +kernel
theorem dX12_clashes_122 : decode cX12_clashes 122 = .ok (.goto 67, 3) := by decide +kernel
theorem dX12_clashes_125 : decode cX12_clashes 125 = .ok (.aload_n 0, 1) := by decide +kernel
theorem dX12_clashes_126 : decode cX12_clashes 126 = .ok (.iload_n 2, 1) := by decide +kernel
theorem dX12_clashes_127 : decode cX12_clashes 127 = .ok (.aload_n 0, 1) := by decide +kernel
theorem dX12_clashes_128 : decode cX12_clashes 128 = .ok (.getfield 83, 3) := by decide +kernel
theorem dX12_clashes_131 : decode cX12_clashes 131 = .ok (.aload_n 0, 1) := by decide +kernel
theorem dX12_clashes_132 : decode cX12_clashes 132 = .ok (.getfield 47, 3) := by decide +kernel
theorem dX12_clashes_135 : decode cX12_clashes 135 = .ok (.iload_n 2, 1) := by decide +kernel
theorem dX12_clashes_136 : decode cX12_clashes 136 = .ok (.iaload, 1) := by decide +kernel
theorem dX12_clashes_137 : decode cX12_clashes 137 = .ok (.iaload, 1) := by decide +kernel
theorem dX12_clashes_138 : decode cX12_clashes 138 = .ok (.invokevirtual 168, 3) := by decide +kernel
theorem dX12_clashes_141 : decode cX12_clashes 141 = .ok (.aload_n 0, 1) := by decide +kernel
theorem dX12_clashes_142 : decode cX12_clashes 142 = .ok (.aload_n 0, 1) := by decide +kernel
theorem dX12_clashes_143 : decode cX12_clashes 143 = .ok (.getfield 47, 3) := by decide +kernel
theorem dX12_clashes_146 : decode cX12_clashes 146 = .ok (.iload_n 2, 1) := by decide +kernel
theorem dX12_clashes_147 : decode cX12_clashes 147 = .ok (.iaload, 1) := by decide +kernel
theorem dX12_clashes_148 : decode cX12_clashes 148 = .ok (.aload_n 0, 1) := by decide +kernel
theorem dX12_clashes_149 : decode cX12_clashes 149 = .ok (.getfield 83, 3) := by decide +kernel
theorem dX12_clashes_152 : decode cX12_clashes 152 = .ok (.iload_n 2, 1) := by decide +kernel
theorem dX12_clashes_153 : decode cX12_clashes 153 = .ok (.iaload, 1) := by decide +kernel
theorem dX12_clashes_154 : decode cX12_clashes 154 = .ok (.invokevirtual 168, 3) := by decide +kernel
theorem dX12_clashes_157 : decode cX12_clashes 157 = .ok (.aload_n 0, 1) := by decide +kernel
theorem dX12_clashes_158 : decode cX12_clashes 158 = .ok (.iload_n 2, 1) := by decide +kernel
theorem dX12_clashes_159 : decode cX12_clashes 159 = .ok (.aload_n 0, 1) := by decide +kernel
theorem dX12_clashes_160 : decode cX12_clashes 160 = .ok (.getfield 86, 3) := by decide +kernel
theorem dX12_clashes_163 : decode cX12_clashes 163 = .ok (.aload_n 0, 1) := by decide +kernel
theorem dX12_clashes_164 : decode cX12_clashes 164 = .ok (.getfield 47, 3) := by decide +kernel
theorem dX12_clashes_167 : decode cX12_clashes 167 = .ok (.iload_n 2, 1) := by decide +kernel
theorem dX12_clashes_168 : decode cX12_clashes 168 = .ok (.iaload, 1) := by decide +kernel
theorem dX12_clashes_169 : decode cX12_clashes 169 = .ok (.iaload, 1) := by decide +kernel
theorem dX12_clashes_170 : decode cX12_clashes 170 = .ok (.invokevirtual 172, 3) := by decide +kernel
theorem dX12_clashes_173 : decode cX12_clashes 173 = .ok (.aload_n 0, 1) := by decide +kernel
theorem dX12_clashes_174 : decode cX12_clashes 174 = .ok (.aload_n 0, 1) := by decide +kernel
theorem dX12_clashes_175 : decode cX12_clashes 175 = .ok (.getfield 47, 3) := by decide +kernel
theorem dX12_clashes_178 : decode cX12_clashes 178 = .ok (.iload_n 2, 1) := by decide +kernel
theorem dX12_clashes_179 : decode cX12_clashes 179 = .ok (.iaload, 1) := by decide +kernel
theorem dX12_clashes_180 : decode cX12_clashes 180 = .ok (.aload_n 0, 1) := by decide +kernel
theorem dX12_clashes_181 : decode cX12_clashes 181 = .ok (.getfield 86, 3) := by decide +kernel
theorem dX12_clashes_184 : decode cX12_clashes 184 = .ok (.iload_n 2, 1) := by decide +kernel
theorem dX12_clashes_185 : decode cX12_clashes 185 = .ok (.iaload, 1) := by decide +kernel
theorem dX12_clashes_186 : decode cX12_clashes 186 = .ok (.invokevirtual 172, 3) := by decide +kernel
theorem dX12_clashes_189 : decode cX12_clashes 189 = .ok (.iinc 2 1, 3) := by decide +kernel
theorem dX12_clashes_192 : decode cX12_clashes 192 = .ok (.goto (-119), 3) := by decide +kernel
theorem dX12_clashes_195 : decode cX12_clashes 195 = .ok (.iconst 0, 1) := by decide +kernel
theorem dX12_clashes_196 : decode cX12_clashes 196 = .ok (.istore_n 2, 1) := by decide +kernel
theorem dX12_clashes_197 : decode cX12_clashes 197 = .ok (.iload_n 2, 1) := by decide +kernel
theorem dX12_clashes_198 : decode cX12_clashes 198 = .ok (.aload_n 0, 1) := by decide +kernel
theorem dX12_clashes_199 : decode cX12_clashes 199 = .ok (.getfield 155, 3) := by decide +kernel
theorem dX12_clashes_202 : decode cX12_clashes 202 = .ok (.if_icmp .ge 86, 3) := by decide +kernel
theorem dX12_clashes_205 : decode cX12_clashes 205 = .ok (.iload_n 1, 1) := by decide +kernel
theorem dX12_clashes_206 : decode cX12_clashes 206 = .ok (.iload_n 2, 1) := by decide +kernel
theorem dX12_clashes_207 : decode cX12_clashes 207 = .ok (.ishr, 1) := by decide +kernel
theorem dX12_clashes_208 : decode cX12_clashes 208 = .ok (.iconst 1, 1) := by decide +kernel
theorem dX12_clashes_209 : decode cX12_clashes 209 = .ok (.iand, 1) := by decide +kernel
theorem dX12_clashes_210 : decode cX12_clashes 210 = .ok (.ifCond .ne 6, 3) := by decide +kernel
theorem dX12_clashes_213 : decode cX12_clashes 213 = .ok (.goto 69, 3) := by decide +kernel
theorem dX12_clashes_216 : decode cX12_clashes 216 = .ok (.aload_n 0, 1) := by decide +kernel
theorem dX12_clashes_217 : decode cX12_clashes 217 = .ok (.aload_n 0, 1) := by decide +kernel
theorem dX12_clashes_218 : decode cX12_clashes 218 = .ok (.getfield 59, 3) := by decide +kernel
theorem dX12_clashes_221 : decode cX12_clashes 221 = .ok (.iload_n 2, 1) := by decide +kernel
theorem dX12_clashes_222 : decode cX12_clashes 222 = .ok (.iaload, 1) := by decide +kernel
theorem dX12_clashes_223 : decode cX12_clashes 223 = .ok (.iconst 0, 1) := by decide +kernel
theorem dX12_clashes_224 : decode cX12_clashes 224 = .ok (.aload_n 0, 1) := by decide +kernel
theorem dX12_clashes_225 : decode cX12_clashes 225 = .ok (.getfield 83, 3) := by decide +kernel
theorem dX12_clashes_228 : decode cX12_clashes 228 = .ok (.aload_n 0, 1) := by decide +kernel
theorem dX12_clashes_229 : decode cX12_clashes 229 = .ok (.getfield 56, 3) := by decide +kernel
theorem dX12_clashes_232 : decode cX12_clashes 232 = .ok (.iload_n 2, 1) := by decide +kernel
theorem dX12_clashes_233 : decode cX12_clashes 233 = .ok (.iaload, 1) := by decide +kernel
theorem dX12_clashes_234 : decode cX12_clashes 234 = .ok (.iaload, 1) := by decide +kernel
theorem dX12_clashes_235 : decode cX12_clashes 235 = .ok (.aload_n 0, 1) := by decide +kernel
theorem dX12_clashes_236 : decode cX12_clashes 236 = .ok (.getfield 62, 3) := by decide +kernel
theorem dX12_clashes_239 : decode cX12_clashes 239 = .ok (.iload_n 2, 1) := by decide +kernel
theorem dX12_clashes_240 : decode cX12_clashes 240 = .ok (.iaload, 1) := by decide +kernel
theorem dX12_clashes_241 : decode cX12_clashes 241 = .ok (.iadd, 1) := by decide +kernel
theorem dX12_clashes_242 : decode cX12_clashes 242 = .ok (.invokestatic 175, 3) := by decide +kernel
theorem dX12_clashes_245 : decode cX12_clashes 245 = .ok (.invokevirtual 168, 3) := by decide +kernel
theorem dX12_clashes_248 : decode cX12_clashes 248 = .ok (.aload_n 0, 1) := by decide +kernel
theorem dX12_clashes_249 : decode cX12_clashes 249 = .ok (.aload_n 0, 1) := by decide +kernel
theorem dX12_clashes_250 : decode cX12_clashes 250 = .ok (.getfield 56, 3) := by decide +kernel
theorem dX12_clashes_253 : decode cX12_clashes 253 = .ok (.iload_n 2, 1) := by decide +kernel
theorem dX12_clashes_254 : decode cX12_clashes 254 = .ok (.iaload, 1) := by decide +kernel
theorem dX12_clashes_255 : decode cX12_clashes 255 = .ok (.sipush 9999, 3) := by decide +kernel
theorem dX12_clashes_258 : decode cX12_clashes 258 = .ok (.aload_n 0, 1) := by decide +kernel
theorem dX12_clashes_259 : decode cX12_clashes 259 = .ok (.getfield 86, 3) := by decide +kernel
theorem dX12_clashes_262 : decode cX12_clashes 262 = .ok (.aload_n 0, 1) := by decide +kernel
theorem dX12_clashes_263 : decode cX12_clashes 263 = .ok (.getfield 59, 3) := by decide +kernel
theorem dX12_clashes_266 : decode cX12_clashes 266 = .ok (.iload_n 2, 1) := by decide +kernel
theorem dX12_clashes_267 : decode cX12_clashes 267 = .ok (.iaload, 1) := by decide +kernel
theorem dX12_clashes_268 : decode cX12_clashes 268 = .ok (.iaload, 1) := by decide +kernel
theorem dX12_clashes_269 : decode cX12_clashes 269 = .ok (.aload_n 0, 1) := by decide +kernel
theorem dX12_clashes_270 : decode cX12_clashes 270 = .ok (.getfield 62, 3) := by decide +kernel
theorem dX12_clashes_273 : decode cX12_clashes 273 = .ok (.iload_n 2, 1) := by decide +kernel
theorem dX12_clashes_274 : decode cX12_clashes 274 = .ok (.iaload, 1) := by decide +kernel
theorem dX12_clashes_275 : decode cX12_clashes 275 = .ok (.isub, 1) := by decide +kernel
theorem dX12_clashes_276 : decode cX12_clashes 276 = .ok (.invokestatic 178, 3) := by decide +kernel
theorem dX12_clashes_279 : decode cX12_clashes 279 = .ok (.invokevirtual 172, 3) := by decide +kernel
theorem dX12_clashes_282 : decode cX12_clashes 282 = .ok (.iinc 2 1, 3) := by decide +kernel
theorem dX12_clashes_285 : decode cX12_clashes 285 = .ok (.goto (-88), 3) := by decide +kernel
theorem dX12_clashes_288 : decode cX12_clashes 288 = .ok (.goto (-229), 3) := by decide +kernel
theorem dX12_clashes_291 : decode cX12_clashes 291 = .ok (.iconst 0, 1) := by decide +kernel
theorem dX12_clashes_292 : decode cX12_clashes 292 = .ok (.ireturn, 1) := by decide +kernel
theorem dX12_clashAll_0 : decode cX12_clashAll 0 = .ok (.aload_n 0, 1) := by decide +kernel
theorem dX12_clashAll_1 : decode cX12_clashAll 1 = .ok (.iconst 1, 1) := by decide +kernel
theorem dX12_clashAll_2 : decode cX12_clashAll 2 = .ok (.aload_n 0, 1) := by decide +kernel
theorem dX12_clashAll_3 : decode cX12_clashAll 3 = .ok (.getfield 155, 3) := by decide +kernel
theorem dX12_clashAll_6 : decode cX12_clashAll 6 = .ok (.ishl, 1) := by decide +kernel
theorem dX12_clashAll_7 : decode cX12_clashAll 7 = .ok (.iconst 1, 1) := by decide +kernel
theorem dX12_clashAll_8 : decode cX12_clashAll 8 = .ok (.isub, 1) := by decide +kernel
theorem dX12_clashAll_9 : decode cX12_clashAll 9 = .ok (.invokevirtual 181, 3) := by decide +kernel
theorem dX12_clashAll_12 : decode cX12_clashAll 12 = .ok (.ireturn, 1) := by decide +kernel
theorem dX12_span_0 : decode cX12_span 0 = .ok (.aload_n 0, 1) := by decide +kernel
theorem dX12_span_1 : decode cX12_span 1 = .ok (.iload_n 1, 1) := by decide +kernel
theorem dX12_span_2 : decode cX12_span 2 = .ok (.invokevirtual 152, 3) := by decide +kernel
theorem dX12_span_5 : decode cX12_span 5 = .ok (.ifCond .eq 11, 3) := by decide +kernel
theorem dX12_span_8 : decode cX12_span 8 = .ok (.iload_n 2, 1) := by decide +kernel
theorem dX12_span_9 : decode cX12_span 9 = .ok (.iconst 2, 1) := by decide +kernel
theorem dX12_span_10 : decode cX12_span 10 = .ok (.invokestatic 135, 3) := by decide +kernel
theorem dX12_span_13 : decode cX12_span 13 = .ok (.ifCond .ne 6, 3) := by decide +kernel
theorem dX12_span_16 : decode cX12_span 16 = .ok (.bipush (-2), 2) := by decide +kernel
theorem dX12_span_18 : decode cX12_span 18 = .ok (.ireturn, 1) := by decide +kernel
theorem dX12_span_19 : decode cX12_span 19 = .ok (.aload_n 0, 1) := by decide +kernel
theorem dX12_span_20 : decode cX12_span 20 = .ok (.invokevirtual 184, 3) := by decide +kernel
theorem dX12_span_23 : decode cX12_span 23 = .ok (.ifCond .eq 5, 3) := by decide +kernel
theorem dX12_span_26 : decode cX12_span 26 = .ok (.iconst (-1), 1) := by decide +kernel
theorem dX12_span_27 : decode cX12_span 27 = .ok (.ireturn, 1) := by decide +kernel
theorem dX12_span_28 : decode cX12_span 28 = .ok (.iload_n 2, 1) := by decide +kernel
theorem dX12_span_29 : decode cX12_span 29 = .ok (.ifCond .ne 12, 3) := by decide +kernel
theorem dX12_span_32 : decode cX12_span 32 = .ok (.aload_n 0, 1) := by decide +kernel
theorem dX12_span_33 : decode cX12_span 33 = .ok (.getfield 83, 3) := by decide +kernel
theorem dX12_span_36 : decode cX12_span 36 = .ok (.iload_n 1, 1) := by decide +kernel
theorem dX12_span_37 : decode cX12_span 37 = .ok (.iaload, 1) := by decide +kernel
theorem dX12_span_38 : decode cX12_span 38 = .ok (.goto 9, 3) := by decide +kernel
theorem dX12_span_41 : decode cX12_span 41 = .ok (.aload_n 0, 1) := by decide +kernel
theorem dX12_span_42 : decode cX12_span 42 = .ok (.getfield 86, 3) := by decide +kernel
theorem dX12_span_45 : decode cX12_span 45 = .ok (.iload_n 1, 1) := by decide +kernel
theorem dX12_span_46 : decode cX12_span 46 = .ok (.iaload, 1) := by decide +kernel
theorem dX12_span_47 : decode cX12_span 47 = .ok (.ireturn, 1) := by decide +kernel
theorem dX12_clash_0 : decode cX12_clash 0 = .ok (.aload_n 0, 1) := by decide +kernel
theorem dX12_clash_1 : decode cX12_clash 1 = .ok (.invokevirtual 184, 3) := by decide +kernel
theorem dX12_clash_4 : decode cX12_clash 4 = .ok (.ifCond .ne 5, 3) := by decide +kernel
theorem dX12_clash_7 : decode cX12_clash 7 = .ok (.iconst (-1), 1) := by decide +kernel
theorem dX12_clash_8 : decode cX12_clash 8 = .ok (.ireturn, 1) := by decide +kernel
theorem dX12_clash_9 : decode cX12_clash 9 = .ok (.iconst 1, 1) := by decide +kernel
theorem dX12_clash_10 : decode cX12_clash 10 = .ok (.aload_n 0, 1) := by decide +kernel
theorem dX12_clash_11 : decode cX12_clash 11 = .ok (.getfield 155, 3) := by decide +kernel
theorem dX12_clash_14 : decode cX12_clash 14 = .ok (.ishl, 1) := by decide +kernel
theorem dX12_clash_15 : decode cX12_clash 15 = .ok (.iconst 1, 1) := by decide +kernel
theorem dX12_clash_16 : decode cX12_clash 16 = .ok (.isub, 1) := by decide +kernel
theorem dX12_clash_17 : decode cX12_clash 17 = .ok (.istore_n 1, 1) := by decide +kernel
theorem dX12_clash_18 : decode cX12_clash 18 = .ok (.aload_n 0, 1) := by decide +kernel
theorem dX12_clash_19 : decode cX12_clash 19 = .ok (.getfield 155, 3) := by decide +kernel
theorem dX12_clash_22 : decode cX12_clash 22 = .ok (.iconst 1, 1) := by decide +kernel
theorem dX12_clash_23 : decode cX12_clash 23 = .ok (.isub, 1) := by decide +kernel
theorem dX12_clash_24 : decode cX12_clash 24 = .ok (.istore_n 2, 1) := by decide +kernel
theorem dX12_clash_25 : decode cX12_clash 25 = .ok (.iload_n 2, 1) := by decide +kernel
theorem dX12_clash_26 : decode cX12_clash 26 = .ok (.ifCond .lt 31, 3) := by decide +kernel
theorem dX12_clash_29 : decode cX12_clash 29 = .ok (.aload_n 0, 1) := by decide +kernel
theorem dX12_clash_30 : decode cX12_clash 30 = .ok (.iload_n 1, 1) := by decide +kernel
theorem dX12_clash_31 : decode cX12_clash 31 = .ok (.iconst 1, 1) := by decide +kernel
theorem dX12_clash_32 : decode cX12_clash 32 = .ok (.iload_n 2, 1) := by decide +kernel
theorem dX12_clash_33 : decode cX12_clash 33 = .ok (.ishl, 1) := by decide +kernel
theorem dX12_clash_34 : decode cX12_clash 34 = .ok (.iconst (-1), 1) := by decide +kernel
theorem dX12_clash_35 : decode cX12_clash 35 = .ok (.ixor, 1) := by decide +kernel
theorem dX12_clash_36 : decode cX12_clash 36 = .ok (.iand, 1) := by decide +kernel
theorem dX12_clash_37 : decode cX12_clash 37 = .ok (.invokevirtual 181, 3) := by decide +kernel
theorem dX12_clash_40 : decode cX12_clash 40 = .ok (.ifCond .eq 11, 3) := by decide +kernel
theorem dX12_clash_43 : decode cX12_clash 43 = .ok (.iload_n 1, 1) := by decide +kernel
theorem dX12_clash_44 : decode cX12_clash 44 = .ok (.iconst 1, 1) := by decide +kernel
theorem dX12_clash_45 : decode cX12_clash 45 = .ok (.iload_n 2, 1) := by decide +kernel
theorem dX12_clash_46 : decode cX12_clash 46 = .ok (.ishl, 1) := by decide +kernel
theorem dX12_clash_47 : decode cX12_clash 47 = .ok (.iconst (-1), 1) := by decide +kernel
theorem dX12_clash_48 : decode cX12_clash 48 = .ok (.ixor, 1) := by decide +kernel
theorem dX12_clash_49 : decode cX12_clash 49 = .ok (.iand, 1) := by decide +kernel
theorem dX12_clash_50 : decode cX12_clash 50 = .ok (.istore_n 1, 1) := by decide +kernel
theorem dX12_clash_51 : decode cX12_clash 51 = .ok (.iinc 2 (-1), 3) := by decide +kernel
theorem dX12_clash_54 : decode cX12_clash 54 = .ok (.goto (-29), 3) := by decide +kernel
theorem dX12_clash_57 : decode cX12_clash 57 = .ok (.iload_n 1, 1) := by decide +kernel
theorem dX12_clash_58 : decode cX12_clash 58 = .ok (.ireturn, 1) := by decide +kernel
theorem dX12_leads_0 : decode cX12_leads 0 = .ok (.aload_n 0, 1) := by decide +kernel
theorem dX12_leads_1 : decode cX12_leads 1 = .ok (.getfield 89, 3) := by decide +kernel
theorem dX12_leads_4 : decode cX12_leads 4 = .ok (.bipush 12, 2) := by decide +kernel
theorem dX12_leads_6 : decode cX12_leads 6 = .ok (.iload_n 1, 1) := by decide +kernel
theorem dX12_leads_7 : decode cX12_leads 7 = .ok (.imul, 1) := by decide +kernel
theorem dX12_leads_8 : decode cX12_leads 8 = .ok (.iload_n 2, 1) := by decide +kernel
theorem dX12_leads_9 : decode cX12_leads 9 = .ok (.iadd, 1) := by decide +kernel
theorem dX12_leads_10 : decode cX12_leads 10 = .ok (.aload_n 0, 1) := by decide +kernel
theorem dX12_leads_11 : decode cX12_leads 11 = .ok (.getfield 89, 3) := by decide +kernel
theorem dX12_leads_14 : decode cX12_leads 14 = .ok (.bipush 12, 2) := by decide +kernel
theorem dX12_leads_16 : decode cX12_leads 16 = .ok (.iload_n 1, 1) := by decide +kernel
theorem dX12_leads_17 : decode cX12_leads 17 = .ok (.imul, 1) := by decide +kernel
theorem dX12_leads_18 : decode cX12_leads 18 = .ok (.iload_n 2, 1) := by decide +kernel
theorem dX12_leads_19 : decode cX12_leads 19 = .ok (.iadd, 1) := by decide +kernel
theorem dX12_leads_20 : decode cX12_leads 20 = .ok (.iaload, 1) := by decide +kernel
theorem dX12_leads_21 : decode cX12_leads 21 = .ok (.iload_n 3, 1) := by decide +kernel
theorem dX12_leads_22 : decode cX12_leads 22 = .ok (.invokestatic 175, 3) := by decide +kernel
theorem dX12_leads_25 : decode cX12_leads 25 = .ok (.iastore, 1) := by decide +kernel
theorem dX12_leads_26 : decode cX12_leads 26 = .ok (.return_, 1) := by decide +kernel
theorem dX12_findWays_0 : decode cX12_findWays 0 = .ok (.iconst 0, 1) := by decide +kernel
theorem dX12_findWays_1 : decode cX12_findWays 1 = .ok (.istore_n 1, 1) := by decide +kernel
theorem dX12_findWays_2 : decode cX12_findWays 2 = .ok (.iload_n 1, 1) := by decide +kernel
theorem dX12_findWays_3 : decode cX12_findWays 3 = .ok (.sipush 144, 3) := by decide +kernel
theorem dX12_findWays_6 : decode cX12_findWays 6 = .ok (.if_icmp .ge 17, 3) := by decide +kernel
theorem dX12_findWays_9 : decode cX12_findWays 9 = .ok (.aload_n 0, 1) := by decide +kernel
theorem dX12_findWays_10 : decode cX12_findWays 10 = .ok (.getfield 89, 3) := by decide +kernel
theorem dX12_findWays_13 : decode cX12_findWays 13 = .ok (.iload_n 1, 1) := by decide +kernel
theorem dX12_findWays_14 : decode cX12_findWays 14 = .ok (.ldc 188, 2) := by decide +kernel
theorem dX12_findWays_16 : decode cX12_findWays 16 = .ok (.iastore, 1) := by decide +kernel
theorem dX12_findWays_17 : decode cX12_findWays 17 = .ok (.iinc 1 1, 3) := by decide +kernel
theorem dX12_findWays_20 : decode cX12_findWays 20 = .ok (.goto (-18), 3) := by decide +kernel
theorem dX12_findWays_23 : decode cX12_findWays 23 = .ok (.iconst 0, 1) := by decide +kernel
theorem dX12_findWays_24 : decode cX12_findWays 24 = .ok (.istore_n 1, 1) := by decide +kernel
theorem dX12_findWays_25 : decode cX12_findWays 25 = .ok (.iload_n 1, 1) := by decide +kernel
theorem dX12_findWays_26 : decode cX12_findWays 26 = .ok (.aload_n 0, 1) := by decide +kernel
theorem dX12_findWays_27 : decode cX12_findWays 27 = .ok (.getfield 142, 3) := by decide +kernel
theorem dX12_findWays_30 : decode cX12_findWays 30 = .ok (.if_icmp .ge 45, 3) := by decide +kernel
theorem dX12_findWays_33 : decode cX12_findWays 33 = .ok (.aload_n 0, 1) := by decide +kernel
theorem dX12_findWays_34 : decode cX12_findWays 34 = .ok (.getfield 47, 3) := by decide +kernel
theorem dX12_findWays_37 : decode cX12_findWays 37 = .ok (.iload_n 1, 1) := by decide +kernel
theorem dX12_findWays_38 : decode cX12_findWays 38 = .ok (.iaload, 1) := by decide +kernel
theorem dX12_findWays_39 : decode cX12_findWays 39 = .ok (.ifCond .ge 6, 3) := by decide +kernel
theorem dX12_findWays_42 : decode cX12_findWays 42 = .ok (.goto 27, 3) := by decide +kernel
theorem dX12_findWays_45 : decode cX12_findWays 45 = .ok (.aload_n 0, 1) := by decide +kernel
theorem dX12_findWays_46 : decode cX12_findWays 46 = .ok (.iload_n 1, 1) := by decide +kernel
theorem dX12_findWays_47 : decode cX12_findWays 47 = .ok (.aload_n 0, 1) := by decide +kernel
theorem dX12_findWays_48 : decode cX12_findWays 48 = .ok (.getfield 47, 3) := by decide +kernel
theorem dX12_findWays_51 : decode cX12_findWays 51 = .ok (.iload_n 1, 1) := by decide +kernel
theorem dX12_findWays_52 : decode cX12_findWays 52 = .ok (.iaload, 1) := by decide +kernel
theorem dX12_findWays_53 : decode cX12_findWays 53 = .ok (.iconst 0, 1) := by decide +kernel
theorem dX12_findWays_54 : decode cX12_findWays 54 = .ok (.invokevirtual 189, 3) := by decide +kernel
theorem dX12_findWays_57 : decode cX12_findWays 57 = .ok (.aload_n 0, 1) := by decide +kernel
theorem dX12_findWays_58 : decode cX12_findWays 58 = .ok (.aload_n 0, 1) := by decide +kernel
theorem dX12_findWays_59 : decode cX12_findWays 59 = .ok (.getfield 47, 3) := by decide +kernel
theorem dX12_findWays_62 : decode cX12_findWays 62 = .ok (.iload_n 1, 1) := by decide +kernel
theorem dX12_findWays_63 : decode cX12_findWays 63 = .ok (.iaload, 1) := by decide +kernel
theorem dX12_findWays_64 : decode cX12_findWays 64 = .ok (.iload_n 1, 1) := by decide +kernel
theorem dX12_findWays_65 : decode cX12_findWays 65 = .ok (.iconst 0, 1) := by decide +kernel
theorem dX12_findWays_66 : decode cX12_findWays 66 = .ok (.invokevirtual 189, 3) := by decide +kernel
theorem dX12_findWays_69 : decode cX12_findWays 69 = .ok (.iinc 1 1, 3) := by decide +kernel
theorem dX12_findWays_72 : decode cX12_findWays 72 = .ok (.goto (-47), 3) := by decide +kernel
theorem dX12_findWays_75 : decode cX12_findWays 75 = .ok (.iconst 0, 1) := by decide +kernel
theorem dX12_findWays_76 : decode cX12_findWays 76 = .ok (.istore_n 1, 1) := by decide +kernel
theorem dX12_findWays_77 : decode cX12_findWays 77 = .ok (.iload_n 1, 1) := by decide +kernel
theorem dX12_findWays_78 : decode cX12_findWays 78 = .ok (.aload_n 0, 1) := by decide +kernel
theorem dX12_findWays_79 : decode cX12_findWays 79 = .ok (.getfield 155, 3) := by decide +kernel
theorem dX12_findWays_82 : decode cX12_findWays 82 = .ok (.if_icmp .ge 31, 3) := by decide +kernel
theorem dX12_findWays_85 : decode cX12_findWays 85 = .ok (.aload_n 0, 1) := by decide +kernel
theorem dX12_findWays_86 : decode cX12_findWays 86 = .ok (.aload_n 0, 1) := by decide +kernel
theorem dX12_findWays_87 : decode cX12_findWays 87 = .ok (.getfield 56, 3) := by decide +kernel
theorem dX12_findWays_90 : decode cX12_findWays 90 = .ok (.iload_n 1, 1) := by decide +kernel
theorem dX12_findWays_91 : decode cX12_findWays 91 = .ok (.iaload, 1) := by decide +kernel
theorem dX12_findWays_92 : decode cX12_findWays 92 = .ok (.aload_n 0, 1) := by decide +kernel
theorem dX12_findWays_93 : decode cX12_findWays 93 = .ok (.getfield 59, 3) := by decide +kernel
theorem dX12_findWays_96 : decode cX12_findWays 96 = .ok (.iload_n 1, 1) := by decide +kernel
theorem dX12_findWays_97 : decode cX12_findWays 97 = .ok (.iaload, 1) := by decide +kernel
theorem dX12_findWays_98 : decode cX12_findWays 98 = .ok (.aload_n 0, 1) := by decide +kernel
theorem dX12_findWays_99 : decode cX12_findWays 99 = .ok (.getfield 62, 3) := by decide +kernel
theorem dX12_findWays_102 : decode cX12_findWays 102 = .ok (.iload_n 1, 1) := by decide +kernel
theorem dX12_findWays_103 : decode cX12_findWays 103 = .ok (.iaload, 1) := by decide +kernel
theorem dX12_findWays_104 : decode cX12_findWays 104 = .ok (.invokevirtual 189, 3) := by decide +kernel
theorem dX12_findWays_107 : decode cX12_findWays 107 = .ok (.iinc 1 1, 3) := by decide +kernel
theorem dX12_findWays_110 : decode cX12_findWays 110 = .ok (.goto (-33), 3) := by decide +kernel
theorem dX12_findWays_113 : decode cX12_findWays 113 = .ok (.iconst 0, 1) := by decide +kernel
theorem dX12_findWays_114 : decode cX12_findWays 114 = .ok (.istore_n 1, 1) := by decide +kernel
theorem dX12_findWays_115 : decode cX12_findWays 115 = .ok (.iload_n 1, 1) := by decide +kernel
theorem dX12_findWays_116 : decode cX12_findWays 116 = .ok (.aload_n 0, 1) := by decide +kernel
theorem dX12_findWays_117 : decode cX12_findWays 117 = .ok (.getfield 142, 3) := by decide +kernel
theorem dX12_findWays_120 : decode cX12_findWays 120 = .ok (.if_icmp .ge 102, 3) := by decide +kernel
theorem dX12_findWays_123 : decode cX12_findWays 123 = .ok (.iconst 0, 1) := by decide +kernel
theorem dX12_findWays_124 : decode cX12_findWays 124 = .ok (.istore_n 2, 1) := by decide +kernel
theorem dX12_findWays_125 : decode cX12_findWays 125 = .ok (.iload_n 2, 1) := by decide +kernel
theorem dX12_findWays_126 : decode cX12_findWays 126 = .ok (.aload_n 0, 1) := by decide +kernel
theorem dX12_findWays_127 : decode cX12_findWays 127 = .ok (.getfield 142, 3) := by decide +kernel
theorem dX12_findWays_130 : decode cX12_findWays 130 = .ok (.if_icmp .ge 86, 3) := by decide +kernel
theorem dX12_findWays_133 : decode cX12_findWays 133 = .ok (.iconst 0, 1) := by decide +kernel
theorem dX12_findWays_134 : decode cX12_findWays 134 = .ok (.istore_n 3, 1) := by decide +kernel
theorem dX12_findWays_135 : decode cX12_findWays 135 = .ok (.iload_n 3, 1) := by decide +kernel
theorem dX12_findWays_136 : decode cX12_findWays 136 = .ok (.aload_n 0, 1) := by decide +kernel
theorem dX12_findWays_137 : decode cX12_findWays 137 = .ok (.getfield 142, 3) := by decide +kernel
theorem dX12_findWays_140 : decode cX12_findWays 140 = .ok (.if_icmp .ge 70, 3) := by decide +kernel
theorem dX12_findWays_143 : decode cX12_findWays 143 = .ok (.aload_n 0, 1) := by decide +kernel
theorem dX12_findWays_144 : decode cX12_findWays 144 = .ok (.getfield 89, 3) := by decide +kernel
theorem dX12_findWays_147 : decode cX12_findWays 147 = .ok (.bipush 12, 2) := by decide +kernel
theorem dX12_findWays_149 : decode cX12_findWays 149 = .ok (.iload_n 2, 1) := by decide +kernel
theorem dX12_findWays_150 : decode cX12_findWays 150 = .ok (.imul, 1) := by decide +kernel
theorem dX12_findWays_151 : decode cX12_findWays 151 = .ok (.iload_n 1, 1) := by decide +kernel
theorem dX12_findWays_152 : decode cX12_findWays 152 = .ok (.iadd, 1) := by decide +kernel
theorem dX12_findWays_153 : decode cX12_findWays 153 = .ok (.iaload, 1) := by decide +kernel
theorem dX12_findWays_154 : decode cX12_findWays 154 = .ok (.ldc 188, 2) := by decide +kernel
theorem dX12_findWays_156 : decode cX12_findWays 156 = .ok (.if_icmp .le 48, 3) := by decide +kernel
theorem dX12_findWays_159 : decode cX12_findWays 159 = .ok (.aload_n 0, 1) := by decide +kernel
theorem dX12_findWays_160 : decode cX12_findWays 160 = .ok (.getfield 89, 3) := by decide +kernel
theorem dX12_findWays_163 : decode cX12_findWays 163 = .ok (.bipush 12, 2) := by decide +kernel
theorem dX12_findWays_165 : decode cX12_findWays 165 = .ok (.iload_n 1, 1) := by decide +kernel
theorem dX12_findWays_166 : decode cX12_findWays 166 = .ok (.imul, 1) := by decide +kernel
theorem dX12_findWays_167 : decode cX12_findWays 167 = .ok (.iload_n 3, 1) := by decide +kernel
theorem dX12_findWays_168 : decode cX12_findWays 168 = .ok (.iadd, 1) := by decide +kernel
theorem dX12_findWays_169 : decode cX12_findWays 169 = .ok (.iaload, 1) := by decide +kernel
theorem dX12_findWays_170 : decode cX12_findWays 170 = .ok (.ldc 188, 2) := by decide +kernel
theorem dX12_findWays_172 : decode cX12_findWays 172 = .ok (.if_icmp .le 32, 3) := by decide +kernel
theorem dX12_findWays_175 : decode cX12_findWays 175 = .ok (.aload_n 0, 1) := by decide +kernel
theorem dX12_findWays_176 : decode cX12_findWays 176 = .ok (.iload_n 2, 1) := by decide +kernel
theorem dX12_findWays_177 : decode cX12_findWays 177 = .ok (.iload_n 3, 1) := by decide +kernel
theorem dX12_findWays_178 : decode cX12_findWays 178 = .ok (.aload_n 0, 1) := by decide +kernel
theorem dX12_findWays_179 : decode cX12_findWays 179 = .ok (.getfield 89, 3) := by decide +kernel
theorem dX12_findWays_182 : decode cX12_findWays 182 = .ok (.bipush 12, 2) := by decide +kernel
theorem dX12_findWays_184 : decode cX12_findWays 184 = .ok (.iload_n 2, 1) := by decide +kernel
theorem dX12_findWays_185 : decode cX12_findWays 185 = .ok (.imul, 1) := by decide +kernel
theorem dX12_findWays_186 : decode cX12_findWays 186 = .ok (.iload_n 1, 1) := by decide +kernel
theorem dX12_findWays_187 : decode cX12_findWays 187 = .ok (.iadd, 1) := by decide +kernel
theorem dX12_findWays_188 : decode cX12_findWays 188 = .ok (.iaload, 1) := by decide +kernel
theorem dX12_findWays_189 : decode cX12_findWays 189 = .ok (.aload_n 0, 1) := by decide +kernel
theorem dX12_findWays_190 : decode cX12_findWays 190 = .ok (.getfield 89, 3) := by decide +kernel
theorem dX12_findWays_193 : decode cX12_findWays 193 = .ok (.bipush 12, 2) := by decide +kernel
theorem dX12_findWays_195 : decode cX12_findWays 195 = .ok (.iload_n 1, 1) := by decide +kernel
theorem dX12_findWays_196 : decode cX12_findWays 196 = .ok (.imul, 1) := by decide +kernel
theorem dX12_findWays_197 : decode cX12_findWays 197 = .ok (.iload_n 3, 1) := by decide +kernel
theorem dX12_findWays_198 : decode cX12_findWays 198 = .ok (.iadd, 1) := by decide +kernel
theorem dX12_findWays_199 : decode cX12_findWays 199 = .ok (.iaload, 1) := by decide +kernel
theorem dX12_findWays_200 : decode cX12_findWays 200 = .ok (.iadd, 1) := by decide +kernel
theorem dX12_findWays_201 : decode cX12_findWays 201 = .ok (.invokevirtual 189, 3) := by decide +kernel
theorem dX12_findWays_204 : decode cX12_findWays 204 = .ok (.iinc 3 1, 3) := by decide +kernel
theorem dX12_findWays_207 : decode cX12_findWays 207 = .ok (.goto (-72), 3) := by decide +kernel
theorem dX12_findWays_210 : decode cX12_findWays 210 = .ok (.iinc 2 1, 3) := by decide +kernel
theorem dX12_findWays_213 : decode cX12_findWays 213 = .ok (.goto (-88), 3) := by decide +kernel
theorem dX12_findWays_216 : decode cX12_findWays 216 = .ok (.iinc 1 1, 3) := by decide +kernel
theorem dX12_findWays_219 : decode cX12_findWays 219 = .ok (.goto (-104), 3) := by decide +kernel
theorem dX12_findWays_222 : decode cX12_findWays 222 = .ok (.return_, 1) := by decide +kernel
theorem dX12_isBefore_0 : decode cX12_isBefore 0 = .ok (.aload_n 0, 1) := by decide +kernel
theorem dX12_isBefore_1 : decode cX12_isBefore 1 = .ok (.getfield 86, 3) := by decide +kernel
theorem dX12_isBefore_4 : decode cX12_isBefore 4 = .ok (.iload_n 1, 1) := by decide +kernel
theorem dX12_isBefore_5 : decode cX12_isBefore 5 = .ok (.iaload, 1) := by decide +kernel
theorem dX12_isBefore_6 : decode cX12_isBefore 6 = .ok (.aload_n 0, 1) := by decide +kernel
theorem dX12_isBefore_7 : decode cX12_isBefore 7 = .ok (.getfield 83, 3) := by decide +kernel
theorem dX12_isBefore_10 : decode cX12_isBefore 10 = .ok (.iload_n 2, 1) := by decide +kernel
theorem dX12_isBefore_11 : decode cX12_isBefore 11 = .ok (.iaload, 1) := by decide +kernel
theorem dX12_isBefore_12 : decode cX12_isBefore 12 = .ok (.if_icmp .lt 17, 3) := by decide +kernel
theorem dX12_isBefore_15 : decode cX12_isBefore 15 = .ok (.aload_n 0, 1) := by decide +kernel
theorem dX12_isBefore_16 : decode cX12_isBefore 16 = .ok (.getfield 89, 3) := by decide +kernel
theorem dX12_isBefore_19 : decode cX12_isBefore 19 = .ok (.bipush 12, 2) := by decide +kernel
theorem dX12_isBefore_21 : decode cX12_isBefore 21 = .ok (.iload_n 1, 1) := by decide +kernel
theorem dX12_isBefore_22 : decode cX12_isBefore 22 = .ok (.imul, 1) := by decide +kernel
theorem dX12_isBefore_23 : decode cX12_isBefore 23 = .ok (.iload_n 2, 1) := by decide +kernel
theorem dX12_isBefore_24 : decode cX12_isBefore 24 = .ok (.iadd, 1) := by decide +kernel
theorem dX12_isBefore_25 : decode cX12_isBefore 25 = .ok (.iaload, 1) := by decide +kernel
theorem dX12_isBefore_26 : decode cX12_isBefore 26 = .ok (.ifCond .le 7, 3) := by decide +kernel
theorem dX12_isBefore_29 : decode cX12_isBefore 29 = .ok (.iconst 1, 1) := by decide +kernel
theorem dX12_isBefore_30 : decode cX12_isBefore 30 = .ok (.goto 4, 3) := by decide +kernel
theorem dX12_isBefore_33 : decode cX12_isBefore 33 = .ok (.iconst 0, 1) := by decide +kernel
theorem dX12_isBefore_34 : decode cX12_isBefore 34 = .ok (.ireturn, 1) := by decide +kernel
theorem dX12_before_0 : decode cX12_before 0 = .ok (.aload_n 0, 1) := by decide +kernel
theorem dX12_before_1 : decode cX12_before 1 = .ok (.iload_n 1, 1) := by decide +kernel
theorem dX12_before_2 : decode cX12_before 2 = .ok (.invokevirtual 152, 3) := by decide +kernel
theorem dX12_before_5 : decode cX12_before 5 = .ok (.ifCond .eq 16, 3) := by decide +kernel
theorem dX12_before_8 : decode cX12_before 8 = .ok (.aload_n 0, 1) := by decide +kernel
theorem dX12_before_9 : decode cX12_before 9 = .ok (.iload_n 2, 1) := by decide +kernel
theorem dX12_before_10 : decode cX12_before 10 = .ok (.invokevirtual 152, 3) := by decide +kernel
theorem dX12_before_13 : decode cX12_before 13 = .ok (.ifCond .eq 8, 3) := by decide +kernel
theorem dX12_before_16 : decode cX12_before 16 = .ok (.iload_n 1, 1) := by decide +kernel
theorem dX12_before_17 : decode cX12_before 17 = .ok (.iload_n 2, 1) := by decide +kernel
theorem dX12_before_18 : decode cX12_before 18 = .ok (.if_icmp .ne 6, 3) := by decide +kernel
theorem dX12_before_21 : decode cX12_before 21 = .ok (.bipush (-2), 2) := by decide +kernel
theorem dX12_before_23 : decode cX12_before 23 = .ok (.ireturn, 1) := by decide +kernel
theorem dX12_before_24 : decode cX12_before 24 = .ok (.aload_n 0, 1) := by decide +kernel
theorem dX12_before_25 : decode cX12_before 25 = .ok (.invokevirtual 184, 3) := by decide +kernel
theorem dX12_before_28 : decode cX12_before 28 = .ok (.ifCond .eq 5, 3) := by decide +kernel
theorem dX12_before_31 : decode cX12_before 31 = .ok (.iconst 0, 1) := by decide +kernel
theorem dX12_before_32 : decode cX12_before 32 = .ok (.ireturn, 1) := by decide +kernel
theorem dX12_before_33 : decode cX12_before 33 = .ok (.aload_n 0, 1) := by decide +kernel
theorem dX12_before_34 : decode cX12_before 34 = .ok (.invokevirtual 193, 3) := by decide +kernel
theorem dX12_before_37 : decode cX12_before 37 = .ok (.aload_n 0, 1) := by decide +kernel
theorem dX12_before_38 : decode cX12_before 38 = .ok (.iload_n 1, 1) := by decide +kernel
theorem dX12_before_39 : decode cX12_before 39 = .ok (.iload_n 2, 1) := by decide +kernel
theorem dX12_before_40 : decode cX12_before 40 = .ok (.invokevirtual 196, 3) := by decide +kernel
theorem dX12_before_43 : decode cX12_before 43 = .ok (.ifCond .eq 7, 3) := by decide +kernel
theorem dX12_before_46 : decode cX12_before 46 = .ok (.iconst 1, 1) := by decide +kernel
theorem dX12_before_47 : decode cX12_before 47 = .ok (.goto 4, 3) := by decide +kernel
theorem dX12_before_50 : decode cX12_before 50 = .ok (.iconst 0, 1) := by decide +kernel
theorem dX12_before_51 : decode cX12_before 51 = .ok (.ireturn, 1) := by decide +kernel
theorem dX12_post_0 : decode cX12_post 0 = .ok (.iload_n 1, 1) := by decide +kernel
theorem dX12_post_1 : decode cX12_post 1 = .ok (.bipush 6, 2) := by decide +kernel
theorem dX12_post_3 : decode cX12_post 3 = .ok (.invokestatic 135, 3) := by decide +kernel
theorem dX12_post_6 : decode cX12_post 6 = .ok (.ifCond .eq 39, 3) := by decide +kernel
theorem dX12_post_9 : decode cX12_post 9 = .ok (.iload_n 2, 1) := by decide +kernel
theorem dX12_post_10 : decode cX12_post 10 = .ok (.bipush 6, 2) := by decide +kernel
theorem dX12_post_12 : decode cX12_post 12 = .ok (.invokestatic 135, 3) := by decide +kernel
theorem dX12_post_15 : decode cX12_post 15 = .ok (.ifCond .eq 30, 3) := by decide +kernel
theorem dX12_post_18 : decode cX12_post 18 = .ok (.iload_n 3, 1) := by decide +kernel
theorem dX12_post_19 : decode cX12_post 19 = .ok (.sipush 401, 3) := by decide +kernel
theorem dX12_post_22 : decode cX12_post 22 = .ok (.invokestatic 135, 3) := by decide +kernel
theorem dX12_post_25 : decode cX12_post 25 = .ok (.ifCond .eq 20, 3) := by decide +kernel
theorem dX12_post_28 : decode cX12_post 28 = .ok (.iload 4, 2) := by decide +kernel
theorem dX12_post_30 : decode cX12_post 30 = .ok (.sipush 401, 3) := by decide +kernel
theorem dX12_post_33 : decode cX12_post 33 = .ok (.invokestatic 135, 3) := by decide +kernel
theorem dX12_post_36 : decode cX12_post 36 = .ok (.ifCond .eq 9, 3) := by decide +kernel
theorem dX12_post_39 : decode cX12_post 39 = .ok (.iload_n 3, 1) := by decide +kernel
theorem dX12_post_40 : decode cX12_post 40 = .ok (.iload 4, 2) := by decide +kernel
theorem dX12_post_42 : decode cX12_post 42 = .ok (.if_icmp .le 6, 3) := by decide +kernel
theorem dX12_post_45 : decode cX12_post 45 = .ok (.bipush (-2), 2) := by decide +kernel
theorem dX12_post_47 : decode cX12_post 47 = .ok (.ireturn, 1) := by decide +kernel
theorem dX12_post_48 : decode cX12_post 48 = .ok (.aload_n 0, 1) := by decide +kernel
theorem dX12_post_49 : decode cX12_post 49 = .ok (.getfield 65, 3) := by decide +kernel
theorem dX12_post_52 : decode cX12_post 52 = .ok (.bipush 6, 2) := by decide +kernel
theorem dX12_post_54 : decode cX12_post 54 = .ok (.iload_n 1, 1) := by decide +kernel
theorem dX12_post_55 : decode cX12_post 55 = .ok (.imul, 1) := by decide +kernel
theorem dX12_post_56 : decode cX12_post 56 = .ok (.iload_n 2, 1) := by decide +kernel
theorem dX12_post_57 : decode cX12_post 57 = .ok (.iadd, 1) := by decide +kernel
theorem dX12_post_58 : decode cX12_post 58 = .ok (.iload_n 3, 1) := by decide +kernel
theorem dX12_post_59 : decode cX12_post 59 = .ok (.iastore, 1) := by decide +kernel
theorem dX12_post_60 : decode cX12_post 60 = .ok (.aload_n 0, 1) := by decide +kernel
theorem dX12_post_61 : decode cX12_post 61 = .ok (.getfield 68, 3) := by decide +kernel
theorem dX12_post_64 : decode cX12_post 64 = .ok (.bipush 6, 2) := by decide +kernel
theorem dX12_post_66 : decode cX12_post 66 = .ok (.iload_n 1, 1) := by decide +kernel
theorem dX12_post_67 : decode cX12_post 67 = .ok (.imul, 1) := by decide +kernel
theorem dX12_post_68 : decode cX12_post 68 = .ok (.iload_n 2, 1) := by decide +kernel
theorem dX12_post_69 : decode cX12_post 69 = .ok (.iadd, 1) := by decide +kernel
theorem dX12_post_70 : decode cX12_post 70 = .ok (.iload 4, 2) := by decide +kernel
theorem dX12_post_72 : decode cX12_post 72 = .ok (.iastore, 1) := by decide +kernel
theorem dX12_post_73 : decode cX12_post 73 = .ok (.iconst 1, 1) := by decide +kernel
theorem dX12_post_74 : decode cX12_post 74 = .ok (.ireturn, 1) := by decide +kernel
theorem dX12_hasRead_0 : decode cX12_hasRead 0 = .ok (.aload_n 0, 1) := by decide +kernel
theorem dX12_hasRead_1 : decode cX12_hasRead 1 = .ok (.getfield 26, 3) := by decide +kernel
theorem dX12_hasRead_4 : decode cX12_hasRead 4 = .ok (.iload_n 1, 1) := by decide +kernel
theorem dX12_hasRead_5 : decode cX12_hasRead 5 = .ok (.iaload, 1) := by decide +kernel
theorem dX12_hasRead_6 : decode cX12_hasRead 6 = .ok (.iconst 1, 1) := by decide +kernel
theorem dX12_hasRead_7 : decode cX12_hasRead 7 = .ok (.if_icmp .eq 36, 3) := by decide +kernel
theorem dX12_hasRead_10 : decode cX12_hasRead 10 = .ok (.aload_n 0, 1) := by decide +kernel
theorem dX12_hasRead_11 : decode cX12_hasRead 11 = .ok (.getfield 26, 3) := by decide +kernel
theorem dX12_hasRead_14 : decode cX12_hasRead 14 = .ok (.iload_n 1, 1) := by decide +kernel
theorem dX12_hasRead_15 : decode cX12_hasRead 15 = .ok (.iaload, 1) := by decide +kernel
theorem dX12_hasRead_16 : decode cX12_hasRead 16 = .ok (.iconst 5, 1) := by decide +kernel
theorem dX12_hasRead_17 : decode cX12_hasRead 17 = .ok (.if_icmp .ne 16, 3) := by decide +kernel
theorem dX12_hasRead_20 : decode cX12_hasRead 20 = .ok (.iload_n 2, 1) := by decide +kernel
theorem dX12_hasRead_21 : decode cX12_hasRead 21 = .ok (.aload_n 0, 1) := by decide +kernel
theorem dX12_hasRead_22 : decode cX12_hasRead 22 = .ok (.getfield 29, 3) := by decide +kernel
theorem dX12_hasRead_25 : decode cX12_hasRead 25 = .ok (.iload_n 1, 1) := by decide +kernel
theorem dX12_hasRead_26 : decode cX12_hasRead 26 = .ok (.iaload, 1) := by decide +kernel
theorem dX12_hasRead_27 : decode cX12_hasRead 27 = .ok (.if_icmp .ne 18, 3) := by decide +kernel
theorem dX12_hasRead_30 : decode cX12_hasRead 30 = .ok (.goto 13, 3) := by decide +kernel
theorem dX12_hasRead_33 : decode cX12_hasRead 33 = .ok (.iload_n 2, 1) := by decide +kernel
theorem dX12_hasRead_34 : decode cX12_hasRead 34 = .ok (.aload_n 0, 1) := by decide +kernel
theorem dX12_hasRead_35 : decode cX12_hasRead 35 = .ok (.getfield 32, 3) := by decide +kernel
theorem dX12_hasRead_38 : decode cX12_hasRead 38 = .ok (.iload_n 1, 1) := by decide +kernel
theorem dX12_hasRead_39 : decode cX12_hasRead 39 = .ok (.iaload, 1) := by decide +kernel
theorem dX12_hasRead_40 : decode cX12_hasRead 40 = .ok (.if_icmp .eq 5, 3) := by decide +kernel
theorem dX12_hasRead_43 : decode cX12_hasRead 43 = .ok (.iconst 0, 1) := by decide +kernel
theorem dX12_hasRead_44 : decode cX12_hasRead 44 = .ok (.ireturn, 1) := by decide +kernel
theorem dX12_hasRead_45 : decode cX12_hasRead 45 = .ok (.bipush 6, 2) := by decide +kernel
theorem dX12_hasRead_47 : decode cX12_hasRead 47 = .ok (.aload_n 0, 1) := by decide +kernel
theorem dX12_hasRead_48 : decode cX12_hasRead 48 = .ok (.getfield 35, 3) := by decide +kernel
theorem dX12_hasRead_51 : decode cX12_hasRead 51 = .ok (.iload_n 1, 1) := by decide +kernel
theorem dX12_hasRead_52 : decode cX12_hasRead 52 = .ok (.iaload, 1) := by decide +kernel
theorem dX12_hasRead_53 : decode cX12_hasRead 53 = .ok (.imul, 1) := by decide +kernel
theorem dX12_hasRead_54 : decode cX12_hasRead 54 = .ok (.aload_n 0, 1) := by decide +kernel
theorem dX12_hasRead_55 : decode cX12_hasRead 55 = .ok (.getfield 13, 3) := by decide +kernel
theorem dX12_hasRead_58 : decode cX12_hasRead 58 = .ok (.iload_n 2, 1) := by decide +kernel
theorem dX12_hasRead_59 : decode cX12_hasRead 59 = .ok (.iaload, 1) := by decide +kernel
theorem dX12_hasRead_60 : decode cX12_hasRead 60 = .ok (.iadd, 1) := by decide +kernel
theorem dX12_hasRead_61 : decode cX12_hasRead 61 = .ok (.istore 5, 2) := by decide +kernel
theorem dX12_hasRead_63 : decode cX12_hasRead 63 = .ok (.iload 4, 2) := by decide +kernel
theorem dX12_hasRead_65 : decode cX12_hasRead 65 = .ok (.ifCond .ne 20, 3) := by decide +kernel
theorem dX12_hasRead_68 : decode cX12_hasRead 68 = .ok (.aload_n 0, 1) := by decide +kernel
theorem dX12_hasRead_69 : decode cX12_hasRead 69 = .ok (.getfield 83, 3) := by decide +kernel
theorem dX12_hasRead_72 : decode cX12_hasRead 72 = .ok (.iload_n 1, 1) := by decide +kernel
theorem dX12_hasRead_73 : decode cX12_hasRead 73 = .ok (.iaload, 1) := by decide +kernel
theorem dX12_hasRead_74 : decode cX12_hasRead 74 = .ok (.aload_n 0, 1) := by decide +kernel
theorem dX12_hasRead_75 : decode cX12_hasRead 75 = .ok (.getfield 65, 3) := by decide +kernel
theorem dX12_hasRead_78 : decode cX12_hasRead 78 = .ok (.iload 5, 2) := by decide +kernel
theorem dX12_hasRead_80 : decode cX12_hasRead 80 = .ok (.iaload, 1) := by decide +kernel
theorem dX12_hasRead_81 : decode cX12_hasRead 81 = .ok (.iadd, 1) := by decide +kernel
theorem dX12_hasRead_82 : decode cX12_hasRead 82 = .ok (.goto 17, 3) := by decide +kernel
theorem dX12_hasRead_85 : decode cX12_hasRead 85 = .ok (.aload_n 0, 1) := by decide +kernel
theorem dX12_hasRead_86 : decode cX12_hasRead 86 = .ok (.getfield 86, 3) := by decide +kernel
theorem dX12_hasRead_89 : decode cX12_hasRead 89 = .ok (.iload_n 1, 1) := by decide +kernel
theorem dX12_hasRead_90 : decode cX12_hasRead 90 = .ok (.iaload, 1) := by decide +kernel
theorem dX12_hasRead_91 : decode cX12_hasRead 91 = .ok (.aload_n 0, 1) := by decide +kernel
theorem dX12_hasRead_92 : decode cX12_hasRead 92 = .ok (.getfield 68, 3) := by decide +kernel
theorem dX12_hasRead_95 : decode cX12_hasRead 95 = .ok (.iload 5, 2) := by decide +kernel
theorem dX12_hasRead_97 : decode cX12_hasRead 97 = .ok (.iaload, 1) := by decide +kernel
theorem dX12_hasRead_98 : decode cX12_hasRead 98 = .ok (.iadd, 1) := by decide +kernel
theorem dX12_hasRead_99 : decode cX12_hasRead 99 = .ok (.iload_n 3, 1) := by decide +kernel
theorem dX12_hasRead_100 : decode cX12_hasRead 100 = .ok (.if_icmp .gt 7, 3) := by decide +kernel
theorem dX12_hasRead_103 : decode cX12_hasRead 103 = .ok (.iconst 1, 1) := by decide +kernel
theorem dX12_hasRead_104 : decode cX12_hasRead 104 = .ok (.goto 4, 3) := by decide +kernel
theorem dX12_hasRead_107 : decode cX12_hasRead 107 = .ok (.iconst 0, 1) := by decide +kernel
theorem dX12_hasRead_108 : decode cX12_hasRead 108 = .ok (.ireturn, 1) := by decide +kernel
theorem dX12_read_0 : decode cX12_read 0 = .ok (.aload_n 0, 1) := by decide +kernel
theorem dX12_read_1 : decode cX12_read 1 = .ok (.iload_n 1, 1) := by decide +kernel
theorem dX12_read_2 : decode cX12_read 2 = .ok (.invokevirtual 152, 3) := by decide +kernel
theorem dX12_read_5 : decode cX12_read 5 = .ok (.ifCond .eq 27, 3) := by decide +kernel
theorem dX12_read_8 : decode cX12_read 8 = .ok (.aload_n 0, 1) := by decide +kernel
theorem dX12_read_9 : decode cX12_read 9 = .ok (.iload_n 2, 1) := by decide +kernel
theorem dX12_read_10 : decode cX12_read 10 = .ok (.invokevirtual 145, 3) := by decide +kernel
theorem dX12_read_13 : decode cX12_read 13 = .ok (.ifCond .eq 19, 3) := by decide +kernel
theorem dX12_read_16 : decode cX12_read 16 = .ok (.iload_n 3, 1) := by decide +kernel
theorem dX12_read_17 : decode cX12_read 17 = .ok (.invokestatic 149, 3) := by decide +kernel
theorem dX12_read_20 : decode cX12_read 20 = .ok (.ifCond .eq 12, 3) := by decide +kernel
theorem dX12_read_23 : decode cX12_read 23 = .ok (.iload 4, 2) := by decide +kernel
theorem dX12_read_25 : decode cX12_read 25 = .ok (.iconst 2, 1) := by decide +kernel
theorem dX12_read_26 : decode cX12_read 26 = .ok (.invokestatic 135, 3) := by decide +kernel
theorem dX12_read_29 : decode cX12_read 29 = .ok (.ifCond .ne 6, 3) := by decide +kernel
theorem dX12_read_32 : decode cX12_read 32 = .ok (.bipush (-2), 2) := by decide +kernel
theorem dX12_read_34 : decode cX12_read 34 = .ok (.ireturn, 1) := by decide +kernel
theorem dX12_read_35 : decode cX12_read 35 = .ok (.aload_n 0, 1) := by decide +kernel
theorem dX12_read_36 : decode cX12_read 36 = .ok (.invokevirtual 184, 3) := by decide +kernel
theorem dX12_read_39 : decode cX12_read 39 = .ok (.ifCond .ne 19, 3) := by decide +kernel
theorem dX12_read_42 : decode cX12_read 42 = .ok (.aload_n 0, 1) := by decide +kernel
theorem dX12_read_43 : decode cX12_read 43 = .ok (.iload_n 1, 1) := by decide +kernel
theorem dX12_read_44 : decode cX12_read 44 = .ok (.iload_n 2, 1) := by decide +kernel
theorem dX12_read_45 : decode cX12_read 45 = .ok (.iload_n 3, 1) := by decide +kernel
theorem dX12_read_46 : decode cX12_read 46 = .ok (.iload 4, 2) := by decide +kernel
theorem dX12_read_48 : decode cX12_read 48 = .ok (.invokevirtual 199, 3) := by decide +kernel
theorem dX12_read_51 : decode cX12_read 51 = .ok (.ifCond .eq 7, 3) := by decide +kernel
theorem dX12_read_54 : decode cX12_read 54 = .ok (.iconst 1, 1) := by decide +kernel
theorem dX12_read_55 : decode cX12_read 55 = .ok (.goto 4, 3) := by decide +kernel
theorem dX12_read_58 : decode cX12_read 58 = .ok (.iconst 0, 1) := by decide +kernel
theorem dX12_read_59 : decode cX12_read 59 = .ok (.ireturn, 1) := by decide +kernel
theorem dX12_reads_0 : decode cX12_reads 0 = .ok (.aload_n 0, 1) := by decide +kernel
theorem dX12_reads_1 : decode cX12_reads 1 = .ok (.iload_n 1, 1) := by decide +kernel
theorem dX12_reads_2 : decode cX12_reads 2 = .ok (.invokevirtual 145, 3) := by decide +kernel
theorem dX12_reads_5 : decode cX12_reads 5 = .ok (.ifCond .eq 18, 3) := by decide +kernel
theorem dX12_reads_8 : decode cX12_reads 8 = .ok (.iload_n 2, 1) := by decide +kernel
theorem dX12_reads_9 : decode cX12_reads 9 = .ok (.invokestatic 149, 3) := by decide +kernel
theorem dX12_reads_12 : decode cX12_reads 12 = .ok (.ifCond .eq 11, 3) := by decide +kernel
theorem dX12_reads_15 : decode cX12_reads 15 = .ok (.iload_n 3, 1) := by decide +kernel
theorem dX12_reads_16 : decode cX12_reads 16 = .ok (.iconst 2, 1) := by decide +kernel
theorem dX12_reads_17 : decode cX12_reads 17 = .ok (.invokestatic 135, 3) := by decide +kernel
theorem dX12_reads_20 : decode cX12_reads 20 = .ok (.ifCond .ne 6, 3) := by decide +kernel
theorem dX12_reads_23 : decode cX12_reads 23 = .ok (.bipush (-2), 2) := by decide +kernel
theorem dX12_reads_25 : decode cX12_reads 25 = .ok (.ireturn, 1) := by decide +kernel
theorem dX12_reads_26 : decode cX12_reads 26 = .ok (.aload_n 0, 1) := by decide +kernel
theorem dX12_reads_27 : decode cX12_reads 27 = .ok (.invokevirtual 184, 3) := by decide +kernel
theorem dX12_reads_30 : decode cX12_reads 30 = .ok (.ifCond .eq 5, 3) := by decide +kernel
theorem dX12_reads_33 : decode cX12_reads 33 = .ok (.iconst 0, 1) := by decide +kernel
theorem dX12_reads_34 : decode cX12_reads 34 = .ok (.ireturn, 1) := by decide +kernel
theorem dX12_reads_35 : decode cX12_reads 35 = .ok (.iconst 0, 1) := by decide +kernel
theorem dX12_reads_36 : decode cX12_reads 36 = .ok (.istore 4, 2) := by decide +kernel
theorem dX12_reads_38 : decode cX12_reads 38 = .ok (.iconst 0, 1) := by decide +kernel
theorem dX12_reads_39 : decode cX12_reads 39 = .ok (.istore 5, 2) := by decide +kernel
theorem dX12_reads_41 : decode cX12_reads 41 = .ok (.iload 5, 2) := by decide +kernel
theorem dX12_reads_43 : decode cX12_reads 43 = .ok (.aload_n 0, 1) := by decide +kernel
theorem dX12_reads_44 : decode cX12_reads 44 = .ok (.getfield 142, 3) := by decide +kernel
theorem dX12_reads_47 : decode cX12_reads 47 = .ok (.if_icmp .ge 31, 3) := by decide +kernel
theorem dX12_reads_50 : decode cX12_reads 50 = .ok (.iload 4, 2) := by decide +kernel
theorem dX12_reads_52 : decode cX12_reads 52 = .ok (.aload_n 0, 1) := by decide +kernel
theorem dX12_reads_53 : decode cX12_reads 53 = .ok (.iload 5, 2) := by decide +kernel
theorem dX12_reads_55 : decode cX12_reads 55 = .ok (.iload_n 1, 1) := by decide +kernel
theorem dX12_reads_56 : decode cX12_reads 56 = .ok (.iload_n 2, 1) := by decide +kernel
theorem dX12_reads_57 : decode cX12_reads 57 = .ok (.iload_n 3, 1) := by decide +kernel
theorem dX12_reads_58 : decode cX12_reads 58 = .ok (.invokevirtual 199, 3) := by decide +kernel
theorem dX12_reads_61 : decode cX12_reads 61 = .ok (.ifCond .eq 7, 3) := by decide +kernel
theorem dX12_reads_64 : decode cX12_reads 64 = .ok (.iconst 1, 1) := by decide +kernel
theorem dX12_reads_65 : decode cX12_reads 65 = .ok (.goto 4, 3) := by decide +kernel
theorem dX12_reads_68 : decode cX12_reads 68 = .ok (.iconst 0, 1) := by decide +kernel
theorem dX12_reads_69 : decode cX12_reads 69 = .ok (.iadd, 1) := by decide +kernel
theorem dX12_reads_70 : decode cX12_reads 70 = .ok (.istore 4, 2) := by decide +kernel
theorem dX12_reads_72 : decode cX12_reads 72 = .ok (.iinc 5 1, 3) := by decide +kernel
theorem dX12_reads_75 : decode cX12_reads 75 = .ok (.goto (-34), 3) := by decide +kernel
theorem dX12_reads_78 : decode cX12_reads 78 = .ok (.iload 4, 2) := by decide +kernel
theorem dX12_reads_80 : decode cX12_reads 80 = .ok (.ireturn, 1) := by decide +kernel
theorem dX12_handOf_0 : decode cX12_handOf 0 = .ok (.iconst 0, 1) := by decide +kernel
theorem dX12_handOf_1 : decode cX12_handOf 1 = .ok (.istore_n 3, 1) := by decide +kernel
theorem dX12_handOf_2 : decode cX12_handOf 2 = .ok (.iload_n 3, 1) := by decide +kernel
theorem dX12_handOf_3 : decode cX12_handOf 3 = .ok (.aload_n 0, 1) := by decide +kernel
theorem dX12_handOf_4 : decode cX12_handOf 4 = .ok (.getfield 203, 3) := by decide +kernel
theorem dX12_handOf_7 : decode cX12_handOf 7 = .ok (.if_icmp .ge 31, 3) := by decide +kernel
theorem dX12_handOf_10 : decode cX12_handOf 10 = .ok (.aload_n 0, 1) := by decide +kernel
theorem dX12_handOf_11 : decode cX12_handOf 11 = .ok (.getfield 71, 3) := by decide +kernel
theorem dX12_handOf_14 : decode cX12_handOf 14 = .ok (.iload_n 3, 1) := by decide +kernel
theorem dX12_handOf_15 : decode cX12_handOf 15 = .ok (.iaload, 1) := by decide +kernel
theorem dX12_handOf_16 : decode cX12_handOf 16 = .ok (.iload_n 1, 1) := by decide +kernel
theorem dX12_handOf_17 : decode cX12_handOf 17 = .ok (.if_icmp .ne 15, 3) := by decide +kernel
theorem dX12_handOf_20 : decode cX12_handOf 20 = .ok (.aload_n 0, 1) := by decide +kernel
theorem dX12_handOf_21 : decode cX12_handOf 21 = .ok (.getfield 74, 3) := by decide +kernel
theorem dX12_handOf_24 : decode cX12_handOf 24 = .ok (.iload_n 3, 1) := by decide +kernel
theorem dX12_handOf_25 : decode cX12_handOf 25 = .ok (.iaload, 1) := by decide +kernel
theorem dX12_handOf_26 : decode cX12_handOf 26 = .ok (.iload_n 2, 1) := by decide +kernel
theorem dX12_handOf_27 : decode cX12_handOf 27 = .ok (.if_icmp .ne 5, 3) := by decide +kernel
theorem dX12_handOf_30 : decode cX12_handOf 30 = .ok (.iload_n 3, 1) := by decide +kernel
theorem dX12_handOf_31 : decode cX12_handOf 31 = .ok (.ireturn, 1) := by decide +kernel
theorem dX12_handOf_32 : decode cX12_handOf 32 = .ok (.iinc 3 1, 3) := by decide +kernel
theorem dX12_handOf_35 : decode cX12_handOf 35 = .ok (.goto (-33), 3) := by decide +kernel
theorem dX12_handOf_38 : decode cX12_handOf 38 = .ok (.iconst (-1), 1) := by decide +kernel
theorem dX12_handOf_39 : decode cX12_handOf 39 = .ok (.ireturn, 1) := by decide +kernel
theorem dX12_meansOf_0 : decode cX12_meansOf 0 = .ok (.aload_n 0, 1) := by decide +kernel
theorem dX12_meansOf_1 : decode cX12_meansOf 1 = .ok (.iload_n 1, 1) := by decide +kernel
theorem dX12_meansOf_2 : decode cX12_meansOf 2 = .ok (.iload_n 2, 1) := by decide +kernel
theorem dX12_meansOf_3 : decode cX12_meansOf 3 = .ok (.invokevirtual 206, 3) := by decide +kernel
theorem dX12_meansOf_6 : decode cX12_meansOf 6 = .ok (.istore_n 3, 1) := by decide +kernel
theorem dX12_meansOf_7 : decode cX12_meansOf 7 = .ok (.iload_n 3, 1) := by decide +kernel
theorem dX12_meansOf_8 : decode cX12_meansOf 8 = .ok (.ifCond .lt 15, 3) := by decide +kernel
theorem dX12_meansOf_11 : decode cX12_meansOf 11 = .ok (.aload_n 0, 1) := by decide +kernel
theorem dX12_meansOf_12 : decode cX12_meansOf 12 = .ok (.aload_n 0, 1) := by decide +kernel
theorem dX12_meansOf_13 : decode cX12_meansOf 13 = .ok (.getfield 77, 3) := by decide +kernel
theorem dX12_meansOf_16 : decode cX12_meansOf 16 = .ok (.iload_n 3, 1) := by decide +kernel
theorem dX12_meansOf_17 : decode cX12_meansOf 17 = .ok (.iaload, 1) := by decide +kernel
theorem dX12_meansOf_18 : decode cX12_meansOf 18 = .ok (.putfield 209, 3) := by decide +kernel
theorem dX12_meansOf_21 : decode cX12_meansOf 21 = .ok (.iconst 1, 1) := by decide +kernel
theorem dX12_meansOf_22 : decode cX12_meansOf 22 = .ok (.ireturn, 1) := by decide +kernel
theorem dX12_meansOf_23 : decode cX12_meansOf 23 = .ok (.aload_n 0, 1) := by decide +kernel
theorem dX12_meansOf_24 : decode cX12_meansOf 24 = .ok (.invokevirtual 184, 3) := by decide +kernel
theorem dX12_meansOf_27 : decode cX12_meansOf 27 = .ok (.istore 4, 2) := by decide +kernel
theorem dX12_meansOf_29 : decode cX12_meansOf 29 = .ok (.iconst 0, 1) := by decide +kernel
theorem dX12_meansOf_30 : decode cX12_meansOf 30 = .ok (.istore 5, 2) := by decide +kernel
theorem dX12_meansOf_32 : decode cX12_meansOf 32 = .ok (.aload_n 0, 1) := by decide +kernel
theorem dX12_meansOf_33 : decode cX12_meansOf 33 = .ok (.getfield 139, 3) := by decide +kernel
theorem dX12_meansOf_36 : decode cX12_meansOf 36 = .ok (.iconst 1, 1) := by decide +kernel
theorem dX12_meansOf_37 : decode cX12_meansOf 37 = .ok (.isub, 1) := by decide +kernel
theorem dX12_meansOf_38 : decode cX12_meansOf 38 = .ok (.istore 6, 2) := by decide +kernel
theorem dX12_meansOf_40 : decode cX12_meansOf 40 = .ok (.iload 6, 2) := by decide +kernel
theorem dX12_meansOf_42 : decode cX12_meansOf 42 = .ok (.ifCond .lt 101, 3) := by decide +kernel
theorem dX12_meansOf_45 : decode cX12_meansOf 45 = .ok (.iload 4, 2) := by decide +kernel
theorem dX12_meansOf_47 : decode cX12_meansOf 47 = .ok (.ifCond .ne 35, 3) := by decide +kernel
theorem dX12_meansOf_50 : decode cX12_meansOf 50 = .ok (.aload_n 0, 1) := by decide +kernel
theorem dX12_meansOf_51 : decode cX12_meansOf 51 = .ok (.getfield 16, 3) := by decide +kernel
theorem dX12_meansOf_54 : decode cX12_meansOf 54 = .ok (.iload 6, 2) := by decide +kernel
theorem dX12_meansOf_56 : decode cX12_meansOf 56 = .ok (.iaload, 1) := by decide +kernel
theorem dX12_meansOf_57 : decode cX12_meansOf 57 = .ok (.aload_n 0, 1) := by decide +kernel
theorem dX12_meansOf_58 : decode cX12_meansOf 58 = .ok (.getfield 86, 3) := by decide +kernel
theorem dX12_meansOf_61 : decode cX12_meansOf 61 = .ok (.iload_n 1, 1) := by decide +kernel
theorem dX12_meansOf_62 : decode cX12_meansOf 62 = .ok (.iaload, 1) := by decide +kernel
theorem dX12_meansOf_63 : decode cX12_meansOf 63 = .ok (.if_icmp .gt 23, 3) := by decide +kernel
theorem dX12_meansOf_66 : decode cX12_meansOf 66 = .ok (.aload_n 0, 1) := by decide +kernel
theorem dX12_meansOf_67 : decode cX12_meansOf 67 = .ok (.getfield 19, 3) := by decide +kernel
theorem dX12_meansOf_70 : decode cX12_meansOf 70 = .ok (.iload 6, 2) := by decide +kernel
theorem dX12_meansOf_72 : decode cX12_meansOf 72 = .ok (.iaload, 1) := by decide +kernel
theorem dX12_meansOf_73 : decode cX12_meansOf 73 = .ok (.aload_n 0, 1) := by decide +kernel
theorem dX12_meansOf_74 : decode cX12_meansOf 74 = .ok (.getfield 83, 3) := by decide +kernel
theorem dX12_meansOf_77 : decode cX12_meansOf 77 = .ok (.iload_n 1, 1) := by decide +kernel
theorem dX12_meansOf_78 : decode cX12_meansOf 78 = .ok (.iaload, 1) := by decide +kernel
theorem dX12_meansOf_79 : decode cX12_meansOf 79 = .ok (.if_icmp .lt 7, 3) := by decide +kernel
theorem dX12_meansOf_82 : decode cX12_meansOf 82 = .ok (.iconst 1, 1) := by decide +kernel
theorem dX12_meansOf_83 : decode cX12_meansOf 83 = .ok (.goto 4, 3) := by decide +kernel
theorem dX12_meansOf_86 : decode cX12_meansOf 86 = .ok (.iconst 0, 1) := by decide +kernel
theorem dX12_meansOf_87 : decode cX12_meansOf 87 = .ok (.istore 7, 2) := by decide +kernel
theorem dX12_meansOf_89 : decode cX12_meansOf 89 = .ok (.aload_n 0, 1) := by decide +kernel
theorem dX12_meansOf_90 : decode cX12_meansOf 90 = .ok (.getfield 9, 3) := by decide +kernel
theorem dX12_meansOf_93 : decode cX12_meansOf 93 = .ok (.iload 6, 2) := by decide +kernel
theorem dX12_meansOf_95 : decode cX12_meansOf 95 = .ok (.iaload, 1) := by decide +kernel
theorem dX12_meansOf_96 : decode cX12_meansOf 96 = .ok (.iload_n 2, 1) := by decide +kernel
theorem dX12_meansOf_97 : decode cX12_meansOf 97 = .ok (.if_icmp .ne 40, 3) := by decide +kernel
theorem dX12_meansOf_100 : decode cX12_meansOf 100 = .ok (.aload_n 0, 1) := by decide +kernel
theorem dX12_meansOf_101 : decode cX12_meansOf 101 = .ok (.getfield 22, 3) := by decide +kernel
theorem dX12_meansOf_104 : decode cX12_meansOf 104 = .ok (.bipush 10, 2) := by decide +kernel
theorem dX12_meansOf_106 : decode cX12_meansOf 106 = .ok (.aload_n 0, 1) := by decide +kernel
theorem dX12_meansOf_107 : decode cX12_meansOf 107 = .ok (.getfield 29, 3) := by decide +kernel
theorem dX12_meansOf_110 : decode cX12_meansOf 110 = .ok (.iload_n 1, 1) := by decide +kernel
theorem dX12_meansOf_111 : decode cX12_meansOf 111 = .ok (.iaload, 1) := by decide +kernel
theorem dX12_meansOf_112 : decode cX12_meansOf 112 = .ok (.imul, 1) := by decide +kernel
theorem dX12_meansOf_113 : decode cX12_meansOf 113 = .ok (.iload 6, 2) := by decide +kernel
theorem dX12_meansOf_115 : decode cX12_meansOf 115 = .ok (.iadd, 1) := by decide +kernel
theorem dX12_meansOf_116 : decode cX12_meansOf 116 = .ok (.baload, 1) := by decide +kernel
theorem dX12_meansOf_117 : decode cX12_meansOf 117 = .ok (.ifCond .eq 20, 3) := by decide +kernel
theorem dX12_meansOf_120 : decode cX12_meansOf 120 = .ok (.iload 7, 2) := by decide +kernel
theorem dX12_meansOf_122 : decode cX12_meansOf 122 = .ok (.ifCond .ne 6, 3) := by decide +kernel
theorem dX12_meansOf_125 : decode cX12_meansOf 125 = .ok (.goto 12, 3) := by decide +kernel
theorem dX12_meansOf_128 : decode cX12_meansOf 128 = .ok (.aload_n 0, 1) := by decide +kernel
theorem dX12_meansOf_129 : decode cX12_meansOf 129 = .ok (.iload 6, 2) := by decide +kernel
theorem dX12_meansOf_131 : decode cX12_meansOf 131 = .ok (.putfield 209, 3) := by decide +kernel
theorem dX12_meansOf_134 : decode cX12_meansOf 134 = .ok (.iinc 5 1, 3) := by decide +kernel
theorem dX12_meansOf_137 : decode cX12_meansOf 137 = .ok (.iinc 6 (-1), 3) := by decide +kernel
theorem dX12_meansOf_140 : decode cX12_meansOf 140 = .ok (.goto (-100), 3) := by decide +kernel
theorem dX12_meansOf_143 : decode cX12_meansOf 143 = .ok (.iload 5, 2) := by decide +kernel
theorem dX12_meansOf_145 : decode cX12_meansOf 145 = .ok (.ireturn, 1) := by decide +kernel
theorem dX12_means_0 : decode cX12_means 0 = .ok (.aload_n 0, 1) := by decide +kernel
theorem dX12_means_1 : decode cX12_means 1 = .ok (.iload_n 1, 1) := by decide +kernel
theorem dX12_means_2 : decode cX12_means 2 = .ok (.invokevirtual 152, 3) := by decide +kernel
theorem dX12_means_5 : decode cX12_means 5 = .ok (.ifCond .eq 23, 3) := by decide +kernel
theorem dX12_means_8 : decode cX12_means 8 = .ok (.iload_n 2, 1) := by decide +kernel
theorem dX12_means_9 : decode cX12_means 9 = .ok (.iconst 1, 1) := by decide +kernel
theorem dX12_means_10 : decode cX12_means 10 = .ok (.isub, 1) := by decide +kernel
theorem dX12_means_11 : decode cX12_means 11 = .ok (.bipush 99, 2) := by decide +kernel
theorem dX12_means_13 : decode cX12_means 13 = .ok (.invokestatic 135, 3) := by decide +kernel
theorem dX12_means_16 : decode cX12_means 16 = .ok (.ifCond .eq 12, 3) := by decide +kernel
theorem dX12_means_19 : decode cX12_means 19 = .ok (.aload_n 0, 1) := by decide +kernel
theorem dX12_means_20 : decode cX12_means 20 = .ok (.iload_n 1, 1) := by decide +kernel
theorem dX12_means_21 : decode cX12_means 21 = .ok (.iload_n 2, 1) := by decide +kernel
theorem dX12_means_22 : decode cX12_means 22 = .ok (.invokevirtual 212, 3) := by decide +kernel
theorem dX12_means_25 : decode cX12_means 25 = .ok (.goto 5, 3) := by decide +kernel
theorem dX12_means_28 : decode cX12_means 28 = .ok (.bipush (-2), 2) := by decide +kernel
theorem dX12_means_30 : decode cX12_means 30 = .ok (.ireturn, 1) := by decide +kernel
theorem dX12_who_0 : decode cX12_who 0 = .ok (.aload_n 0, 1) := by decide +kernel
theorem dX12_who_1 : decode cX12_who 1 = .ok (.iload_n 1, 1) := by decide +kernel
theorem dX12_who_2 : decode cX12_who 2 = .ok (.invokevirtual 152, 3) := by decide +kernel
theorem dX12_who_5 : decode cX12_who 5 = .ok (.ifCond .eq 14, 3) := by decide +kernel
theorem dX12_who_8 : decode cX12_who 8 = .ok (.iload_n 2, 1) := by decide +kernel
theorem dX12_who_9 : decode cX12_who 9 = .ok (.iconst 1, 1) := by decide +kernel
theorem dX12_who_10 : decode cX12_who 10 = .ok (.isub, 1) := by decide +kernel
theorem dX12_who_11 : decode cX12_who 11 = .ok (.bipush 99, 2) := by decide +kernel
theorem dX12_who_13 : decode cX12_who 13 = .ok (.invokestatic 135, 3) := by decide +kernel
theorem dX12_who_16 : decode cX12_who 16 = .ok (.ifCond .ne 6, 3) := by decide +kernel
theorem dX12_who_19 : decode cX12_who 19 = .ok (.bipush (-2), 2) := by decide +kernel
theorem dX12_who_21 : decode cX12_who 21 = .ok (.ireturn, 1) := by decide +kernel
theorem dX12_who_22 : decode cX12_who 22 = .ok (.aload_n 0, 1) := by decide +kernel
theorem dX12_who_23 : decode cX12_who 23 = .ok (.iload_n 1, 1) := by decide +kernel
theorem dX12_who_24 : decode cX12_who 24 = .ok (.iload_n 2, 1) := by decide +kernel
theorem dX12_who_25 : decode cX12_who 25 = .ok (.invokevirtual 212, 3) := by decide +kernel
theorem dX12_who_28 : decode cX12_who 28 = .ok (.iconst 1, 1) := by decide +kernel
theorem dX12_who_29 : decode cX12_who 29 = .ok (.if_icmp .ne 10, 3) := by decide +kernel
theorem dX12_who_32 : decode cX12_who 32 = .ok (.aload_n 0, 1) := by decide +kernel
theorem dX12_who_33 : decode cX12_who 33 = .ok (.getfield 209, 3) := by decide +kernel
theorem dX12_who_36 : decode cX12_who 36 = .ok (.goto 4, 3) := by decide +kernel
theorem dX12_who_39 : decode cX12_who 39 = .ok (.iconst (-1), 1) := by decide +kernel
theorem dX12_who_40 : decode cX12_who 40 = .ok (.ireturn, 1) := by decide +kernel
theorem dX12_hand_0 : decode cX12_hand 0 = .ok (.aload_n 0, 1) := by decide +kernel
theorem dX12_hand_1 : decode cX12_hand 1 = .ok (.iload_n 1, 1) := by decide +kernel
theorem dX12_hand_2 : decode cX12_hand 2 = .ok (.invokevirtual 152, 3) := by decide +kernel
theorem dX12_hand_5 : decode cX12_hand 5 = .ok (.ifCond .eq 22, 3) := by decide +kernel
theorem dX12_hand_8 : decode cX12_hand 8 = .ok (.iload_n 2, 1) := by decide +kernel
theorem dX12_hand_9 : decode cX12_hand 9 = .ok (.iconst 1, 1) := by decide +kernel
theorem dX12_hand_10 : decode cX12_hand 10 = .ok (.isub, 1) := by decide +kernel
theorem dX12_hand_11 : decode cX12_hand 11 = .ok (.bipush 99, 2) := by decide +kernel
theorem dX12_hand_13 : decode cX12_hand 13 = .ok (.invokestatic 135, 3) := by decide +kernel
theorem dX12_hand_16 : decode cX12_hand 16 = .ok (.ifCond .eq 11, 3) := by decide +kernel
theorem dX12_hand_19 : decode cX12_hand 19 = .ok (.aload_n 0, 1) := by decide +kernel
theorem dX12_hand_20 : decode cX12_hand 20 = .ok (.iload_n 3, 1) := by decide +kernel
theorem dX12_hand_21 : decode cX12_hand 21 = .ok (.invokevirtual 145, 3) := by decide +kernel
theorem dX12_hand_24 : decode cX12_hand 24 = .ok (.ifCond .ne 6, 3) := by decide +kernel
theorem dX12_hand_27 : decode cX12_hand 27 = .ok (.bipush (-2), 2) := by decide +kernel
theorem dX12_hand_29 : decode cX12_hand 29 = .ok (.ireturn, 1) := by decide +kernel
theorem dX12_hand_30 : decode cX12_hand 30 = .ok (.aload_n 0, 1) := by decide +kernel
theorem dX12_hand_31 : decode cX12_hand 31 = .ok (.iload_n 1, 1) := by decide +kernel
theorem dX12_hand_32 : decode cX12_hand 32 = .ok (.iload_n 2, 1) := by decide +kernel
theorem dX12_hand_33 : decode cX12_hand 33 = .ok (.invokevirtual 206, 3) := by decide +kernel
theorem dX12_hand_36 : decode cX12_hand 36 = .ok (.istore 4, 2) := by decide +kernel
theorem dX12_hand_38 : decode cX12_hand 38 = .ok (.iload 4, 2) := by decide +kernel
theorem dX12_hand_40 : decode cX12_hand 40 = .ok (.ifCond .ge 15, 3) := by decide +kernel
theorem dX12_hand_43 : decode cX12_hand 43 = .ok (.aload_n 0, 1) := by decide +kernel
theorem dX12_hand_44 : decode cX12_hand 44 = .ok (.getfield 203, 3) := by decide +kernel
theorem dX12_hand_47 : decode cX12_hand 47 = .ok (.bipush 10, 2) := by decide +kernel
theorem dX12_hand_49 : decode cX12_hand 49 = .ok (.if_icmp .ne 6, 3) := by decide +kernel
theorem dX12_hand_52 : decode cX12_hand 52 = .ok (.bipush (-4), 2) := by decide +kernel
theorem dX12_hand_54 : decode cX12_hand 54 = .ok (.ireturn, 1) := by decide +kernel
theorem dX12_hand_55 : decode cX12_hand 55 = .ok (.iload 4, 2) := by decide +kernel
theorem dX12_hand_57 : decode cX12_hand 57 = .ok (.ifCond .ge 19, 3) := by decide +kernel
theorem dX12_hand_60 : decode cX12_hand 60 = .ok (.aload_n 0, 1) := by decide +kernel
theorem dX12_hand_61 : decode cX12_hand 61 = .ok (.getfield 203, 3) := by decide +kernel
theorem dX12_hand_64 : decode cX12_hand 64 = .ok (.istore 4, 2) := by decide +kernel
theorem dX12_hand_66 : decode cX12_hand 66 = .ok (.aload_n 0, 1) := by decide +kernel
theorem dX12_hand_67 : decode cX12_hand 67 = .ok (.dup, 1) := by decide +kernel
theorem dX12_hand_68 : decode cX12_hand 68 = .ok (.getfield 203, 3) := by decide +kernel
theorem dX12_hand_71 : decode cX12_hand 71 = .ok (.iconst 1, 1) := by decide +kernel
theorem dX12_hand_72 : decode cX12_hand 72 = .ok (.iadd, 1) := by decide +kernel
theorem dX12_hand_73 : decode cX12_hand 73 = .ok (.putfield 203, 3) := by decide +kernel
theorem dX12_hand_76 : decode cX12_hand 76 = .ok (.aload_n 0, 1) := by decide +kernel
theorem dX12_hand_77 : decode cX12_hand 77 = .ok (.getfield 71, 3) := by decide +kernel
theorem dX12_hand_80 : decode cX12_hand 80 = .ok (.iload 4, 2) := by decide +kernel
theorem dX12_hand_82 : decode cX12_hand 82 = .ok (.iload_n 1, 1) := by decide +kernel
theorem dX12_hand_83 : decode cX12_hand 83 = .ok (.iastore, 1) := by decide +kernel
theorem dX12_hand_84 : decode cX12_hand 84 = .ok (.aload_n 0, 1) := by decide +kernel
theorem dX12_hand_85 : decode cX12_hand 85 = .ok (.getfield 74, 3) := by decide +kernel
theorem dX12_hand_88 : decode cX12_hand 88 = .ok (.iload 4, 2) := by decide +kernel
theorem dX12_hand_90 : decode cX12_hand 90 = .ok (.iload_n 2, 1) := by decide +kernel
theorem dX12_hand_91 : decode cX12_hand 91 = .ok (.iastore, 1) := by decide +kernel
theorem dX12_hand_92 : decode cX12_hand 92 = .ok (.aload_n 0, 1) := by decide +kernel
theorem dX12_hand_93 : decode cX12_hand 93 = .ok (.getfield 77, 3) := by decide +kernel
theorem dX12_hand_96 : decode cX12_hand 96 = .ok (.iload 4, 2) := by decide +kernel
theorem dX12_hand_98 : decode cX12_hand 98 = .ok (.iload_n 3, 1) := by decide +kernel
theorem dX12_hand_99 : decode cX12_hand 99 = .ok (.iastore, 1) := by decide +kernel
theorem dX12_hand_100 : decode cX12_hand 100 = .ok (.aload_n 0, 1) := by decide +kernel
theorem dX12_hand_101 : decode cX12_hand 101 = .ok (.getfield 203, 3) := by decide +kernel
theorem dX12_hand_104 : decode cX12_hand 104 = .ok (.ireturn, 1) := by decide +kernel
theorem dX12_feed_0 : decode cX12_feed 0 = .ok (.iload_n 1, 1) := by decide +kernel
theorem dX12_feed_1 : decode cX12_feed 1 = .ok (.iconst 1, 1) := by decide +kernel
theorem dX12_feed_2 : decode cX12_feed 2 = .ok (.isub, 1) := by decide +kernel
theorem dX12_feed_3 : decode cX12_feed 3 = .ok (.bipush 8, 2) := by decide +kernel
theorem dX12_feed_5 : decode cX12_feed 5 = .ok (.invokestatic 135, 3) := by decide +kernel
theorem dX12_feed_8 : decode cX12_feed 8 = .ok (.ifCond .ne 6, 3) := by decide +kernel
theorem dX12_feed_11 : decode cX12_feed 11 = .ok (.bipush (-2), 2) := by decide +kernel
theorem dX12_feed_13 : decode cX12_feed 13 = .ok (.ireturn, 1) := by decide +kernel
theorem dX12_feed_14 : decode cX12_feed 14 = .ok (.aload_n 0, 1) := by decide +kernel
theorem dX12_feed_15 : decode cX12_feed 15 = .ok (.getfield 215, 3) := by decide +kernel
theorem dX12_feed_18 : decode cX12_feed 18 = .ok (.iload_n 1, 1) := by decide +kernel
theorem dX12_feed_19 : decode cX12_feed 19 = .ok (.iadd, 1) := by decide +kernel
theorem dX12_feed_20 : decode cX12_feed 20 = .ok (.sipush 160, 3) := by decide +kernel
theorem dX12_feed_23 : decode cX12_feed 23 = .ok (.if_icmp .le 6, 3) := by decide +kernel
theorem dX12_feed_26 : decode cX12_feed 26 = .ok (.bipush (-4), 2) := by decide +kernel
theorem dX12_feed_28 : decode cX12_feed 28 = .ok (.ireturn, 1) := by decide +kernel
theorem dX12_feed_29 : decode cX12_feed 29 = .ok (.iconst 0, 1) := by decide +kernel
theorem dX12_feed_30 : decode cX12_feed 30 = .ok (.istore 4, 2) := by decide +kernel
theorem dX12_feed_32 : decode cX12_feed 32 = .ok (.iload 4, 2) := by decide +kernel
theorem dX12_feed_34 : decode cX12_feed 34 = .ok (.iload_n 1, 1) := by decide +kernel
theorem dX12_feed_35 : decode cX12_feed 35 = .ok (.if_icmp .ge 40, 3) := by decide +kernel
theorem dX12_feed_38 : decode cX12_feed 38 = .ok (.aload_n 0, 1) := by decide +kernel
theorem dX12_feed_39 : decode cX12_feed 39 = .ok (.getfield 80, 3) := by decide +kernel
theorem dX12_feed_42 : decode cX12_feed 42 = .ok (.aload_n 0, 1) := by decide +kernel
theorem dX12_feed_43 : decode cX12_feed 43 = .ok (.getfield 215, 3) := by decide +kernel
theorem dX12_feed_46 : decode cX12_feed 46 = .ok (.lload_n 2, 1) := by decide +kernel
theorem dX12_feed_47 : decode cX12_feed 47 = .ok (.bipush 8, 2) := by decide +kernel
theorem dX12_feed_49 : decode cX12_feed 49 = .ok (.iload 4, 2) := by decide +kernel
theorem dX12_feed_51 : decode cX12_feed 51 = .ok (.imul, 1) := by decide +kernel
theorem dX12_feed_52 : decode cX12_feed 52 = .ok (.lshr, 1) := by decide +kernel
theorem dX12_feed_53 : decode cX12_feed 53 = .ok (.l2i, 1) := by decide +kernel
theorem dX12_feed_54 : decode cX12_feed 54 = .ok (.sipush 255, 3) := by decide +kernel
theorem dX12_feed_57 : decode cX12_feed 57 = .ok (.iand, 1) := by decide +kernel
theorem dX12_feed_58 : decode cX12_feed 58 = .ok (.iastore, 1) := by decide +kernel
theorem dX12_feed_59 : decode cX12_feed 59 = .ok (.aload_n 0, 1) := by decide +kernel
theorem dX12_feed_60 : decode cX12_feed 60 = .ok (.dup, 1) := by decide +kernel
theorem dX12_feed_61 : decode cX12_feed 61 = .ok (.getfield 215, 3) := by decide +kernel
theorem dX12_feed_64 : decode cX12_feed 64 = .ok (.iconst 1, 1) := by decide +kernel
theorem dX12_feed_65 : decode cX12_feed 65 = .ok (.iadd, 1) := by decide +kernel
theorem dX12_feed_66 : decode cX12_feed 66 = .ok (.putfield 215, 3) := by decide +kernel
theorem dX12_feed_69 : decode cX12_feed 69 = .ok (.iinc 4 1, 3) := by decide +kernel
theorem dX12_feed_72 : decode cX12_feed 72 = .ok (.goto (-40), 3) := by decide +kernel
theorem dX12_feed_75 : decode cX12_feed 75 = .ok (.aload_n 0, 1) := by decide +kernel
theorem dX12_feed_76 : decode cX12_feed 76 = .ok (.getfield 215, 3) := by decide +kernel
theorem dX12_feed_79 : decode cX12_feed 79 = .ok (.ireturn, 1) := by decide +kernel
theorem dX12_isDigit_0 : decode cX12_isDigit 0 = .ok (.iload_n 0, 1) := by decide +kernel
theorem dX12_isDigit_1 : decode cX12_isDigit 1 = .ok (.bipush 48, 2) := by decide +kernel
theorem dX12_isDigit_3 : decode cX12_isDigit 3 = .ok (.if_icmp .lt 13, 3) := by decide +kernel
theorem dX12_isDigit_6 : decode cX12_isDigit 6 = .ok (.iload_n 0, 1) := by decide +kernel
theorem dX12_isDigit_7 : decode cX12_isDigit 7 = .ok (.bipush 57, 2) := by decide +kernel
theorem dX12_isDigit_9 : decode cX12_isDigit 9 = .ok (.if_icmp .gt 7, 3) := by decide +kernel
theorem dX12_isDigit_12 : decode cX12_isDigit 12 = .ok (.iconst 1, 1) := by decide +kernel
theorem dX12_isDigit_13 : decode cX12_isDigit 13 = .ok (.goto 4, 3) := by decide +kernel
theorem dX12_isDigit_16 : decode cX12_isDigit 16 = .ok (.iconst 0, 1) := by decide +kernel
theorem dX12_isDigit_17 : decode cX12_isDigit 17 = .ok (.ireturn, 1) := by decide +kernel
theorem dX12_isPlain_0 : decode cX12_isPlain 0 = .ok (.iload_n 0, 1) := by decide +kernel
theorem dX12_isPlain_1 : decode cX12_isPlain 1 = .ok (.bipush 97, 2) := by decide +kernel
theorem dX12_isPlain_3 : decode cX12_isPlain 3 = .ok (.if_icmp .lt 9, 3) := by decide +kernel
theorem dX12_isPlain_6 : decode cX12_isPlain 6 = .ok (.iload_n 0, 1) := by decide +kernel
theorem dX12_isPlain_7 : decode cX12_isPlain 7 = .ok (.bipush 122, 2) := by decide +kernel
theorem dX12_isPlain_9 : decode cX12_isPlain 9 = .ok (.if_icmp .le 15, 3) := by decide +kernel
theorem dX12_isPlain_12 : decode cX12_isPlain 12 = .ok (.iload_n 0, 1) := by decide +kernel
theorem dX12_isPlain_13 : decode cX12_isPlain 13 = .ok (.bipush 32, 2) := by decide +kernel
theorem dX12_isPlain_15 : decode cX12_isPlain 15 = .ok (.if_icmp .eq 9, 3) := by decide +kernel
theorem dX12_isPlain_18 : decode cX12_isPlain 18 = .ok (.iload_n 0, 1) := by decide +kernel
theorem dX12_isPlain_19 : decode cX12_isPlain 19 = .ok (.bipush 46, 2) := by decide +kernel
theorem dX12_isPlain_21 : decode cX12_isPlain 21 = .ok (.if_icmp .ne 7, 3) := by decide +kernel
theorem dX12_isPlain_24 : decode cX12_isPlain 24 = .ok (.iconst 1, 1) := by decide +kernel
theorem dX12_isPlain_25 : decode cX12_isPlain 25 = .ok (.goto 4, 3) := by decide +kernel
theorem dX12_isPlain_28 : decode cX12_isPlain 28 = .ok (.iconst 0, 1) := by decide +kernel
theorem dX12_isPlain_29 : decode cX12_isPlain 29 = .ok (.ireturn, 1) := by decide +kernel
theorem dX12_isSort_0 : decode cX12_isSort 0 = .ok (.iload_n 0, 1) := by decide +kernel
theorem dX12_isSort_1 : decode cX12_isSort 1 = .ok (.bipush 100, 2) := by decide +kernel
theorem dX12_isSort_3 : decode cX12_isSort 3 = .ok (.if_icmp .eq 33, 3) := by decide +kernel
theorem dX12_isSort_6 : decode cX12_isSort 6 = .ok (.iload_n 0, 1) := by decide +kernel
theorem dX12_isSort_7 : decode cX12_isSort 7 = .ok (.bipush 97, 2) := by decide +kernel
theorem dX12_isSort_9 : decode cX12_isSort 9 = .ok (.if_icmp .eq 27, 3) := by decide +kernel
theorem dX12_isSort_12 : decode cX12_isSort 12 = .ok (.iload_n 0, 1) := by decide +kernel
theorem dX12_isSort_13 : decode cX12_isSort 13 = .ok (.bipush 117, 2) := by decide +kernel
theorem dX12_isSort_15 : decode cX12_isSort 15 = .ok (.if_icmp .eq 21, 3) := by decide +kernel
theorem dX12_isSort_18 : decode cX12_isSort 18 = .ok (.iload_n 0, 1) := by decide +kernel
theorem dX12_isSort_19 : decode cX12_isSort 19 = .ok (.bipush 104, 2) := by decide +kernel
theorem dX12_isSort_21 : decode cX12_isSort 21 = .ok (.if_icmp .eq 15, 3) := by decide +kernel
theorem dX12_isSort_24 : decode cX12_isSort 24 = .ok (.iload_n 0, 1) := by decide +kernel
theorem dX12_isSort_25 : decode cX12_isSort 25 = .ok (.bipush 115, 2) := by decide +kernel
theorem dX12_isSort_27 : decode cX12_isSort 27 = .ok (.if_icmp .eq 9, 3) := by decide +kernel
theorem dX12_isSort_30 : decode cX12_isSort 30 = .ok (.iload_n 0, 1) := by decide +kernel
theorem dX12_isSort_31 : decode cX12_isSort 31 = .ok (.bipush 110, 2) := by decide +kernel
theorem dX12_isSort_33 : decode cX12_isSort 33 = .ok (.if_icmp .ne 7, 3) := by decide +kernel
theorem dX12_isSort_36 : decode cX12_isSort 36 = .ok (.iconst 1, 1) := by decide +kernel
theorem dX12_isSort_37 : decode cX12_isSort 37 = .ok (.goto 4, 3) := by decide +kernel
theorem dX12_isSort_40 : decode cX12_isSort 40 = .ok (.iconst 0, 1) := by decide +kernel
theorem dX12_isSort_41 : decode cX12_isSort 41 = .ok (.ireturn, 1) := by decide +kernel
theorem dX12_isOpen_0 : decode cX12_isOpen 0 = .ok (.iconst 0, 1) := by decide +kernel
theorem dX12_isOpen_1 : decode cX12_isOpen 1 = .ok (.istore_n 2, 1) := by decide +kernel
theorem dX12_isOpen_2 : decode cX12_isOpen 2 = .ok (.iconst 0, 1) := by decide +kernel
theorem dX12_isOpen_3 : decode cX12_isOpen 3 = .ok (.istore_n 3, 1) := by decide +kernel
theorem dX12_isOpen_4 : decode cX12_isOpen 4 = .ok (.iload_n 3, 1) := by decide +kernel
theorem dX12_isOpen_5 : decode cX12_isOpen 5 = .ok (.aload_n 0, 1) := by decide +kernel
theorem dX12_isOpen_6 : decode cX12_isOpen 6 = .ok (.getfield 218, 3) := by decide +kernel
theorem dX12_isOpen_9 : decode cX12_isOpen 9 = .ok (.if_icmp .ge 29, 3) := by decide +kernel
theorem dX12_isOpen_12 : decode cX12_isOpen 12 = .ok (.iload_n 2, 1) := by decide +kernel
theorem dX12_isOpen_13 : decode cX12_isOpen 13 = .ok (.ifCond .ne 13, 3) := by decide +kernel
theorem dX12_isOpen_16 : decode cX12_isOpen 16 = .ok (.aload_n 0, 1) := by decide +kernel
theorem dX12_isOpen_17 : decode cX12_isOpen 17 = .ok (.getfield 96, 3) := by decide +kernel
theorem dX12_isOpen_20 : decode cX12_isOpen 20 = .ok (.iload_n 3, 1) := by decide +kernel
theorem dX12_isOpen_21 : decode cX12_isOpen 21 = .ok (.iaload, 1) := by decide +kernel
theorem dX12_isOpen_22 : decode cX12_isOpen 22 = .ok (.iload_n 1, 1) := by decide +kernel
theorem dX12_isOpen_23 : decode cX12_isOpen 23 = .ok (.if_icmp .ne 7, 3) := by decide +kernel
theorem dX12_isOpen_26 : decode cX12_isOpen 26 = .ok (.iconst 1, 1) := by decide +kernel
theorem dX12_isOpen_27 : decode cX12_isOpen 27 = .ok (.goto 4, 3) := by decide +kernel
theorem dX12_isOpen_30 : decode cX12_isOpen 30 = .ok (.iconst 0, 1) := by decide +kernel
theorem dX12_isOpen_31 : decode cX12_isOpen 31 = .ok (.istore_n 2, 1) := by decide +kernel
theorem dX12_isOpen_32 : decode cX12_isOpen 32 = .ok (.iinc 3 1, 3) := by decide +kernel
theorem dX12_isOpen_35 : decode cX12_isOpen 35 = .ok (.goto (-31), 3) := by decide +kernel
theorem dX12_isOpen_38 : decode cX12_isOpen 38 = .ok (.iload_n 2, 1) := by decide +kernel
theorem dX12_isOpen_39 : decode cX12_isOpen 39 = .ok (.ireturn, 1) := by decide +kernel
theorem dX12_digits_0 : decode cX12_digits 0 = .ok (.iload_n 1, 1) := by decide +kernel
theorem dX12_digits_1 : decode cX12_digits 1 = .ok (.istore_n 3, 1) := by decide +kernel
theorem dX12_digits_2 : decode cX12_digits 2 = .ok (.iload_n 3, 1) := by decide +kernel
theorem dX12_digits_3 : decode cX12_digits 3 = .ok (.aload_n 0, 1) := by decide +kernel
theorem dX12_digits_4 : decode cX12_digits 4 = .ok (.getfield 215, 3) := by decide +kernel
theorem dX12_digits_7 : decode cX12_digits 7 = .ok (.if_icmp .ge 28, 3) := by decide +kernel
theorem dX12_digits_10 : decode cX12_digits 10 = .ok (.aload_n 0, 1) := by decide +kernel
theorem dX12_digits_11 : decode cX12_digits 11 = .ok (.getfield 80, 3) := by decide +kernel
theorem dX12_digits_14 : decode cX12_digits 14 = .ok (.iload_n 3, 1) := by decide +kernel
theorem dX12_digits_15 : decode cX12_digits 15 = .ok (.iaload, 1) := by decide +kernel
theorem dX12_digits_16 : decode cX12_digits 16 = .ok (.invokestatic 221, 3) := by decide +kernel
theorem dX12_digits_19 : decode cX12_digits 19 = .ok (.ifCond .eq 16, 3) := by decide +kernel
theorem dX12_digits_22 : decode cX12_digits 22 = .ok (.iload_n 3, 1) := by decide +kernel
theorem dX12_digits_23 : decode cX12_digits 23 = .ok (.iload_n 1, 1) := by decide +kernel
theorem dX12_digits_24 : decode cX12_digits 24 = .ok (.iconst 4, 1) := by decide +kernel
theorem dX12_digits_25 : decode cX12_digits 25 = .ok (.iadd, 1) := by decide +kernel
theorem dX12_digits_26 : decode cX12_digits 26 = .ok (.if_icmp .ge 9, 3) := by decide +kernel
theorem dX12_digits_29 : decode cX12_digits 29 = .ok (.iinc 3 1, 3) := by decide +kernel
theorem dX12_digits_32 : decode cX12_digits 32 = .ok (.goto (-30), 3) := by decide +kernel
theorem dX12_digits_35 : decode cX12_digits 35 = .ok (.iload_n 3, 1) := by decide +kernel
theorem dX12_digits_36 : decode cX12_digits 36 = .ok (.iload_n 1, 1) := by decide +kernel
theorem dX12_digits_37 : decode cX12_digits 37 = .ok (.if_icmp .le 27, 3) := by decide +kernel
theorem dX12_digits_40 : decode cX12_digits 40 = .ok (.iload_n 3, 1) := by decide +kernel
theorem dX12_digits_41 : decode cX12_digits 41 = .ok (.aload_n 0, 1) := by decide +kernel
theorem dX12_digits_42 : decode cX12_digits 42 = .ok (.getfield 215, 3) := by decide +kernel
theorem dX12_digits_45 : decode cX12_digits 45 = .ok (.if_icmp .ge 19, 3) := by decide +kernel
theorem dX12_digits_48 : decode cX12_digits 48 = .ok (.aload_n 0, 1) := by decide +kernel
theorem dX12_digits_49 : decode cX12_digits 49 = .ok (.getfield 80, 3) := by decide +kernel
theorem dX12_digits_52 : decode cX12_digits 52 = .ok (.iload_n 3, 1) := by decide +kernel
theorem dX12_digits_53 : decode cX12_digits 53 = .ok (.iaload, 1) := by decide +kernel
theorem dX12_digits_54 : decode cX12_digits 54 = .ok (.iload_n 2, 1) := by decide +kernel
theorem dX12_digits_55 : decode cX12_digits 55 = .ok (.if_icmp .ne 9, 3) := by decide +kernel
theorem dX12_digits_58 : decode cX12_digits 58 = .ok (.iload_n 3, 1) := by decide +kernel
theorem dX12_digits_59 : decode cX12_digits 59 = .ok (.iconst 1, 1) := by decide +kernel
theorem dX12_digits_60 : decode cX12_digits 60 = .ok (.iadd, 1) := by decide +kernel
theorem dX12_digits_61 : decode cX12_digits 61 = .ok (.goto 6, 3) := by decide +kernel
theorem dX12_digits_64 : decode cX12_digits 64 = .ok (.iconst (-1), 1) := by decide +kernel
theorem dX12_digits_65 : decode cX12_digits 65 = .ok (.iload_n 3, 1) := by decide +kernel
theorem dX12_digits_66 : decode cX12_digits 66 = .ok (.isub, 1) := by decide +kernel
theorem dX12_digits_67 : decode cX12_digits 67 = .ok (.ireturn, 1) := by decide +kernel
theorem dX12_wrongAt_0 : decode cX12_wrongAt 0 = .ok (.aload_n 0, 1) := by decide +kernel
theorem dX12_wrongAt_1 : decode cX12_wrongAt 1 = .ok (.iconst 0, 1) := by decide +kernel
theorem dX12_wrongAt_2 : decode cX12_wrongAt 2 = .ok (.putfield 218, 3) := by decide +kernel
theorem dX12_wrongAt_5 : decode cX12_wrongAt 5 = .ok (.iconst 0, 1) := by decide +kernel
theorem dX12_wrongAt_6 : decode cX12_wrongAt 6 = .ok (.istore_n 1, 1) := by decide +kernel
theorem dX12_wrongAt_7 : decode cX12_wrongAt 7 = .ok (.iload_n 1, 1) := by decide +kernel
theorem dX12_wrongAt_8 : decode cX12_wrongAt 8 = .ok (.aload_n 0, 1) := by decide +kernel
theorem dX12_wrongAt_9 : decode cX12_wrongAt 9 = .ok (.getfield 215, 3) := by decide +kernel
theorem dX12_wrongAt_12 : decode cX12_wrongAt 12 = .ok (.if_icmp .ge 202, 3) := by decide +kernel
theorem dX12_wrongAt_15 : decode cX12_wrongAt 15 = .ok (.aload_n 0, 1) := by decide +kernel
theorem dX12_wrongAt_16 : decode cX12_wrongAt 16 = .ok (.getfield 80, 3) := by decide +kernel
theorem dX12_wrongAt_19 : decode cX12_wrongAt 19 = .ok (.iload_n 1, 1) := by decide +kernel
theorem dX12_wrongAt_20 : decode cX12_wrongAt 20 = .ok (.iaload, 1) := by decide +kernel
theorem dX12_wrongAt_21 : decode cX12_wrongAt 21 = .ok (.istore_n 2, 1) := by decide +kernel
theorem dX12_wrongAt_22 : decode cX12_wrongAt 22 = .ok (.iload_n 2, 1) := by decide +kernel
theorem dX12_wrongAt_23 : decode cX12_wrongAt 23 = .ok (.bipush 125, 2) := by decide +kernel
theorem dX12_wrongAt_25 : decode cX12_wrongAt 25 = .ok (.if_icmp .ne 28, 3) := by decide +kernel
theorem dX12_wrongAt_28 : decode cX12_wrongAt 28 = .ok (.aload_n 0, 1) := by decide +kernel
theorem dX12_wrongAt_29 : decode cX12_wrongAt 29 = .ok (.getfield 218, 3) := by decide +kernel
theorem dX12_wrongAt_32 : decode cX12_wrongAt 32 = .ok (.ifCond .ne 5, 3) := by decide +kernel
theorem dX12_wrongAt_35 : decode cX12_wrongAt 35 = .ok (.iload_n 1, 1) := by decide +kernel
theorem dX12_wrongAt_36 : decode cX12_wrongAt 36 = .ok (.ireturn, 1) := by decide +kernel
theorem dX12_wrongAt_37 : decode cX12_wrongAt 37 = .ok (.aload_n 0, 1) := by decide +kernel
theorem dX12_wrongAt_38 : decode cX12_wrongAt 38 = .ok (.dup, 1) := by decide +kernel
theorem dX12_wrongAt_39 : decode cX12_wrongAt 39 = .ok (.getfield 218, 3) := by decide +kernel
theorem dX12_wrongAt_42 : decode cX12_wrongAt 42 = .ok (.iconst 1, 1) := by decide +kernel
theorem dX12_wrongAt_43 : decode cX12_wrongAt 43 = .ok (.isub, 1) := by decide +kernel
theorem dX12_wrongAt_44 : decode cX12_wrongAt 44 = .ok (.putfield 218, 3) := by decide +kernel
theorem dX12_wrongAt_47 : decode cX12_wrongAt 47 = .ok (.iinc 1 1, 3) := by decide +kernel
theorem dX12_wrongAt_50 : decode cX12_wrongAt 50 = .ok (.goto (-43), 3) := by decide +kernel
theorem dX12_wrongAt_53 : decode cX12_wrongAt 53 = .ok (.iload_n 2, 1) := by decide +kernel
theorem dX12_wrongAt_54 : decode cX12_wrongAt 54 = .ok (.bipush 123, 2) := by decide +kernel
theorem dX12_wrongAt_56 : decode cX12_wrongAt 56 = .ok (.if_icmp .eq 18, 3) := by decide +kernel
theorem dX12_wrongAt_59 : decode cX12_wrongAt 59 = .ok (.iload_n 2, 1) := by decide +kernel
theorem dX12_wrongAt_60 : decode cX12_wrongAt 60 = .ok (.invokestatic 224, 3) := by decide +kernel
theorem dX12_wrongAt_63 : decode cX12_wrongAt 63 = .ok (.ifCond .ne 5, 3) := by decide +kernel
theorem dX12_wrongAt_66 : decode cX12_wrongAt 66 = .ok (.iload_n 1, 1) := by decide +kernel
theorem dX12_wrongAt_67 : decode cX12_wrongAt 67 = .ok (.ireturn, 1) := by decide +kernel
theorem dX12_wrongAt_68 : decode cX12_wrongAt 68 = .ok (.iinc 1 1, 3) := by decide +kernel
theorem dX12_wrongAt_71 : decode cX12_wrongAt 71 = .ok (.goto (-64), 3) := by decide +kernel
theorem dX12_wrongAt_74 : decode cX12_wrongAt 74 = .ok (.aload_n 0, 1) := by decide +kernel
theorem dX12_wrongAt_75 : decode cX12_wrongAt 75 = .ok (.getfield 218, 3) := by decide +kernel
theorem dX12_wrongAt_78 : decode cX12_wrongAt 78 = .ok (.iconst 4, 1) := by decide +kernel
theorem dX12_wrongAt_79 : decode cX12_wrongAt 79 = .ok (.if_icmp .ne 5, 3) := by decide +kernel
theorem dX12_wrongAt_82 : decode cX12_wrongAt 82 = .ok (.iload_n 1, 1) := by decide +kernel
theorem dX12_wrongAt_83 : decode cX12_wrongAt 83 = .ok (.ireturn, 1) := by decide +kernel
theorem dX12_wrongAt_84 : decode cX12_wrongAt 84 = .ok (.iload_n 1, 1) := by decide +kernel
theorem dX12_wrongAt_85 : decode cX12_wrongAt 85 = .ok (.iconst 1, 1) := by decide +kernel
theorem dX12_wrongAt_86 : decode cX12_wrongAt 86 = .ok (.iadd, 1) := by decide +kernel
theorem dX12_wrongAt_87 : decode cX12_wrongAt 87 = .ok (.aload_n 0, 1) := by decide +kernel
theorem dX12_wrongAt_88 : decode cX12_wrongAt 88 = .ok (.getfield 215, 3) := by decide +kernel
theorem dX12_wrongAt_91 : decode cX12_wrongAt 91 = .ok (.if_icmp .eq 17, 3) := by decide +kernel
theorem dX12_wrongAt_94 : decode cX12_wrongAt 94 = .ok (.aload_n 0, 1) := by decide +kernel
theorem dX12_wrongAt_95 : decode cX12_wrongAt 95 = .ok (.getfield 80, 3) := by decide +kernel
theorem dX12_wrongAt_98 : decode cX12_wrongAt 98 = .ok (.iload_n 1, 1) := by decide +kernel
theorem dX12_wrongAt_99 : decode cX12_wrongAt 99 = .ok (.iconst 1, 1) := by decide +kernel
theorem dX12_wrongAt_100 : decode cX12_wrongAt 100 = .ok (.iadd, 1) := by decide +kernel
theorem dX12_wrongAt_101 : decode cX12_wrongAt 101 = .ok (.iaload, 1) := by decide +kernel
theorem dX12_wrongAt_102 : decode cX12_wrongAt 102 = .ok (.invokestatic 227, 3) := by decide +kernel
theorem dX12_wrongAt_105 : decode cX12_wrongAt 105 = .ok (.ifCond .ne 7, 3) := by decide +kernel
theorem dX12_wrongAt_108 : decode cX12_wrongAt 108 = .ok (.iload_n 1, 1) := by decide +kernel
theorem dX12_wrongAt_109 : decode cX12_wrongAt 109 = .ok (.iconst 1, 1) := by decide +kernel
theorem dX12_wrongAt_110 : decode cX12_wrongAt 110 = .ok (.iadd, 1) := by decide +kernel
theorem dX12_wrongAt_111 : decode cX12_wrongAt 111 = .ok (.ireturn, 1) := by decide +kernel
theorem dX12_wrongAt_112 : decode cX12_wrongAt 112 = .ok (.aload_n 0, 1) := by decide +kernel
theorem dX12_wrongAt_113 : decode cX12_wrongAt 113 = .ok (.getfield 80, 3) := by decide +kernel
theorem dX12_wrongAt_116 : decode cX12_wrongAt 116 = .ok (.iload_n 1, 1) := by decide +kernel
theorem dX12_wrongAt_117 : decode cX12_wrongAt 117 = .ok (.iconst 1, 1) := by decide +kernel
theorem dX12_wrongAt_118 : decode cX12_wrongAt 118 = .ok (.iadd, 1) := by decide +kernel
theorem dX12_wrongAt_119 : decode cX12_wrongAt 119 = .ok (.iaload, 1) := by decide +kernel
theorem dX12_wrongAt_120 : decode cX12_wrongAt 120 = .ok (.istore_n 3, 1) := by decide +kernel
theorem dX12_wrongAt_121 : decode cX12_wrongAt 121 = .ok (.aload_n 0, 1) := by decide +kernel
theorem dX12_wrongAt_122 : decode cX12_wrongAt 122 = .ok (.iload_n 3, 1) := by decide +kernel
theorem dX12_wrongAt_123 : decode cX12_wrongAt 123 = .ok (.invokevirtual 230, 3) := by decide +kernel
theorem dX12_wrongAt_126 : decode cX12_wrongAt 126 = .ok (.ifCond .eq 5, 3) := by decide +kernel
theorem dX12_wrongAt_129 : decode cX12_wrongAt 129 = .ok (.iload_n 1, 1) := by decide +kernel
theorem dX12_wrongAt_130 : decode cX12_wrongAt 130 = .ok (.ireturn, 1) := by decide +kernel
theorem dX12_wrongAt_131 : decode cX12_wrongAt 131 = .ok (.iload_n 3, 1) := by decide +kernel
theorem dX12_wrongAt_132 : decode cX12_wrongAt 132 = .ok (.bipush 115, 2) := by decide +kernel
theorem dX12_wrongAt_134 : decode cX12_wrongAt 134 = .ok (.if_icmp .ne 15, 3) := by decide +kernel
theorem dX12_wrongAt_137 : decode cX12_wrongAt 137 = .ok (.aload_n 0, 1) := by decide +kernel
theorem dX12_wrongAt_138 : decode cX12_wrongAt 138 = .ok (.iload_n 1, 1) := by decide +kernel
theorem dX12_wrongAt_139 : decode cX12_wrongAt 139 = .ok (.iconst 2, 1) := by decide +kernel
theorem dX12_wrongAt_140 : decode cX12_wrongAt 140 = .ok (.iadd, 1) := by decide +kernel
theorem dX12_wrongAt_141 : decode cX12_wrongAt 141 = .ok (.bipush 58, 2) := by decide +kernel
theorem dX12_wrongAt_143 : decode cX12_wrongAt 143 = .ok (.invokevirtual 233, 3) := by decide +kernel
theorem dX12_wrongAt_146 : decode cX12_wrongAt 146 = .ok (.goto 24, 3) := by decide +kernel
theorem dX12_wrongAt_149 : decode cX12_wrongAt 149 = .ok (.iload_n 3, 1) := by decide +kernel
theorem dX12_wrongAt_150 : decode cX12_wrongAt 150 = .ok (.bipush 110, 2) := by decide +kernel
theorem dX12_wrongAt_152 : decode cX12_wrongAt 152 = .ok (.if_icmp .ne 15, 3) := by decide +kernel
theorem dX12_wrongAt_155 : decode cX12_wrongAt 155 = .ok (.aload_n 0, 1) := by decide +kernel
theorem dX12_wrongAt_156 : decode cX12_wrongAt 156 = .ok (.iload_n 1, 1) := by decide +kernel
theorem dX12_wrongAt_157 : decode cX12_wrongAt 157 = .ok (.iconst 2, 1) := by decide +kernel
theorem dX12_wrongAt_158 : decode cX12_wrongAt 158 = .ok (.iadd, 1) := by decide +kernel
theorem dX12_wrongAt_159 : decode cX12_wrongAt 159 = .ok (.bipush 125, 2) := by decide +kernel
theorem dX12_wrongAt_161 : decode cX12_wrongAt 161 = .ok (.invokevirtual 233, 3) := by decide +kernel
theorem dX12_wrongAt_164 : decode cX12_wrongAt 164 = .ok (.goto 6, 3) := by decide +kernel
theorem dX12_wrongAt_167 : decode cX12_wrongAt 167 = .ok (.iload_n 1, 1) := by decide +kernel
theorem dX12_wrongAt_168 : decode cX12_wrongAt 168 = .ok (.iconst 2, 1) := by decide +kernel
theorem dX12_wrongAt_169 : decode cX12_wrongAt 169 = .ok (.iadd, 1) := by decide +kernel
theorem dX12_wrongAt_170 : decode cX12_wrongAt 170 = .ok (.istore 4, 2) := by decide +kernel
theorem dX12_wrongAt_172 : decode cX12_wrongAt 172 = .ok (.iload 4, 2) := by decide +kernel
theorem dX12_wrongAt_174 : decode cX12_wrongAt 174 = .ok (.ifCond .ge 8, 3) := by decide +kernel
theorem dX12_wrongAt_177 : decode cX12_wrongAt 177 = .ok (.iconst (-1), 1) := by decide +kernel
theorem dX12_wrongAt_178 : decode cX12_wrongAt 178 = .ok (.iload 4, 2) := by decide +kernel
theorem dX12_wrongAt_180 : decode cX12_wrongAt 180 = .ok (.isub, 1) := by decide +kernel
theorem dX12_wrongAt_181 : decode cX12_wrongAt 181 = .ok (.ireturn, 1) := by decide +kernel
theorem dX12_wrongAt_182 : decode cX12_wrongAt 182 = .ok (.iload_n 3, 1) := by decide +kernel
theorem dX12_wrongAt_183 : decode cX12_wrongAt 183 = .ok (.bipush 110, 2) := by decide +kernel
theorem dX12_wrongAt_185 : decode cX12_wrongAt 185 = .ok (.if_icmp .eq 23, 3) := by decide +kernel
theorem dX12_wrongAt_188 : decode cX12_wrongAt 188 = .ok (.aload_n 0, 1) := by decide +kernel
theorem dX12_wrongAt_189 : decode cX12_wrongAt 189 = .ok (.getfield 96, 3) := by decide +kernel
theorem dX12_wrongAt_192 : decode cX12_wrongAt 192 = .ok (.aload_n 0, 1) := by decide +kernel
theorem dX12_wrongAt_193 : decode cX12_wrongAt 193 = .ok (.getfield 218, 3) := by decide +kernel
theorem dX12_wrongAt_196 : decode cX12_wrongAt 196 = .ok (.iload_n 3, 1) := by decide +kernel
theorem dX12_wrongAt_197 : decode cX12_wrongAt 197 = .ok (.iastore, 1) := by decide +kernel
theorem dX12_wrongAt_198 : decode cX12_wrongAt 198 = .ok (.aload_n 0, 1) := by decide +kernel
theorem dX12_wrongAt_199 : decode cX12_wrongAt 199 = .ok (.dup, 1) := by decide +kernel
theorem dX12_wrongAt_200 : decode cX12_wrongAt 200 = .ok (.getfield 218, 3) := by decide +kernel
theorem dX12_wrongAt_203 : decode cX12_wrongAt 203 = .ok (.iconst 1, 1) := by decide +kernel
theorem dX12_wrongAt_204 : decode cX12_wrongAt 204 = .ok (.iadd, 1) := by decide +kernel
theorem dX12_wrongAt_205 : decode cX12_wrongAt 205 = .ok (.putfield 218, 3) := by decide +kernel
theorem dX12_wrongAt_208 : decode cX12_wrongAt 208 = .ok (.iload 4, 2) := by decide +kernel
theorem dX12_wrongAt_210 : decode cX12_wrongAt 210 = .ok (.istore_n 1, 1) := by decide +kernel
theorem dX12_wrongAt_211 : decode cX12_wrongAt 211 = .ok (.goto (-204), 3) := by decide +kernel
theorem dX12_wrongAt_214 : decode cX12_wrongAt 214 = .ok (.aload_n 0, 1) := by decide +kernel
theorem dX12_wrongAt_215 : decode cX12_wrongAt 215 = .ok (.getfield 218, 3) := by decide +kernel
theorem dX12_wrongAt_218 : decode cX12_wrongAt 218 = .ok (.ifCond .le 10, 3) := by decide +kernel
theorem dX12_wrongAt_221 : decode cX12_wrongAt 221 = .ok (.aload_n 0, 1) := by decide +kernel
theorem dX12_wrongAt_222 : decode cX12_wrongAt 222 = .ok (.getfield 215, 3) := by decide +kernel
theorem dX12_wrongAt_225 : decode cX12_wrongAt 225 = .ok (.goto 4, 3) := by decide +kernel
theorem dX12_wrongAt_228 : decode cX12_wrongAt 228 = .ok (.iconst (-1), 1) := by decide +kernel
theorem dX12_wrongAt_229 : decode cX12_wrongAt 229 = .ok (.ireturn, 1) := by decide +kernel
theorem dX12_numberAt_0 : decode cX12_numberAt 0 = .ok (.iconst 0, 1) := by decide +kernel
theorem dX12_numberAt_1 : decode cX12_numberAt 1 = .ok (.istore_n 2, 1) := by decide +kernel
theorem dX12_numberAt_2 : decode cX12_numberAt 2 = .ok (.iload_n 1, 1) := by decide +kernel
theorem dX12_numberAt_3 : decode cX12_numberAt 3 = .ok (.istore_n 3, 1) := by decide +kernel
theorem dX12_numberAt_4 : decode cX12_numberAt 4 = .ok (.iload_n 3, 1) := by decide +kernel
theorem dX12_numberAt_5 : decode cX12_numberAt 5 = .ok (.aload_n 0, 1) := by decide +kernel
theorem dX12_numberAt_6 : decode cX12_numberAt 6 = .ok (.arraylength, 1) := by decide +kernel
theorem dX12_numberAt_7 : decode cX12_numberAt 7 = .ok (.if_icmp .ge 30, 3) := by decide +kernel
theorem dX12_numberAt_10 : decode cX12_numberAt 10 = .ok (.aload_n 0, 1) := by decide +kernel
theorem dX12_numberAt_11 : decode cX12_numberAt 11 = .ok (.iload_n 3, 1) := by decide +kernel
theorem dX12_numberAt_12 : decode cX12_numberAt 12 = .ok (.iaload, 1) := by decide +kernel
theorem dX12_numberAt_13 : decode cX12_numberAt 13 = .ok (.invokestatic 221, 3) := by decide +kernel
theorem dX12_numberAt_16 : decode cX12_numberAt 16 = .ok (.ifCond .eq 21, 3) := by decide +kernel
theorem dX12_numberAt_19 : decode cX12_numberAt 19 = .ok (.bipush 10, 2) := by decide +kernel
theorem dX12_numberAt_21 : decode cX12_numberAt 21 = .ok (.iload_n 2, 1) := by decide +kernel
theorem dX12_numberAt_22 : decode cX12_numberAt 22 = .ok (.imul, 1) := by decide +kernel
theorem dX12_numberAt_23 : decode cX12_numberAt 23 = .ok (.aload_n 0, 1) := by decide +kernel
theorem dX12_numberAt_24 : decode cX12_numberAt 24 = .ok (.iload_n 3, 1) := by decide +kernel
theorem dX12_numberAt_25 : decode cX12_numberAt 25 = .ok (.iaload, 1) := by decide +kernel
theorem dX12_numberAt_26 : decode cX12_numberAt 26 = .ok (.iadd, 1) := by decide +kernel
theorem dX12_numberAt_27 : decode cX12_numberAt 27 = .ok (.bipush 48, 2) := by decide +kernel
theorem dX12_numberAt_29 : decode cX12_numberAt 29 = .ok (.isub, 1) := by decide +kernel
theorem dX12_numberAt_30 : decode cX12_numberAt 30 = .ok (.istore_n 2, 1) := by decide +kernel
theorem dX12_numberAt_31 : decode cX12_numberAt 31 = .ok (.iinc 3 1, 3) := by decide +kernel
theorem dX12_numberAt_34 : decode cX12_numberAt 34 = .ok (.goto (-30), 3) := by decide +kernel
theorem dX12_numberAt_37 : decode cX12_numberAt 37 = .ok (.iload_n 2, 1) := by decide +kernel
theorem dX12_numberAt_38 : decode cX12_numberAt 38 = .ok (.ireturn, 1) := by decide +kernel
theorem dX12_text_0 : decode cX12_text 0 = .ok (.aload_n 0, 1) := by decide +kernel
theorem dX12_text_1 : decode cX12_text 1 = .ok (.iload_n 1, 1) := by decide +kernel
theorem dX12_text_2 : decode cX12_text 2 = .ok (.invokevirtual 152, 3) := by decide +kernel
theorem dX12_text_5 : decode cX12_text 5 = .ok (.ifCond .ne 6, 3) := by decide +kernel
theorem dX12_text_8 : decode cX12_text 8 = .ok (.bipush (-2), 2) := by decide +kernel
theorem dX12_text_10 : decode cX12_text 10 = .ok (.ireturn, 1) := by decide +kernel
theorem dX12_text_11 : decode cX12_text 11 = .ok (.aload_n 0, 1) := by decide +kernel
theorem dX12_text_12 : decode cX12_text 12 = .ok (.iconst 0, 1) := by decide +kernel
theorem dX12_text_13 : decode cX12_text 13 = .ok (.putfield 236, 3) := by decide +kernel
theorem dX12_text_16 : decode cX12_text 16 = .ok (.aload_n 0, 1) := by decide +kernel
theorem dX12_text_17 : decode cX12_text 17 = .ok (.aload_n 0, 1) := by decide +kernel
theorem dX12_text_18 : decode cX12_text 18 = .ok (.invokevirtual 239, 3) := by decide +kernel
theorem dX12_text_21 : decode cX12_text 21 = .ok (.putfield 92, 3) := by decide +kernel
theorem dX12_text_24 : decode cX12_text 24 = .ok (.aload_n 0, 1) := by decide +kernel
theorem dX12_text_25 : decode cX12_text 25 = .ok (.getfield 92, 3) := by decide +kernel
theorem dX12_text_28 : decode cX12_text 28 = .ok (.ifCond .lt 8, 3) := by decide +kernel
theorem dX12_text_31 : decode cX12_text 31 = .ok (.aload_n 0, 1) := by decide +kernel
theorem dX12_text_32 : decode cX12_text 32 = .ok (.iconst 1, 1) := by decide +kernel
theorem dX12_text_33 : decode cX12_text 33 = .ok (.putfield 236, 3) := by decide +kernel
theorem dX12_text_36 : decode cX12_text 36 = .ok (.iconst 0, 1) := by decide +kernel
theorem dX12_text_37 : decode cX12_text 37 = .ok (.istore_n 2, 1) := by decide +kernel
theorem dX12_text_38 : decode cX12_text 38 = .ok (.iload_n 2, 1) := by decide +kernel
theorem dX12_text_39 : decode cX12_text 39 = .ok (.iconst 1, 1) := by decide +kernel
theorem dX12_text_40 : decode cX12_text 40 = .ok (.iadd, 1) := by decide +kernel
theorem dX12_text_41 : decode cX12_text 41 = .ok (.aload_n 0, 1) := by decide +kernel
theorem dX12_text_42 : decode cX12_text 42 = .ok (.getfield 215, 3) := by decide +kernel
theorem dX12_text_45 : decode cX12_text 45 = .ok (.if_icmp .ge 70, 3) := by decide +kernel
theorem dX12_text_48 : decode cX12_text 48 = .ok (.aload_n 0, 1) := by decide +kernel
theorem dX12_text_49 : decode cX12_text 49 = .ok (.getfield 236, 3) := by decide +kernel
theorem dX12_text_52 : decode cX12_text 52 = .ok (.ifCond .ne 63, 3) := by decide +kernel
theorem dX12_text_55 : decode cX12_text 55 = .ok (.aload_n 0, 1) := by decide +kernel
theorem dX12_text_56 : decode cX12_text 56 = .ok (.getfield 80, 3) := by decide +kernel
theorem dX12_text_59 : decode cX12_text 59 = .ok (.iload_n 2, 1) := by decide +kernel
theorem dX12_text_60 : decode cX12_text 60 = .ok (.iaload, 1) := by decide +kernel
theorem dX12_text_61 : decode cX12_text 61 = .ok (.bipush 123, 2) := by decide +kernel
theorem dX12_text_63 : decode cX12_text 63 = .ok (.if_icmp .ne 46, 3) := by decide +kernel
theorem dX12_text_66 : decode cX12_text 66 = .ok (.aload_n 0, 1) := by decide +kernel
theorem dX12_text_67 : decode cX12_text 67 = .ok (.getfield 80, 3) := by decide +kernel
theorem dX12_text_70 : decode cX12_text 70 = .ok (.iload_n 2, 1) := by decide +kernel
theorem dX12_text_71 : decode cX12_text 71 = .ok (.iconst 1, 1) := by decide +kernel
theorem dX12_text_72 : decode cX12_text 72 = .ok (.iadd, 1) := by decide +kernel
theorem dX12_text_73 : decode cX12_text 73 = .ok (.iaload, 1) := by decide +kernel
theorem dX12_text_74 : decode cX12_text 74 = .ok (.bipush 110, 2) := by decide +kernel
theorem dX12_text_76 : decode cX12_text 76 = .ok (.if_icmp .ne 33, 3) := by decide +kernel
theorem dX12_text_79 : decode cX12_text 79 = .ok (.aload_n 0, 1) := by decide +kernel
theorem dX12_text_80 : decode cX12_text 80 = .ok (.getfield 80, 3) := by decide +kernel
theorem dX12_text_83 : decode cX12_text 83 = .ok (.iload_n 2, 1) := by decide +kernel
theorem dX12_text_84 : decode cX12_text 84 = .ok (.iconst 2, 1) := by decide +kernel
theorem dX12_text_85 : decode cX12_text 85 = .ok (.iadd, 1) := by decide +kernel
theorem dX12_text_86 : decode cX12_text 86 = .ok (.invokestatic 243, 3) := by decide +kernel
theorem dX12_text_89 : decode cX12_text 89 = .ok (.aload_n 0, 1) := by decide +kernel
theorem dX12_text_90 : decode cX12_text 90 = .ok (.getfield 142, 3) := by decide +kernel
theorem dX12_text_93 : decode cX12_text 93 = .ok (.if_icmp .ge 6, 3) := by decide +kernel
theorem dX12_text_96 : decode cX12_text 96 = .ok (.goto 13, 3) := by decide +kernel
theorem dX12_text_99 : decode cX12_text 99 = .ok (.aload_n 0, 1) := by decide +kernel
theorem dX12_text_100 : decode cX12_text 100 = .ok (.iconst 2, 1) := by decide +kernel
theorem dX12_text_101 : decode cX12_text 101 = .ok (.putfield 236, 3) := by decide +kernel
theorem dX12_text_104 : decode cX12_text 104 = .ok (.aload_n 0, 1) := by decide +kernel
theorem dX12_text_105 : decode cX12_text 105 = .ok (.iload_n 2, 1) := by decide +kernel
theorem dX12_text_106 : decode cX12_text 106 = .ok (.putfield 92, 3) := by decide +kernel
theorem dX12_text_109 : decode cX12_text 109 = .ok (.iinc 2 1, 3) := by decide +kernel
theorem dX12_text_112 : decode cX12_text 112 = .ok (.goto (-74), 3) := by decide +kernel
theorem dX12_text_115 : decode cX12_text 115 = .ok (.aload_n 0, 1) := by decide +kernel
theorem dX12_text_116 : decode cX12_text 116 = .ok (.getfield 215, 3) := by decide +kernel
theorem dX12_text_119 : decode cX12_text 119 = .ok (.istore_n 2, 1) := by decide +kernel
theorem dX12_text_120 : decode cX12_text 120 = .ok (.aload_n 0, 1) := by decide +kernel
theorem dX12_text_121 : decode cX12_text 121 = .ok (.iconst 0, 1) := by decide +kernel
theorem dX12_text_122 : decode cX12_text 122 = .ok (.putfield 215, 3) := by decide +kernel
theorem dX12_text_125 : decode cX12_text 125 = .ok (.aload_n 0, 1) := by decide +kernel
theorem dX12_text_126 : decode cX12_text 126 = .ok (.getfield 236, 3) := by decide +kernel
theorem dX12_text_129 : decode cX12_text 129 = .ok (.ifCond .le 11, 3) := by decide +kernel
theorem dX12_text_132 : decode cX12_text 132 = .ok (.bipush (-20), 2) := by decide +kernel
theorem dX12_text_134 : decode cX12_text 134 = .ok (.aload_n 0, 1) := by decide +kernel
theorem dX12_text_135 : decode cX12_text 135 = .ok (.getfield 236, 3) := by decide +kernel
theorem dX12_text_138 : decode cX12_text 138 = .ok (.isub, 1) := by decide +kernel
theorem dX12_text_139 : decode cX12_text 139 = .ok (.ireturn, 1) := by decide +kernel
theorem dX12_text_140 : decode cX12_text 140 = .ok (.aload_n 0, 1) := by decide +kernel
theorem dX12_text_141 : decode cX12_text 141 = .ok (.getfield 50, 3) := by decide +kernel
theorem dX12_text_144 : decode cX12_text 144 = .ok (.iload_n 1, 1) := by decide +kernel
theorem dX12_text_145 : decode cX12_text 145 = .ok (.iload_n 2, 1) := by decide +kernel
theorem dX12_text_146 : decode cX12_text 146 = .ok (.iastore, 1) := by decide +kernel
theorem dX12_text_147 : decode cX12_text 147 = .ok (.iconst 0, 1) := by decide +kernel
theorem dX12_text_148 : decode cX12_text 148 = .ok (.istore_n 3, 1) := by decide +kernel
theorem dX12_text_149 : decode cX12_text 149 = .ok (.iload_n 3, 1) := by decide +kernel
theorem dX12_text_150 : decode cX12_text 150 = .ok (.iload_n 2, 1) := by decide +kernel
theorem dX12_text_151 : decode cX12_text 151 = .ok (.if_icmp .ge 27, 3) := by decide +kernel
theorem dX12_text_154 : decode cX12_text 154 = .ok (.aload_n 0, 1) := by decide +kernel
theorem dX12_text_155 : decode cX12_text 155 = .ok (.getfield 53, 3) := by decide +kernel
theorem dX12_text_158 : decode cX12_text 158 = .ok (.sipush 160, 3) := by decide +kernel
theorem dX12_text_161 : decode cX12_text 161 = .ok (.iload_n 1, 1) := by decide +kernel
theorem dX12_text_162 : decode cX12_text 162 = .ok (.imul, 1) := by decide +kernel
theorem dX12_text_163 : decode cX12_text 163 = .ok (.iload_n 3, 1) := by decide +kernel
theorem dX12_text_164 : decode cX12_text 164 = .ok (.iadd, 1) := by decide +kernel
theorem dX12_text_165 : decode cX12_text 165 = .ok (.aload_n 0, 1) := by decide +kernel
theorem dX12_text_166 : decode cX12_text 166 = .ok (.getfield 80, 3) := by decide +kernel
theorem dX12_text_169 : decode cX12_text 169 = .ok (.iload_n 3, 1) := by decide +kernel
theorem dX12_text_170 : decode cX12_text 170 = .ok (.iaload, 1) := by decide +kernel
theorem dX12_text_171 : decode cX12_text 171 = .ok (.iastore, 1) := by decide +kernel
theorem dX12_text_172 : decode cX12_text 172 = .ok (.iinc 3 1, 3) := by decide +kernel
theorem dX12_text_175 : decode cX12_text 175 = .ok (.goto (-26), 3) := by decide +kernel
theorem dX12_text_178 : decode cX12_text 178 = .ok (.iload_n 2, 1) := by decide +kernel
theorem dX12_text_179 : decode cX12_text 179 = .ok (.ireturn, 1) := by decide +kernel
theorem dX12_fault_0 : decode cX12_fault 0 = .ok (.iload_n 1, 1) := by decide +kernel
theorem dX12_fault_1 : decode cX12_fault 1 = .ok (.ifCond .ne 10, 3) := by decide +kernel
theorem dX12_fault_4 : decode cX12_fault 4 = .ok (.aload_n 0, 1) := by decide +kernel
theorem dX12_fault_5 : decode cX12_fault 5 = .ok (.getfield 236, 3) := by decide +kernel
theorem dX12_fault_8 : decode cX12_fault 8 = .ok (.goto 17, 3) := by decide +kernel
theorem dX12_fault_11 : decode cX12_fault 11 = .ok (.iload_n 1, 1) := by decide +kernel
theorem dX12_fault_12 : decode cX12_fault 12 = .ok (.iconst 1, 1) := by decide +kernel
theorem dX12_fault_13 : decode cX12_fault 13 = .ok (.if_icmp .ne 10, 3) := by decide +kernel
theorem dX12_fault_16 : decode cX12_fault 16 = .ok (.aload_n 0, 1) := by decide +kernel
theorem dX12_fault_17 : decode cX12_fault 17 = .ok (.getfield 92, 3) := by decide +kernel
theorem dX12_fault_20 : decode cX12_fault 20 = .ok (.goto 5, 3) := by decide +kernel
theorem dX12_fault_23 : decode cX12_fault 23 = .ok (.bipush (-2), 2) := by decide +kernel
theorem dX12_fault_25 : decode cX12_fault 25 = .ok (.ireturn, 1) := by decide +kernel
theorem dX12_puts_0 : decode cX12_puts 0 = .ok (.aload_n 0, 1) := by decide +kernel
theorem dX12_puts_1 : decode cX12_puts 1 = .ok (.getfield 99, 3) := by decide +kernel
theorem dX12_puts_4 : decode cX12_puts 4 = .ok (.aload_n 0, 1) := by decide +kernel
theorem dX12_puts_5 : decode cX12_puts 5 = .ok (.getfield 247, 3) := by decide +kernel
theorem dX12_puts_8 : decode cX12_puts 8 = .ok (.iload_n 1, 1) := by decide +kernel
theorem dX12_puts_9 : decode cX12_puts 9 = .ok (.iastore, 1) := by decide +kernel
theorem dX12_puts_10 : decode cX12_puts 10 = .ok (.aload_n 0, 1) := by decide +kernel
theorem dX12_puts_11 : decode cX12_puts 11 = .ok (.dup, 1) := by decide +kernel
theorem dX12_puts_12 : decode cX12_puts 12 = .ok (.getfield 247, 3) := by decide +kernel
theorem dX12_puts_15 : decode cX12_puts 15 = .ok (.iconst 1, 1) := by decide +kernel
theorem dX12_puts_16 : decode cX12_puts 16 = .ok (.iadd, 1) := by decide +kernel
theorem dX12_puts_17 : decode cX12_puts 17 = .ok (.putfield 247, 3) := by decide +kernel
theorem dX12_puts_20 : decode cX12_puts 20 = .ok (.return_, 1) := by decide +kernel
theorem dX12_number_0 : decode cX12_number 0 = .ok (.iconst 1, 1) := by decide +kernel
theorem dX12_number_1 : decode cX12_number 1 = .ok (.istore_n 2, 1) := by decide +kernel
theorem dX12_number_2 : decode cX12_number 2 = .ok (.iload_n 1, 1) := by decide +kernel
theorem dX12_number_3 : decode cX12_number 3 = .ok (.iload_n 2, 1) := by decide +kernel
theorem dX12_number_4 : decode cX12_number 4 = .ok (.idiv, 1) := by decide +kernel
theorem dX12_number_5 : decode cX12_number 5 = .ok (.bipush 9, 2) := by decide +kernel
theorem dX12_number_7 : decode cX12_number 7 = .ok (.if_icmp .le 11, 3) := by decide +kernel
theorem dX12_number_10 : decode cX12_number 10 = .ok (.iload_n 2, 1) := by decide +kernel
theorem dX12_number_11 : decode cX12_number 11 = .ok (.bipush 10, 2) := by decide +kernel
theorem dX12_number_13 : decode cX12_number 13 = .ok (.imul, 1) := by decide +kernel
theorem dX12_number_14 : decode cX12_number 14 = .ok (.istore_n 2, 1) := by decide +kernel
theorem dX12_number_15 : decode cX12_number 15 = .ok (.goto (-13), 3) := by decide +kernel
theorem dX12_number_18 : decode cX12_number 18 = .ok (.iload_n 2, 1) := by decide +kernel
theorem dX12_number_19 : decode cX12_number 19 = .ok (.istore_n 3, 1) := by decide +kernel
theorem dX12_number_20 : decode cX12_number 20 = .ok (.iload_n 3, 1) := by decide +kernel
theorem dX12_number_21 : decode cX12_number 21 = .ok (.ifCond .le 24, 3) := by decide +kernel
theorem dX12_number_24 : decode cX12_number 24 = .ok (.aload_n 0, 1) := by decide +kernel
theorem dX12_number_25 : decode cX12_number 25 = .ok (.bipush 48, 2) := by decide +kernel
theorem dX12_number_27 : decode cX12_number 27 = .ok (.iload_n 1, 1) := by decide +kernel
theorem dX12_number_28 : decode cX12_number 28 = .ok (.iload_n 3, 1) := by decide +kernel
theorem dX12_number_29 : decode cX12_number 29 = .ok (.idiv, 1) := by decide +kernel
theorem dX12_number_30 : decode cX12_number 30 = .ok (.bipush 10, 2) := by decide +kernel
theorem dX12_number_32 : decode cX12_number 32 = .ok (.irem, 1) := by decide +kernel
theorem dX12_number_33 : decode cX12_number 33 = .ok (.iadd, 1) := by decide +kernel
theorem dX12_number_34 : decode cX12_number 34 = .ok (.invokevirtual 250, 3) := by decide +kernel
theorem dX12_number_37 : decode cX12_number 37 = .ok (.iload_n 3, 1) := by decide +kernel
theorem dX12_number_38 : decode cX12_number 38 = .ok (.bipush 10, 2) := by decide +kernel
theorem dX12_number_40 : decode cX12_number 40 = .ok (.idiv, 1) := by decide +kernel
theorem dX12_number_41 : decode cX12_number 41 = .ok (.istore_n 3, 1) := by decide +kernel
theorem dX12_number_42 : decode cX12_number 42 = .ok (.goto (-22), 3) := by decide +kernel
theorem dX12_number_45 : decode cX12_number 45 = .ok (.return_, 1) := by decide +kernel
theorem dX12_prints_0 : decode cX12_prints 0 = .ok (.aload_n 0, 1) := by decide +kernel
theorem dX12_prints_1 : decode cX12_prints 1 = .ok (.getfield 50, 3) := by decide +kernel
theorem dX12_prints_4 : decode cX12_prints 4 = .ok (.iload_n 1, 1) := by decide +kernel
theorem dX12_prints_5 : decode cX12_prints 5 = .ok (.iaload, 1) := by decide +kernel
theorem dX12_prints_6 : decode cX12_prints 6 = .ok (.istore 4, 2) := by decide +kernel
theorem dX12_prints_8 : decode cX12_prints 8 = .ok (.iconst 0, 1) := by decide +kernel
theorem dX12_prints_9 : decode cX12_prints 9 = .ok (.istore 5, 2) := by decide +kernel
theorem dX12_prints_11 : decode cX12_prints 11 = .ok (.iload 5, 2) := by decide +kernel
theorem dX12_prints_13 : decode cX12_prints 13 = .ok (.sipush 160, 3) := by decide +kernel
theorem dX12_prints_16 : decode cX12_prints 16 = .ok (.if_icmp .gt 40, 3) := by decide +kernel
theorem dX12_prints_19 : decode cX12_prints 19 = .ok (.aload_n 0, 1) := by decide +kernel
theorem dX12_prints_20 : decode cX12_prints 20 = .ok (.getfield 102, 3) := by decide +kernel
theorem dX12_prints_23 : decode cX12_prints 23 = .ok (.iload 5, 2) := by decide +kernel
theorem dX12_prints_25 : decode cX12_prints 25 = .ok (.iload 5, 2) := by decide +kernel
theorem dX12_prints_27 : decode cX12_prints 27 = .ok (.iload 4, 2) := by decide +kernel
theorem dX12_prints_29 : decode cX12_prints 29 = .ok (.if_icmp .ge 19, 3) := by decide +kernel
theorem dX12_prints_32 : decode cX12_prints 32 = .ok (.aload_n 0, 1) := by decide +kernel
theorem dX12_prints_33 : decode cX12_prints 33 = .ok (.getfield 53, 3) := by decide +kernel
theorem dX12_prints_36 : decode cX12_prints 36 = .ok (.sipush 160, 3) := by decide +kernel
theorem dX12_prints_39 : decode cX12_prints 39 = .ok (.iload_n 1, 1) := by decide +kernel
theorem dX12_prints_40 : decode cX12_prints 40 = .ok (.imul, 1) := by decide +kernel
theorem dX12_prints_41 : decode cX12_prints 41 = .ok (.iload 5, 2) := by decide +kernel
theorem dX12_prints_43 : decode cX12_prints 43 = .ok (.iadd, 1) := by decide +kernel
theorem dX12_prints_44 : decode cX12_prints 44 = .ok (.iaload, 1) := by decide +kernel
theorem dX12_prints_45 : decode cX12_prints 45 = .ok (.goto 4, 3) := by decide +kernel
theorem dX12_prints_48 : decode cX12_prints 48 = .ok (.iconst 0, 1) := by decide +kernel
theorem dX12_prints_49 : decode cX12_prints 49 = .ok (.iastore, 1) := by decide +kernel
theorem dX12_prints_50 : decode cX12_prints 50 = .ok (.iinc 5 1, 3) := by decide +kernel
theorem dX12_prints_53 : decode cX12_prints 53 = .ok (.goto (-42), 3) := by decide +kernel
theorem dX12_prints_56 : decode cX12_prints 56 = .ok (.aload_n 0, 1) := by decide +kernel
theorem dX12_prints_57 : decode cX12_prints 57 = .ok (.iconst 0, 1) := by decide +kernel
theorem dX12_prints_58 : decode cX12_prints 58 = .ok (.putfield 247, 3) := by decide +kernel
theorem dX12_prints_61 : decode cX12_prints 61 = .ok (.aload_n 0, 1) := by decide +kernel
theorem dX12_prints_62 : decode cX12_prints 62 = .ok (.iconst 0, 1) := by decide +kernel
theorem dX12_prints_63 : decode cX12_prints 63 = .ok (.putfield 218, 3) := by decide +kernel
theorem dX12_prints_66 : decode cX12_prints 66 = .ok (.iconst 0, 1) := by decide +kernel
theorem dX12_prints_67 : decode cX12_prints 67 = .ok (.istore 5, 2) := by decide +kernel
theorem dX12_prints_69 : decode cX12_prints 69 = .ok (.iconst 0, 1) := by decide +kernel
theorem dX12_prints_70 : decode cX12_prints 70 = .ok (.istore 6, 2) := by decide +kernel
theorem dX12_prints_72 : decode cX12_prints 72 = .ok (.iload 6, 2) := by decide +kernel
theorem dX12_prints_74 : decode cX12_prints 74 = .ok (.iload 4, 2) := by decide +kernel
theorem dX12_prints_76 : decode cX12_prints 76 = .ok (.if_icmp .ge 308, 3) := by decide +kernel
theorem dX12_prints_79 : decode cX12_prints 79 = .ok (.aload_n 0, 1) := by decide +kernel
theorem dX12_prints_80 : decode cX12_prints 80 = .ok (.getfield 102, 3) := by decide +kernel
theorem dX12_prints_83 : decode cX12_prints 83 = .ok (.iload 6, 2) := by decide +kernel
theorem dX12_prints_85 : decode cX12_prints 85 = .ok (.iaload, 1) := by decide +kernel
theorem dX12_prints_86 : decode cX12_prints 86 = .ok (.istore 7, 2) := by decide +kernel
theorem dX12_prints_88 : decode cX12_prints 88 = .ok (.iload 7, 2) := by decide +kernel
theorem dX12_prints_90 : decode cX12_prints 90 = .ok (.bipush 125, 2) := by decide +kernel
theorem dX12_prints_92 : decode cX12_prints 92 = .ok (.if_icmp .ne 57, 3) := by decide +kernel
theorem dX12_prints_95 : decode cX12_prints 95 = .ok (.aload_n 0, 1) := by decide +kernel
theorem dX12_prints_96 : decode cX12_prints 96 = .ok (.dup, 1) := by decide +kernel
theorem dX12_prints_97 : decode cX12_prints 97 = .ok (.getfield 218, 3) := by decide +kernel
theorem dX12_prints_100 : decode cX12_prints 100 = .ok (.iconst 1, 1) := by decide +kernel
theorem dX12_prints_101 : decode cX12_prints 101 = .ok (.isub, 1) := by decide +kernel
theorem dX12_prints_102 : decode cX12_prints 102 = .ok (.putfield 218, 3) := by decide +kernel
theorem dX12_prints_105 : decode cX12_prints 105 = .ok (.iload 5, 2) := by decide +kernel
theorem dX12_prints_107 : decode cX12_prints 107 = .ok (.aload_n 0, 1) := by decide +kernel
theorem dX12_prints_108 : decode cX12_prints 108 = .ok (.getfield 218, 3) := by decide +kernel
theorem dX12_prints_111 : decode cX12_prints 111 = .ok (.if_icmp .le 9, 3) := by decide +kernel
theorem dX12_prints_114 : decode cX12_prints 114 = .ok (.iconst 0, 1) := by decide +kernel
theorem dX12_prints_115 : decode cX12_prints 115 = .ok (.istore 5, 2) := by decide +kernel
theorem dX12_prints_117 : decode cX12_prints 117 = .ok (.goto 26, 3) := by decide +kernel
theorem dX12_prints_120 : decode cX12_prints 120 = .ok (.iload 5, 2) := by decide +kernel
theorem dX12_prints_122 : decode cX12_prints 122 = .ok (.ifCond .ne 21, 3) := by decide +kernel
theorem dX12_prints_125 : decode cX12_prints 125 = .ok (.iload_n 3, 1) := by decide +kernel
theorem dX12_prints_126 : decode cX12_prints 126 = .ok (.iconst 1, 1) := by decide +kernel
theorem dX12_prints_127 : decode cX12_prints 127 = .ok (.if_icmp .ne 16, 3) := by decide +kernel
theorem dX12_prints_130 : decode cX12_prints 130 = .ok (.aload_n 0, 1) := by decide +kernel
theorem dX12_prints_131 : decode cX12_prints 131 = .ok (.aload_n 0, 1) := by decide +kernel
theorem dX12_prints_132 : decode cX12_prints 132 = .ok (.getfield 96, 3) := by decide +kernel
theorem dX12_prints_135 : decode cX12_prints 135 = .ok (.aload_n 0, 1) := by decide +kernel
theorem dX12_prints_136 : decode cX12_prints 136 = .ok (.getfield 218, 3) := by decide +kernel
theorem dX12_prints_139 : decode cX12_prints 139 = .ok (.iaload, 1) := by decide +kernel
theorem dX12_prints_140 : decode cX12_prints 140 = .ok (.invokevirtual 254, 3) := by decide +kernel
theorem dX12_prints_143 : decode cX12_prints 143 = .ok (.iinc 6 1, 3) := by decide +kernel
theorem dX12_prints_146 : decode cX12_prints 146 = .ok (.goto (-74), 3) := by decide +kernel
theorem dX12_prints_149 : decode cX12_prints 149 = .ok (.iload 7, 2) := by decide +kernel
theorem dX12_prints_151 : decode cX12_prints 151 = .ok (.bipush 123, 2) := by decide +kernel
theorem dX12_prints_153 : decode cX12_prints 153 = .ok (.if_icmp .eq 20, 3) := by decide +kernel
theorem dX12_prints_156 : decode cX12_prints 156 = .ok (.iload 5, 2) := by decide +kernel
theorem dX12_prints_158 : decode cX12_prints 158 = .ok (.ifCond .ne 9, 3) := by decide +kernel
theorem dX12_prints_161 : decode cX12_prints 161 = .ok (.aload_n 0, 1) := by decide +kernel
theorem dX12_prints_162 : decode cX12_prints 162 = .ok (.iload 7, 2) := by decide +kernel
theorem dX12_prints_164 : decode cX12_prints 164 = .ok (.invokevirtual 250, 3) := by decide +kernel
theorem dX12_prints_167 : decode cX12_prints 167 = .ok (.iinc 6 1, 3) := by decide +kernel
theorem dX12_prints_170 : decode cX12_prints 170 = .ok (.goto (-98), 3) := by decide +kernel
theorem dX12_prints_173 : decode cX12_prints 173 = .ok (.aload_n 0, 1) := by decide +kernel
theorem dX12_prints_174 : decode cX12_prints 174 = .ok (.getfield 102, 3) := by decide +kernel
theorem dX12_prints_177 : decode cX12_prints 177 = .ok (.iload 6, 2) := by decide +kernel
theorem dX12_prints_179 : decode cX12_prints 179 = .ok (.iconst 1, 1) := by decide +kernel
theorem dX12_prints_180 : decode cX12_prints 180 = .ok (.iadd, 1) := by decide +kernel
theorem dX12_prints_181 : decode cX12_prints 181 = .ok (.iaload, 1) := by decide +kernel
theorem dX12_prints_182 : decode cX12_prints 182 = .ok (.istore 8, 2) := by decide +kernel
theorem dX12_prints_184 : decode cX12_prints 184 = .ok (.iinc 6 2, 3) := by decide +kernel
theorem dX12_prints_187 : decode cX12_prints 187 = .ok (.aload_n 0, 1) := by decide +kernel
theorem dX12_prints_188 : decode cX12_prints 188 = .ok (.getfield 102, 3) := by decide +kernel
theorem dX12_prints_191 : decode cX12_prints 191 = .ok (.iload 6, 2) := by decide +kernel
theorem dX12_prints_193 : decode cX12_prints 193 = .ok (.invokestatic 243, 3) := by decide +kernel
theorem dX12_prints_196 : decode cX12_prints 196 = .ok (.istore 9, 2) := by decide +kernel
theorem dX12_prints_198 : decode cX12_prints 198 = .ok (.iload 8, 2) := by decide +kernel
theorem dX12_prints_200 : decode cX12_prints 200 = .ok (.bipush 115, 2) := by decide +kernel
theorem dX12_prints_202 : decode cX12_prints 202 = .ok (.if_icmp .eq 10, 3) := by decide +kernel
theorem dX12_prints_205 : decode cX12_prints 205 = .ok (.iload 8, 2) := by decide +kernel
theorem dX12_prints_207 : decode cX12_prints 207 = .ok (.bipush 110, 2) := by decide +kernel
theorem dX12_prints_209 : decode cX12_prints 209 = .ok (.if_icmp .ne 22, 3) := by decide +kernel
theorem dX12_prints_212 : decode cX12_prints 212 = .ok (.aload_n 0, 1) := by decide +kernel
theorem dX12_prints_213 : decode cX12_prints 213 = .ok (.getfield 102, 3) := by decide +kernel
theorem dX12_prints_216 : decode cX12_prints 216 = .ok (.iload 6, 2) := by decide +kernel
theorem dX12_prints_218 : decode cX12_prints 218 = .ok (.iaload, 1) := by decide +kernel
theorem dX12_prints_219 : decode cX12_prints 219 = .ok (.invokestatic 221, 3) := by decide +kernel
theorem dX12_prints_222 : decode cX12_prints 222 = .ok (.ifCond .eq 9, 3) := by decide +kernel
theorem dX12_prints_225 : decode cX12_prints 225 = .ok (.iinc 6 1, 3) := by decide +kernel
theorem dX12_prints_228 : decode cX12_prints 228 = .ok (.goto (-16), 3) := by decide +kernel
theorem dX12_prints_231 : decode cX12_prints 231 = .ok (.iload 8, 2) := by decide +kernel
theorem dX12_prints_233 : decode cX12_prints 233 = .ok (.bipush 115, 2) := by decide +kernel
theorem dX12_prints_235 : decode cX12_prints 235 = .ok (.if_icmp .eq 10, 3) := by decide +kernel
theorem dX12_prints_238 : decode cX12_prints 238 = .ok (.iload 8, 2) := by decide +kernel
theorem dX12_prints_240 : decode cX12_prints 240 = .ok (.bipush 110, 2) := by decide +kernel
theorem dX12_prints_242 : decode cX12_prints 242 = .ok (.if_icmp .ne 6, 3) := by decide +kernel
theorem dX12_prints_245 : decode cX12_prints 245 = .ok (.iinc 6 1, 3) := by decide +kernel
theorem dX12_prints_248 : decode cX12_prints 248 = .ok (.iload 8, 2) := by decide +kernel
theorem dX12_prints_250 : decode cX12_prints 250 = .ok (.bipush 110, 2) := by decide +kernel
theorem dX12_prints_252 : decode cX12_prints 252 = .ok (.if_icmp .ne 36, 3) := by decide +kernel
theorem dX12_prints_255 : decode cX12_prints 255 = .ok (.iload 5, 2) := by decide +kernel
theorem dX12_prints_257 : decode cX12_prints 257 = .ok (.ifCond .gt (-185), 3) := by decide +kernel
theorem dX12_prints_260 : decode cX12_prints 260 = .ok (.iload_n 3, 1) := by decide +kernel
theorem dX12_prints_261 : decode cX12_prints 261 = .ok (.ifCond .ne 6, 3) := by decide +kernel
theorem dX12_prints_264 : decode cX12_prints 264 = .ok (.goto (-192), 3) := by decide +kernel
theorem dX12_prints_267 : decode cX12_prints 267 = .ok (.aload_n 0, 1) := by decide +kernel
theorem dX12_prints_268 : decode cX12_prints 268 = .ok (.bipush 40, 2) := by decide +kernel
theorem dX12_prints_270 : decode cX12_prints 270 = .ok (.invokevirtual 250, 3) := by decide +kernel
theorem dX12_prints_273 : decode cX12_prints 273 = .ok (.aload_n 0, 1) := by decide +kernel
theorem dX12_prints_274 : decode cX12_prints 274 = .ok (.iload 9, 2) := by decide +kernel
theorem dX12_prints_276 : decode cX12_prints 276 = .ok (.invokevirtual 257, 3) := by decide +kernel
theorem dX12_prints_279 : decode cX12_prints 279 = .ok (.aload_n 0, 1) := by decide +kernel
theorem dX12_prints_280 : decode cX12_prints 280 = .ok (.bipush 41, 2) := by decide +kernel
theorem dX12_prints_282 : decode cX12_prints 282 = .ok (.invokevirtual 250, 3) := by decide +kernel
theorem dX12_prints_285 : decode cX12_prints 285 = .ok (.goto (-213), 3) := by decide +kernel
theorem dX12_prints_288 : decode cX12_prints 288 = .ok (.aload_n 0, 1) := by decide +kernel
theorem dX12_prints_289 : decode cX12_prints 289 = .ok (.getfield 96, 3) := by decide +kernel
theorem dX12_prints_292 : decode cX12_prints 292 = .ok (.aload_n 0, 1) := by decide +kernel
theorem dX12_prints_293 : decode cX12_prints 293 = .ok (.getfield 218, 3) := by decide +kernel
theorem dX12_prints_296 : decode cX12_prints 296 = .ok (.iload 8, 2) := by decide +kernel
theorem dX12_prints_298 : decode cX12_prints 298 = .ok (.iastore, 1) := by decide +kernel
theorem dX12_prints_299 : decode cX12_prints 299 = .ok (.aload_n 0, 1) := by decide +kernel
theorem dX12_prints_300 : decode cX12_prints 300 = .ok (.dup, 1) := by decide +kernel
theorem dX12_prints_301 : decode cX12_prints 301 = .ok (.getfield 218, 3) := by decide +kernel
theorem dX12_prints_304 : decode cX12_prints 304 = .ok (.iconst 1, 1) := by decide +kernel
theorem dX12_prints_305 : decode cX12_prints 305 = .ok (.iadd, 1) := by decide +kernel
theorem dX12_prints_306 : decode cX12_prints 306 = .ok (.putfield 218, 3) := by decide +kernel
theorem dX12_prints_309 : decode cX12_prints 309 = .ok (.iload 5, 2) := by decide +kernel
theorem dX12_prints_311 : decode cX12_prints 311 = .ok (.ifCond .le 6, 3) := by decide +kernel
theorem dX12_prints_314 : decode cX12_prints 314 = .ok (.goto (-242), 3) := by decide +kernel
theorem dX12_prints_317 : decode cX12_prints 317 = .ok (.iload 8, 2) := by decide +kernel
theorem dX12_prints_319 : decode cX12_prints 319 = .ok (.bipush 115, 2) := by decide +kernel
theorem dX12_prints_321 : decode cX12_prints 321 = .ok (.if_icmp .ne 29, 3) := by decide +kernel
theorem dX12_prints_324 : decode cX12_prints 324 = .ok (.iload 9, 2) := by decide +kernel
theorem dX12_prints_326 : decode cX12_prints 326 = .ok (.iload_n 2, 1) := by decide +kernel
theorem dX12_prints_327 : decode cX12_prints 327 = .ok (.if_icmp .le 23, 3) := by decide +kernel
theorem dX12_prints_330 : decode cX12_prints 330 = .ok (.iload_n 3, 1) := by decide +kernel
theorem dX12_prints_331 : decode cX12_prints 331 = .ok (.iconst 1, 1) := by decide +kernel
theorem dX12_prints_332 : decode cX12_prints 332 = .ok (.if_icmp .ne 9, 3) := by decide +kernel
theorem dX12_prints_335 : decode cX12_prints 335 = .ok (.aload_n 0, 1) := by decide +kernel
theorem dX12_prints_336 : decode cX12_prints 336 = .ok (.bipush 95, 2) := by decide +kernel
theorem dX12_prints_338 : decode cX12_prints 338 = .ok (.invokevirtual 250, 3) := by decide +kernel
theorem dX12_prints_341 : decode cX12_prints 341 = .ok (.aload_n 0, 1) := by decide +kernel
theorem dX12_prints_342 : decode cX12_prints 342 = .ok (.getfield 218, 3) := by decide +kernel
theorem dX12_prints_345 : decode cX12_prints 345 = .ok (.istore 5, 2) := by decide +kernel
theorem dX12_prints_347 : decode cX12_prints 347 = .ok (.goto 34, 3) := by decide +kernel
theorem dX12_prints_350 : decode cX12_prints 350 = .ok (.iload 8, 2) := by decide +kernel
theorem dX12_prints_352 : decode cX12_prints 352 = .ok (.bipush 100, 2) := by decide +kernel
theorem dX12_prints_354 : decode cX12_prints 354 = .ok (.if_icmp .ne 16, 3) := by decide +kernel
theorem dX12_prints_357 : decode cX12_prints 357 = .ok (.iload_n 3, 1) := by decide +kernel
theorem dX12_prints_358 : decode cX12_prints 358 = .ok (.ifCond .ne 12, 3) := by decide +kernel
theorem dX12_prints_361 : decode cX12_prints 361 = .ok (.aload_n 0, 1) := by decide +kernel
theorem dX12_prints_362 : decode cX12_prints 362 = .ok (.getfield 218, 3) := by decide +kernel
theorem dX12_prints_365 : decode cX12_prints 365 = .ok (.istore 5, 2) := by decide +kernel
theorem dX12_prints_367 : decode cX12_prints 367 = .ok (.goto 14, 3) := by decide +kernel
theorem dX12_prints_370 : decode cX12_prints 370 = .ok (.iload_n 3, 1) := by decide +kernel
theorem dX12_prints_371 : decode cX12_prints 371 = .ok (.iconst 1, 1) := by decide +kernel
theorem dX12_prints_372 : decode cX12_prints 372 = .ok (.if_icmp .ne 9, 3) := by decide +kernel
theorem dX12_prints_375 : decode cX12_prints 375 = .ok (.aload_n 0, 1) := by decide +kernel
theorem dX12_prints_376 : decode cX12_prints 376 = .ok (.iload 8, 2) := by decide +kernel
theorem dX12_prints_378 : decode cX12_prints 378 = .ok (.invokevirtual 260, 3) := by decide +kernel
theorem dX12_prints_381 : decode cX12_prints 381 = .ok (.goto (-309), 3) := by decide +kernel
theorem dX12_prints_384 : decode cX12_prints 384 = .ok (.return_, 1) := by decide +kernel
theorem dX12_opens_0 : decode cX12_opens 0 = .ok (.iload_n 1, 1) := by decide +kernel
theorem dX12_opens_1 : decode cX12_opens 1 = .ok (.bipush 115, 2) := by decide +kernel
theorem dX12_opens_3 : decode cX12_opens 3 = .ok (.if_icmp .eq 42, 3) := by decide +kernel
theorem dX12_opens_6 : decode cX12_opens 6 = .ok (.aload_n 0, 1) := by decide +kernel
theorem dX12_opens_7 : decode cX12_opens 7 = .ok (.iload_n 1, 1) := by decide +kernel
theorem dX12_opens_8 : decode cX12_opens 8 = .ok (.bipush 100, 2) := by decide +kernel
theorem dX12_opens_10 : decode cX12_opens 10 = .ok (.if_icmp .ne 8, 3) := by decide +kernel
theorem dX12_opens_13 : decode cX12_opens 13 = .ok (.bipush 60, 2) := by decide +kernel
theorem dX12_opens_15 : decode cX12_opens 15 = .ok (.goto 27, 3) := by decide +kernel
theorem dX12_opens_18 : decode cX12_opens 18 = .ok (.iload_n 1, 1) := by decide +kernel
theorem dX12_opens_19 : decode cX12_opens 19 = .ok (.bipush 97, 2) := by decide +kernel
theorem dX12_opens_21 : decode cX12_opens 21 = .ok (.if_icmp .ne 8, 3) := by decide +kernel
theorem dX12_opens_24 : decode cX12_opens 24 = .ok (.bipush 47, 2) := by decide +kernel
theorem dX12_opens_26 : decode cX12_opens 26 = .ok (.goto 16, 3) := by decide +kernel
theorem dX12_opens_29 : decode cX12_opens 29 = .ok (.iload_n 1, 1) := by decide +kernel
theorem dX12_opens_30 : decode cX12_opens 30 = .ok (.bipush 117, 2) := by decide +kernel
theorem dX12_opens_32 : decode cX12_opens 32 = .ok (.if_icmp .ne 8, 3) := by decide +kernel
theorem dX12_opens_35 : decode cX12_opens 35 = .ok (.bipush 91, 2) := by decide +kernel
theorem dX12_opens_37 : decode cX12_opens 37 = .ok (.goto 5, 3) := by decide +kernel
theorem dX12_opens_40 : decode cX12_opens 40 = .ok (.bipush 39, 2) := by decide +kernel
theorem dX12_opens_42 : decode cX12_opens 42 = .ok (.invokevirtual 250, 3) := by decide +kernel
theorem dX12_opens_45 : decode cX12_opens 45 = .ok (.return_, 1) := by decide +kernel
theorem dX12_closes_0 : decode cX12_closes 0 = .ok (.iload_n 1, 1) := by decide +kernel
theorem dX12_closes_1 : decode cX12_closes 1 = .ok (.bipush 115, 2) := by decide +kernel
theorem dX12_closes_3 : decode cX12_closes 3 = .ok (.if_icmp .eq 42, 3) := by decide +kernel
theorem dX12_closes_6 : decode cX12_closes 6 = .ok (.aload_n 0, 1) := by decide +kernel
theorem dX12_closes_7 : decode cX12_closes 7 = .ok (.iload_n 1, 1) := by decide +kernel
theorem dX12_closes_8 : decode cX12_closes 8 = .ok (.bipush 100, 2) := by decide +kernel
theorem dX12_closes_10 : decode cX12_closes 10 = .ok (.if_icmp .ne 8, 3) := by decide +kernel
theorem dX12_closes_13 : decode cX12_closes 13 = .ok (.bipush 62, 2) := by decide +kernel
theorem dX12_closes_15 : decode cX12_closes 15 = .ok (.goto 27, 3) := by decide +kernel
theorem dX12_closes_18 : decode cX12_closes 18 = .ok (.iload_n 1, 1) := by decide +kernel
theorem dX12_closes_19 : decode cX12_closes 19 = .ok (.bipush 97, 2) := by decide +kernel
theorem dX12_closes_21 : decode cX12_closes 21 = .ok (.if_icmp .ne 8, 3) := by decide +kernel
theorem dX12_closes_24 : decode cX12_closes 24 = .ok (.bipush 47, 2) := by decide +kernel
theorem dX12_closes_26 : decode cX12_closes 26 = .ok (.goto 16, 3) := by decide +kernel
theorem dX12_closes_29 : decode cX12_closes 29 = .ok (.iload_n 1, 1) := by decide +kernel
theorem dX12_closes_30 : decode cX12_closes 30 = .ok (.bipush 117, 2) := by decide +kernel
theorem dX12_closes_32 : decode cX12_closes 32 = .ok (.if_icmp .ne 8, 3) := by decide +kernel
theorem dX12_closes_35 : decode cX12_closes 35 = .ok (.bipush 93, 2) := by decide +kernel
theorem dX12_closes_37 : decode cX12_closes 37 = .ok (.goto 5, 3) := by decide +kernel
theorem dX12_closes_40 : decode cX12_closes 40 = .ok (.bipush 39, 2) := by decide +kernel
theorem dX12_closes_42 : decode cX12_closes 42 = .ok (.invokevirtual 250, 3) := by decide +kernel
theorem dX12_closes_45 : decode cX12_closes 45 = .ok (.return_, 1) := by decide +kernel
theorem dX12_print_0 : decode cX12_print 0 = .ok (.aload_n 0, 1) := by decide +kernel
theorem dX12_print_1 : decode cX12_print 1 = .ok (.iload_n 1, 1) := by decide +kernel
theorem dX12_print_2 : decode cX12_print 2 = .ok (.invokevirtual 152, 3) := by decide +kernel
theorem dX12_print_5 : decode cX12_print 5 = .ok (.ifCond .eq 18, 3) := by decide +kernel
theorem dX12_print_8 : decode cX12_print 8 = .ok (.iload_n 2, 1) := by decide +kernel
theorem dX12_print_9 : decode cX12_print 9 = .ok (.invokestatic 149, 3) := by decide +kernel
theorem dX12_print_12 : decode cX12_print 12 = .ok (.ifCond .eq 11, 3) := by decide +kernel
theorem dX12_print_15 : decode cX12_print 15 = .ok (.iload_n 3, 1) := by decide +kernel
theorem dX12_print_16 : decode cX12_print 16 = .ok (.iconst 2, 1) := by decide +kernel
theorem dX12_print_17 : decode cX12_print 17 = .ok (.invokestatic 135, 3) := by decide +kernel
theorem dX12_print_20 : decode cX12_print 20 = .ok (.ifCond .ne 6, 3) := by decide +kernel
theorem dX12_print_23 : decode cX12_print 23 = .ok (.bipush (-2), 2) := by decide +kernel
theorem dX12_print_25 : decode cX12_print 25 = .ok (.ireturn, 1) := by decide +kernel
theorem dX12_print_26 : decode cX12_print 26 = .ok (.aload_n 0, 1) := by decide +kernel
theorem dX12_print_27 : decode cX12_print 27 = .ok (.iload_n 1, 1) := by decide +kernel
theorem dX12_print_28 : decode cX12_print 28 = .ok (.iload_n 2, 1) := by decide +kernel
theorem dX12_print_29 : decode cX12_print 29 = .ok (.iload_n 3, 1) := by decide +kernel
theorem dX12_print_30 : decode cX12_print 30 = .ok (.invokevirtual 263, 3) := by decide +kernel
theorem dX12_print_33 : decode cX12_print 33 = .ok (.aload_n 0, 1) := by decide +kernel
theorem dX12_print_34 : decode cX12_print 34 = .ok (.getfield 247, 3) := by decide +kernel
theorem dX12_print_37 : decode cX12_print 37 = .ok (.ireturn, 1) := by decide +kernel
theorem dX12_printed_0 : decode cX12_printed 0 = .ok (.aload_n 0, 1) := by decide +kernel
theorem dX12_printed_1 : decode cX12_printed 1 = .ok (.iload_n 1, 1) := by decide +kernel
theorem dX12_printed_2 : decode cX12_printed 2 = .ok (.invokevirtual 152, 3) := by decide +kernel
theorem dX12_printed_5 : decode cX12_printed 5 = .ok (.ifCond .eq 18, 3) := by decide +kernel
theorem dX12_printed_8 : decode cX12_printed 8 = .ok (.iload_n 2, 1) := by decide +kernel
theorem dX12_printed_9 : decode cX12_printed 9 = .ok (.invokestatic 149, 3) := by decide +kernel
theorem dX12_printed_12 : decode cX12_printed 12 = .ok (.ifCond .eq 11, 3) := by decide +kernel
theorem dX12_printed_15 : decode cX12_printed 15 = .ok (.iload_n 3, 1) := by decide +kernel
theorem dX12_printed_16 : decode cX12_printed 16 = .ok (.iconst 2, 1) := by decide +kernel
theorem dX12_printed_17 : decode cX12_printed 17 = .ok (.invokestatic 135, 3) := by decide +kernel
theorem dX12_printed_20 : decode cX12_printed 20 = .ok (.ifCond .ne 6, 3) := by decide +kernel
theorem dX12_printed_23 : decode cX12_printed 23 = .ok (.bipush (-2), 2) := by decide +kernel
theorem dX12_printed_25 : decode cX12_printed 25 = .ok (.ireturn, 1) := by decide +kernel
theorem dX12_printed_26 : decode cX12_printed 26 = .ok (.aload_n 0, 1) := by decide +kernel
theorem dX12_printed_27 : decode cX12_printed 27 = .ok (.iload_n 1, 1) := by decide +kernel
theorem dX12_printed_28 : decode cX12_printed 28 = .ok (.iload_n 2, 1) := by decide +kernel
theorem dX12_printed_29 : decode cX12_printed 29 = .ok (.iload_n 3, 1) := by decide +kernel
theorem dX12_printed_30 : decode cX12_printed 30 = .ok (.invokevirtual 263, 3) := by decide +kernel
theorem dX12_printed_33 : decode cX12_printed 33 = .ok (.iload 4, 2) := by decide +kernel
theorem dX12_printed_35 : decode cX12_printed 35 = .ok (.aload_n 0, 1) := by decide +kernel
theorem dX12_printed_36 : decode cX12_printed 36 = .ok (.getfield 247, 3) := by decide +kernel
theorem dX12_printed_39 : decode cX12_printed 39 = .ok (.invokestatic 135, 3) := by decide +kernel
theorem dX12_printed_42 : decode cX12_printed 42 = .ok (.ifCond .eq 13, 3) := by decide +kernel
theorem dX12_printed_45 : decode cX12_printed 45 = .ok (.aload_n 0, 1) := by decide +kernel
theorem dX12_printed_46 : decode cX12_printed 46 = .ok (.getfield 99, 3) := by decide +kernel
theorem dX12_printed_49 : decode cX12_printed 49 = .ok (.iload 4, 2) := by decide +kernel
theorem dX12_printed_51 : decode cX12_printed 51 = .ok (.iaload, 1) := by decide +kernel
theorem dX12_printed_52 : decode cX12_printed 52 = .ok (.goto 4, 3) := by decide +kernel
theorem dX12_printed_55 : decode cX12_printed 55 = .ok (.iconst (-1), 1) := by decide +kernel
theorem dX12_printed_56 : decode cX12_printed 56 = .ok (.ireturn, 1) := by decide +kernel
theorem dX12_findWords_0 : decode cX12_findWords 0 = .ok (.aload_n 0, 1) := by decide +kernel
theorem dX12_findWords_1 : decode cX12_findWords 1 = .ok (.iload_n 1, 1) := by decide +kernel
theorem dX12_findWords_2 : decode cX12_findWords 2 = .ok (.sipush 9999, 3) := by decide +kernel
theorem dX12_findWords_5 : decode cX12_findWords 5 = .ok (.iconst 0, 1) := by decide +kernel
theorem dX12_findWords_6 : decode cX12_findWords 6 = .ok (.invokevirtual 263, 3) := by decide +kernel
theorem dX12_findWords_9 : decode cX12_findWords 9 = .ok (.iconst 0, 1) := by decide +kernel
theorem dX12_findWords_10 : decode cX12_findWords 10 = .ok (.istore_n 3, 1) := by decide +kernel
theorem dX12_findWords_11 : decode cX12_findWords 11 = .ok (.iconst 0, 1) := by decide +kernel
theorem dX12_findWords_12 : decode cX12_findWords 12 = .ok (.istore 4, 2) := by decide +kernel
theorem dX12_findWords_14 : decode cX12_findWords 14 = .ok (.iload 4, 2) := by decide +kernel
theorem dX12_findWords_16 : decode cX12_findWords 16 = .ok (.aload_n 0, 1) := by decide +kernel
theorem dX12_findWords_17 : decode cX12_findWords 17 = .ok (.getfield 247, 3) := by decide +kernel
theorem dX12_findWords_20 : decode cX12_findWords 20 = .ok (.if_icmp .ge 112, 3) := by decide +kernel
theorem dX12_findWords_23 : decode cX12_findWords 23 = .ok (.aload_n 0, 1) := by decide +kernel
theorem dX12_findWords_24 : decode cX12_findWords 24 = .ok (.getfield 105, 3) := by decide +kernel
theorem dX12_findWords_27 : decode cX12_findWords 27 = .ok (.sipush 160, 3) := by decide +kernel
theorem dX12_findWords_30 : decode cX12_findWords 30 = .ok (.iload_n 2, 1) := by decide +kernel
theorem dX12_findWords_31 : decode cX12_findWords 31 = .ok (.imul, 1) := by decide +kernel
theorem dX12_findWords_32 : decode cX12_findWords 32 = .ok (.iload 4, 2) := by decide +kernel
theorem dX12_findWords_34 : decode cX12_findWords 34 = .ok (.iadd, 1) := by decide +kernel
theorem dX12_findWords_35 : decode cX12_findWords 35 = .ok (.aload_n 0, 1) := by decide +kernel
theorem dX12_findWords_36 : decode cX12_findWords 36 = .ok (.getfield 99, 3) := by decide +kernel
theorem dX12_findWords_39 : decode cX12_findWords 39 = .ok (.iload 4, 2) := by decide +kernel
theorem dX12_findWords_41 : decode cX12_findWords 41 = .ok (.iaload, 1) := by decide +kernel
theorem dX12_findWords_42 : decode cX12_findWords 42 = .ok (.iastore, 1) := by decide +kernel
theorem dX12_findWords_43 : decode cX12_findWords 43 = .ok (.aload_n 0, 1) := by decide +kernel
theorem dX12_findWords_44 : decode cX12_findWords 44 = .ok (.getfield 99, 3) := by decide +kernel
theorem dX12_findWords_47 : decode cX12_findWords 47 = .ok (.iload 4, 2) := by decide +kernel
theorem dX12_findWords_49 : decode cX12_findWords 49 = .ok (.iaload, 1) := by decide +kernel
theorem dX12_findWords_50 : decode cX12_findWords 50 = .ok (.bipush 97, 2) := by decide +kernel
theorem dX12_findWords_52 : decode cX12_findWords 52 = .ok (.if_icmp .lt 7, 3) := by decide +kernel
theorem dX12_findWords_55 : decode cX12_findWords 55 = .ok (.iconst 1, 1) := by decide +kernel
theorem dX12_findWords_56 : decode cX12_findWords 56 = .ok (.goto 4, 3) := by decide +kernel
theorem dX12_findWords_59 : decode cX12_findWords 59 = .ok (.iconst 0, 1) := by decide +kernel
theorem dX12_findWords_60 : decode cX12_findWords 60 = .ok (.istore 5, 2) := by decide +kernel
theorem dX12_findWords_62 : decode cX12_findWords 62 = .ok (.iload 5, 2) := by decide +kernel
theorem dX12_findWords_64 : decode cX12_findWords 64 = .ok (.ifCond .eq 39, 3) := by decide +kernel
theorem dX12_findWords_67 : decode cX12_findWords 67 = .ok (.iload 4, 2) := by decide +kernel
theorem dX12_findWords_69 : decode cX12_findWords 69 = .ok (.ifCond .eq 17, 3) := by decide +kernel
theorem dX12_findWords_72 : decode cX12_findWords 72 = .ok (.aload_n 0, 1) := by decide +kernel
theorem dX12_findWords_73 : decode cX12_findWords 73 = .ok (.getfield 99, 3) := by decide +kernel
theorem dX12_findWords_76 : decode cX12_findWords 76 = .ok (.iload 4, 2) := by decide +kernel
theorem dX12_findWords_78 : decode cX12_findWords 78 = .ok (.iconst 1, 1) := by decide +kernel
theorem dX12_findWords_79 : decode cX12_findWords 79 = .ok (.isub, 1) := by decide +kernel
theorem dX12_findWords_80 : decode cX12_findWords 80 = .ok (.iaload, 1) := by decide +kernel
theorem dX12_findWords_81 : decode cX12_findWords 81 = .ok (.bipush 97, 2) := by decide +kernel
theorem dX12_findWords_83 : decode cX12_findWords 83 = .ok (.if_icmp .ge 20, 3) := by decide +kernel
theorem dX12_findWords_86 : decode cX12_findWords 86 = .ok (.aload_n 0, 1) := by decide +kernel
theorem dX12_findWords_87 : decode cX12_findWords 87 = .ok (.getfield 108, 3) := by decide +kernel
theorem dX12_findWords_90 : decode cX12_findWords 90 = .ok (.sipush 160, 3) := by decide +kernel
theorem dX12_findWords_93 : decode cX12_findWords 93 = .ok (.iload_n 2, 1) := by decide +kernel
theorem dX12_findWords_94 : decode cX12_findWords 94 = .ok (.imul, 1) := by decide +kernel
theorem dX12_findWords_95 : decode cX12_findWords 95 = .ok (.iload_n 3, 1) := by decide +kernel
theorem dX12_findWords_96 : decode cX12_findWords 96 = .ok (.iadd, 1) := by decide +kernel
theorem dX12_findWords_97 : decode cX12_findWords 97 = .ok (.iload 4, 2) := by decide +kernel
theorem dX12_findWords_99 : decode cX12_findWords 99 = .ok (.iastore, 1) := by decide +kernel
theorem dX12_findWords_100 : decode cX12_findWords 100 = .ok (.iinc 3 1, 3) := by decide +kernel
theorem dX12_findWords_103 : decode cX12_findWords 103 = .ok (.iload 5, 2) := by decide +kernel
theorem dX12_findWords_105 : decode cX12_findWords 105 = .ok (.ifCond .eq 21, 3) := by decide +kernel
theorem dX12_findWords_108 : decode cX12_findWords 108 = .ok (.aload_n 0, 1) := by decide +kernel
theorem dX12_findWords_109 : decode cX12_findWords 109 = .ok (.getfield 111, 3) := by decide +kernel
theorem dX12_findWords_112 : decode cX12_findWords 112 = .ok (.sipush 160, 3) := by decide +kernel
theorem dX12_findWords_115 : decode cX12_findWords 115 = .ok (.iload_n 2, 1) := by decide +kernel
theorem dX12_findWords_116 : decode cX12_findWords 116 = .ok (.imul, 1) := by decide +kernel
theorem dX12_findWords_117 : decode cX12_findWords 117 = .ok (.iload_n 3, 1) := by decide +kernel
theorem dX12_findWords_118 : decode cX12_findWords 118 = .ok (.iadd, 1) := by decide +kernel
theorem dX12_findWords_119 : decode cX12_findWords 119 = .ok (.iconst 1, 1) := by decide +kernel
theorem dX12_findWords_120 : decode cX12_findWords 120 = .ok (.isub, 1) := by decide +kernel
theorem dX12_findWords_121 : decode cX12_findWords 121 = .ok (.iload 4, 2) := by decide +kernel
theorem dX12_findWords_123 : decode cX12_findWords 123 = .ok (.iconst 1, 1) := by decide +kernel
theorem dX12_findWords_124 : decode cX12_findWords 124 = .ok (.iadd, 1) := by decide +kernel
theorem dX12_findWords_125 : decode cX12_findWords 125 = .ok (.iastore, 1) := by decide +kernel
theorem dX12_findWords_126 : decode cX12_findWords 126 = .ok (.iinc 4 1, 3) := by decide +kernel
theorem dX12_findWords_129 : decode cX12_findWords 129 = .ok (.goto (-115), 3) := by decide +kernel
theorem dX12_findWords_132 : decode cX12_findWords 132 = .ok (.aload_n 0, 1) := by decide +kernel
theorem dX12_findWords_133 : decode cX12_findWords 133 = .ok (.getfield 114, 3) := by decide +kernel
theorem dX12_findWords_136 : decode cX12_findWords 136 = .ok (.iload_n 2, 1) := by decide +kernel
theorem dX12_findWords_137 : decode cX12_findWords 137 = .ok (.iload_n 3, 1) := by decide +kernel
theorem dX12_findWords_138 : decode cX12_findWords 138 = .ok (.iastore, 1) := by decide +kernel
theorem dX12_findWords_139 : decode cX12_findWords 139 = .ok (.return_, 1) := by decide +kernel
theorem dX12_words_0 : decode cX12_words 0 = .ok (.aload_n 0, 1) := by decide +kernel
theorem dX12_words_1 : decode cX12_words 1 = .ok (.iload_n 1, 1) := by decide +kernel
theorem dX12_words_2 : decode cX12_words 2 = .ok (.invokevirtual 152, 3) := by decide +kernel
theorem dX12_words_5 : decode cX12_words 5 = .ok (.ifCond .ne 6, 3) := by decide +kernel
theorem dX12_words_8 : decode cX12_words 8 = .ok (.bipush (-2), 2) := by decide +kernel
theorem dX12_words_10 : decode cX12_words 10 = .ok (.ireturn, 1) := by decide +kernel
theorem dX12_words_11 : decode cX12_words 11 = .ok (.aload_n 0, 1) := by decide +kernel
theorem dX12_words_12 : decode cX12_words 12 = .ok (.iload_n 1, 1) := by decide +kernel
theorem dX12_words_13 : decode cX12_words 13 = .ok (.iconst 0, 1) := by decide +kernel
theorem dX12_words_14 : decode cX12_words 14 = .ok (.invokevirtual 266, 3) := by decide +kernel
theorem dX12_words_17 : decode cX12_words 17 = .ok (.aload_n 0, 1) := by decide +kernel
theorem dX12_words_18 : decode cX12_words 18 = .ok (.getfield 114, 3) := by decide +kernel
theorem dX12_words_21 : decode cX12_words 21 = .ok (.iconst 0, 1) := by decide +kernel
theorem dX12_words_22 : decode cX12_words 22 = .ok (.iaload, 1) := by decide +kernel
theorem dX12_words_23 : decode cX12_words 23 = .ok (.ireturn, 1) := by decide +kernel
theorem dX12_isSame_0 : decode cX12_isSame 0 = .ok (.aload_n 0, 1) := by decide +kernel
theorem dX12_isSame_1 : decode cX12_isSame 1 = .ok (.getfield 108, 3) := by decide +kernel
theorem dX12_isSame_4 : decode cX12_isSame 4 = .ok (.iload_n 1, 1) := by decide +kernel
theorem dX12_isSame_5 : decode cX12_isSame 5 = .ok (.iaload, 1) := by decide +kernel
theorem dX12_isSame_6 : decode cX12_isSame 6 = .ok (.istore_n 3, 1) := by decide +kernel
theorem dX12_isSame_7 : decode cX12_isSame 7 = .ok (.aload_n 0, 1) := by decide +kernel
theorem dX12_isSame_8 : decode cX12_isSame 8 = .ok (.getfield 108, 3) := by decide +kernel
theorem dX12_isSame_11 : decode cX12_isSame 11 = .ok (.sipush 160, 3) := by decide +kernel
theorem dX12_isSame_14 : decode cX12_isSame 14 = .ok (.iload_n 2, 1) := by decide +kernel
theorem dX12_isSame_15 : decode cX12_isSame 15 = .ok (.iadd, 1) := by decide +kernel
theorem dX12_isSame_16 : decode cX12_isSame 16 = .ok (.iaload, 1) := by decide +kernel
theorem dX12_isSame_17 : decode cX12_isSame 17 = .ok (.istore 4, 2) := by decide +kernel
theorem dX12_isSame_19 : decode cX12_isSame 19 = .ok (.aload_n 0, 1) := by decide +kernel
theorem dX12_isSame_20 : decode cX12_isSame 20 = .ok (.getfield 111, 3) := by decide +kernel
theorem dX12_isSame_23 : decode cX12_isSame 23 = .ok (.iload_n 1, 1) := by decide +kernel
theorem dX12_isSame_24 : decode cX12_isSame 24 = .ok (.iaload, 1) := by decide +kernel
theorem dX12_isSame_25 : decode cX12_isSame 25 = .ok (.iload_n 3, 1) := by decide +kernel
theorem dX12_isSame_26 : decode cX12_isSame 26 = .ok (.isub, 1) := by decide +kernel
theorem dX12_isSame_27 : decode cX12_isSame 27 = .ok (.istore 5, 2) := by decide +kernel
theorem dX12_isSame_29 : decode cX12_isSame 29 = .ok (.iload 5, 2) := by decide +kernel
theorem dX12_isSame_31 : decode cX12_isSame 31 = .ok (.aload_n 0, 1) := by decide +kernel
theorem dX12_isSame_32 : decode cX12_isSame 32 = .ok (.getfield 111, 3) := by decide +kernel
theorem dX12_isSame_35 : decode cX12_isSame 35 = .ok (.sipush 160, 3) := by decide +kernel
theorem dX12_isSame_38 : decode cX12_isSame 38 = .ok (.iload_n 2, 1) := by decide +kernel
theorem dX12_isSame_39 : decode cX12_isSame 39 = .ok (.iadd, 1) := by decide +kernel
theorem dX12_isSame_40 : decode cX12_isSame 40 = .ok (.iaload, 1) := by decide +kernel
theorem dX12_isSame_41 : decode cX12_isSame 41 = .ok (.iload 4, 2) := by decide +kernel
theorem dX12_isSame_43 : decode cX12_isSame 43 = .ok (.isub, 1) := by decide +kernel
theorem dX12_isSame_44 : decode cX12_isSame 44 = .ok (.if_icmp .ne 7, 3) := by decide +kernel
theorem dX12_isSame_47 : decode cX12_isSame 47 = .ok (.iconst 1, 1) := by decide +kernel
theorem dX12_isSame_48 : decode cX12_isSame 48 = .ok (.goto 4, 3) := by decide +kernel
theorem dX12_isSame_51 : decode cX12_isSame 51 = .ok (.iconst 0, 1) := by decide +kernel
theorem dX12_isSame_52 : decode cX12_isSame 52 = .ok (.istore 6, 2) := by decide +kernel
theorem dX12_isSame_54 : decode cX12_isSame 54 = .ok (.iconst 0, 1) := by decide +kernel
theorem dX12_isSame_55 : decode cX12_isSame 55 = .ok (.istore 7, 2) := by decide +kernel
theorem dX12_isSame_57 : decode cX12_isSame 57 = .ok (.iload 7, 2) := by decide +kernel
theorem dX12_isSame_59 : decode cX12_isSame 59 = .ok (.iload 5, 2) := by decide +kernel
theorem dX12_isSame_61 : decode cX12_isSame 61 = .ok (.if_icmp .ge 47, 3) := by decide +kernel
theorem dX12_isSame_64 : decode cX12_isSame 64 = .ok (.iload 6, 2) := by decide +kernel
theorem dX12_isSame_66 : decode cX12_isSame 66 = .ok (.ifCond .eq 42, 3) := by decide +kernel
theorem dX12_isSame_69 : decode cX12_isSame 69 = .ok (.aload_n 0, 1) := by decide +kernel
theorem dX12_isSame_70 : decode cX12_isSame 70 = .ok (.getfield 105, 3) := by decide +kernel
theorem dX12_isSame_73 : decode cX12_isSame 73 = .ok (.iload_n 3, 1) := by decide +kernel
theorem dX12_isSame_74 : decode cX12_isSame 74 = .ok (.iload 7, 2) := by decide +kernel
theorem dX12_isSame_76 : decode cX12_isSame 76 = .ok (.iadd, 1) := by decide +kernel
theorem dX12_isSame_77 : decode cX12_isSame 77 = .ok (.iaload, 1) := by decide +kernel
theorem dX12_isSame_78 : decode cX12_isSame 78 = .ok (.aload_n 0, 1) := by decide +kernel
theorem dX12_isSame_79 : decode cX12_isSame 79 = .ok (.getfield 105, 3) := by decide +kernel
theorem dX12_isSame_82 : decode cX12_isSame 82 = .ok (.sipush 160, 3) := by decide +kernel
theorem dX12_isSame_85 : decode cX12_isSame 85 = .ok (.iload 4, 2) := by decide +kernel
theorem dX12_isSame_87 : decode cX12_isSame 87 = .ok (.iadd, 1) := by decide +kernel
theorem dX12_isSame_88 : decode cX12_isSame 88 = .ok (.iload 7, 2) := by decide +kernel
theorem dX12_isSame_90 : decode cX12_isSame 90 = .ok (.iadd, 1) := by decide +kernel
theorem dX12_isSame_91 : decode cX12_isSame 91 = .ok (.iaload, 1) := by decide +kernel
theorem dX12_isSame_92 : decode cX12_isSame 92 = .ok (.if_icmp .ne 7, 3) := by decide +kernel
theorem dX12_isSame_95 : decode cX12_isSame 95 = .ok (.iconst 1, 1) := by decide +kernel
theorem dX12_isSame_96 : decode cX12_isSame 96 = .ok (.goto 4, 3) := by decide +kernel
theorem dX12_isSame_99 : decode cX12_isSame 99 = .ok (.iconst 0, 1) := by decide +kernel
theorem dX12_isSame_100 : decode cX12_isSame 100 = .ok (.istore 6, 2) := by decide +kernel
theorem dX12_isSame_102 : decode cX12_isSame 102 = .ok (.iinc 7 1, 3) := by decide +kernel
theorem dX12_isSame_105 : decode cX12_isSame 105 = .ok (.goto (-48), 3) := by decide +kernel
theorem dX12_isSame_108 : decode cX12_isSame 108 = .ok (.iload 6, 2) := by decide +kernel
theorem dX12_isSame_110 : decode cX12_isSame 110 = .ok (.ireturn, 1) := by decide +kernel
theorem dX12_differ_0 : decode cX12_differ 0 = .ok (.aload_n 0, 1) := by decide +kernel
theorem dX12_differ_1 : decode cX12_differ 1 = .ok (.iload_n 1, 1) := by decide +kernel
theorem dX12_differ_2 : decode cX12_differ 2 = .ok (.invokevirtual 152, 3) := by decide +kernel
theorem dX12_differ_5 : decode cX12_differ 5 = .ok (.ifCond .eq 11, 3) := by decide +kernel
theorem dX12_differ_8 : decode cX12_differ 8 = .ok (.aload_n 0, 1) := by decide +kernel
theorem dX12_differ_9 : decode cX12_differ 9 = .ok (.iload_n 2, 1) := by decide +kernel
theorem dX12_differ_10 : decode cX12_differ 10 = .ok (.invokevirtual 152, 3) := by decide +kernel
theorem dX12_differ_13 : decode cX12_differ 13 = .ok (.ifCond .ne 6, 3) := by decide +kernel
theorem dX12_differ_16 : decode cX12_differ 16 = .ok (.bipush (-2), 2) := by decide +kernel
theorem dX12_differ_18 : decode cX12_differ 18 = .ok (.ireturn, 1) := by decide +kernel
theorem dX12_differ_19 : decode cX12_differ 19 = .ok (.aload_n 0, 1) := by decide +kernel
theorem dX12_differ_20 : decode cX12_differ 20 = .ok (.iload_n 1, 1) := by decide +kernel
theorem dX12_differ_21 : decode cX12_differ 21 = .ok (.iconst 0, 1) := by decide +kernel
theorem dX12_differ_22 : decode cX12_differ 22 = .ok (.invokevirtual 266, 3) := by decide +kernel
theorem dX12_differ_25 : decode cX12_differ 25 = .ok (.aload_n 0, 1) := by decide +kernel
theorem dX12_differ_26 : decode cX12_differ 26 = .ok (.iload_n 2, 1) := by decide +kernel
theorem dX12_differ_27 : decode cX12_differ 27 = .ok (.iconst 1, 1) := by decide +kernel
theorem dX12_differ_28 : decode cX12_differ 28 = .ok (.invokevirtual 266, 3) := by decide +kernel
theorem dX12_differ_31 : decode cX12_differ 31 = .ok (.aload_n 0, 1) := by decide +kernel
theorem dX12_differ_32 : decode cX12_differ 32 = .ok (.getfield 114, 3) := by decide +kernel
theorem dX12_differ_35 : decode cX12_differ 35 = .ok (.iconst 1, 1) := by decide +kernel
theorem dX12_differ_36 : decode cX12_differ 36 = .ok (.iaload, 1) := by decide +kernel
theorem dX12_differ_37 : decode cX12_differ 37 = .ok (.istore_n 3, 1) := by decide +kernel
theorem dX12_differ_38 : decode cX12_differ 38 = .ok (.iconst 0, 1) := by decide +kernel
theorem dX12_differ_39 : decode cX12_differ 39 = .ok (.istore 4, 2) := by decide +kernel
theorem dX12_differ_41 : decode cX12_differ 41 = .ok (.iload 4, 2) := by decide +kernel
theorem dX12_differ_43 : decode cX12_differ 43 = .ok (.iload_n 3, 1) := by decide +kernel
theorem dX12_differ_44 : decode cX12_differ 44 = .ok (.if_icmp .gt 18, 3) := by decide +kernel
theorem dX12_differ_47 : decode cX12_differ 47 = .ok (.aload_n 0, 1) := by decide +kernel
theorem dX12_differ_48 : decode cX12_differ 48 = .ok (.getfield 117, 3) := by decide +kernel
theorem dX12_differ_51 : decode cX12_differ 51 = .ok (.iload 4, 2) := by decide +kernel
theorem dX12_differ_53 : decode cX12_differ 53 = .ok (.iload 4, 2) := by decide +kernel
theorem dX12_differ_55 : decode cX12_differ 55 = .ok (.iastore, 1) := by decide +kernel
theorem dX12_differ_56 : decode cX12_differ 56 = .ok (.iinc 4 1, 3) := by decide +kernel
theorem dX12_differ_59 : decode cX12_differ 59 = .ok (.goto (-18), 3) := by decide +kernel
theorem dX12_differ_62 : decode cX12_differ 62 = .ok (.iconst 1, 1) := by decide +kernel
theorem dX12_differ_63 : decode cX12_differ 63 = .ok (.istore 4, 2) := by decide +kernel
theorem dX12_differ_65 : decode cX12_differ 65 = .ok (.iload 4, 2) := by decide +kernel
theorem dX12_differ_67 : decode cX12_differ 67 = .ok (.aload_n 0, 1) := by decide +kernel
theorem dX12_differ_68 : decode cX12_differ 68 = .ok (.getfield 114, 3) := by decide +kernel
theorem dX12_differ_71 : decode cX12_differ 71 = .ok (.iconst 0, 1) := by decide +kernel
theorem dX12_differ_72 : decode cX12_differ 72 = .ok (.iaload, 1) := by decide +kernel
theorem dX12_differ_73 : decode cX12_differ 73 = .ok (.if_icmp .gt 126, 3) := by decide +kernel
theorem dX12_differ_76 : decode cX12_differ 76 = .ok (.aload_n 0, 1) := by decide +kernel
theorem dX12_differ_77 : decode cX12_differ 77 = .ok (.getfield 120, 3) := by decide +kernel
theorem dX12_differ_80 : decode cX12_differ 80 = .ok (.iconst 0, 1) := by decide +kernel
theorem dX12_differ_81 : decode cX12_differ 81 = .ok (.iload 4, 2) := by decide +kernel
theorem dX12_differ_83 : decode cX12_differ 83 = .ok (.iastore, 1) := by decide +kernel
theorem dX12_differ_84 : decode cX12_differ 84 = .ok (.iconst 1, 1) := by decide +kernel
theorem dX12_differ_85 : decode cX12_differ 85 = .ok (.istore 5, 2) := by decide +kernel
theorem dX12_differ_87 : decode cX12_differ 87 = .ok (.iload 5, 2) := by decide +kernel
theorem dX12_differ_89 : decode cX12_differ 89 = .ok (.iload_n 3, 1) := by decide +kernel
theorem dX12_differ_90 : decode cX12_differ 90 = .ok (.if_icmp .gt 74, 3) := by decide +kernel
theorem dX12_differ_93 : decode cX12_differ 93 = .ok (.aload_n 0, 1) := by decide +kernel
theorem dX12_differ_94 : decode cX12_differ 94 = .ok (.getfield 117, 3) := by decide +kernel
theorem dX12_differ_97 : decode cX12_differ 97 = .ok (.iload 5, 2) := by decide +kernel
theorem dX12_differ_99 : decode cX12_differ 99 = .ok (.iaload, 1) := by decide +kernel
theorem dX12_differ_100 : decode cX12_differ 100 = .ok (.aload_n 0, 1) := by decide +kernel
theorem dX12_differ_101 : decode cX12_differ 101 = .ok (.getfield 120, 3) := by decide +kernel
theorem dX12_differ_104 : decode cX12_differ 104 = .ok (.iload 5, 2) := by decide +kernel
theorem dX12_differ_106 : decode cX12_differ 106 = .ok (.iconst 1, 1) := by decide +kernel
theorem dX12_differ_107 : decode cX12_differ 107 = .ok (.isub, 1) := by decide +kernel
theorem dX12_differ_108 : decode cX12_differ 108 = .ok (.iaload, 1) := by decide +kernel
theorem dX12_differ_109 : decode cX12_differ 109 = .ok (.invokestatic 178, 3) := by decide +kernel
theorem dX12_differ_112 : decode cX12_differ 112 = .ok (.iconst 1, 1) := by decide +kernel
theorem dX12_differ_113 : decode cX12_differ 113 = .ok (.iadd, 1) := by decide +kernel
theorem dX12_differ_114 : decode cX12_differ 114 = .ok (.istore 6, 2) := by decide +kernel
theorem dX12_differ_116 : decode cX12_differ 116 = .ok (.aload_n 0, 1) := by decide +kernel
theorem dX12_differ_117 : decode cX12_differ 117 = .ok (.getfield 120, 3) := by decide +kernel
theorem dX12_differ_120 : decode cX12_differ 120 = .ok (.iload 5, 2) := by decide +kernel
theorem dX12_differ_122 : decode cX12_differ 122 = .ok (.iload 6, 2) := by decide +kernel
theorem dX12_differ_124 : decode cX12_differ 124 = .ok (.aload_n 0, 1) := by decide +kernel
theorem dX12_differ_125 : decode cX12_differ 125 = .ok (.getfield 117, 3) := by decide +kernel
theorem dX12_differ_128 : decode cX12_differ 128 = .ok (.iload 5, 2) := by decide +kernel
theorem dX12_differ_130 : decode cX12_differ 130 = .ok (.iconst 1, 1) := by decide +kernel
theorem dX12_differ_131 : decode cX12_differ 131 = .ok (.isub, 1) := by decide +kernel
theorem dX12_differ_132 : decode cX12_differ 132 = .ok (.iaload, 1) := by decide +kernel
theorem dX12_differ_133 : decode cX12_differ 133 = .ok (.aload_n 0, 1) := by decide +kernel
theorem dX12_differ_134 : decode cX12_differ 134 = .ok (.iload 4, 2) := by decide +kernel
theorem dX12_differ_136 : decode cX12_differ 136 = .ok (.iconst 1, 1) := by decide +kernel
theorem dX12_differ_137 : decode cX12_differ 137 = .ok (.isub, 1) := by decide +kernel
theorem dX12_differ_138 : decode cX12_differ 138 = .ok (.iload 5, 2) := by decide +kernel
theorem dX12_differ_140 : decode cX12_differ 140 = .ok (.iconst 1, 1) := by decide +kernel
theorem dX12_differ_141 : decode cX12_differ 141 = .ok (.isub, 1) := by decide +kernel
theorem dX12_differ_142 : decode cX12_differ 142 = .ok (.invokevirtual 269, 3) := by decide +kernel
theorem dX12_differ_145 : decode cX12_differ 145 = .ok (.ifCond .eq 7, 3) := by decide +kernel
theorem dX12_differ_148 : decode cX12_differ 148 = .ok (.iconst 0, 1) := by decide +kernel
theorem dX12_differ_149 : decode cX12_differ 149 = .ok (.goto 4, 3) := by decide +kernel
theorem dX12_differ_152 : decode cX12_differ 152 = .ok (.iconst 1, 1) := by decide +kernel
theorem dX12_differ_153 : decode cX12_differ 153 = .ok (.iadd, 1) := by decide +kernel
theorem dX12_differ_154 : decode cX12_differ 154 = .ok (.invokestatic 178, 3) := by decide +kernel
theorem dX12_differ_157 : decode cX12_differ 157 = .ok (.iastore, 1) := by decide +kernel
theorem dX12_differ_158 : decode cX12_differ 158 = .ok (.iinc 5 1, 3) := by decide +kernel
theorem dX12_differ_161 : decode cX12_differ 161 = .ok (.goto (-74), 3) := by decide +kernel
theorem dX12_differ_164 : decode cX12_differ 164 = .ok (.iconst 0, 1) := by decide +kernel
theorem dX12_differ_165 : decode cX12_differ 165 = .ok (.istore 5, 2) := by decide +kernel
theorem dX12_differ_167 : decode cX12_differ 167 = .ok (.iload 5, 2) := by decide +kernel
theorem dX12_differ_169 : decode cX12_differ 169 = .ok (.iload_n 3, 1) := by decide +kernel
theorem dX12_differ_170 : decode cX12_differ 170 = .ok (.if_icmp .gt 23, 3) := by decide +kernel
theorem dX12_differ_173 : decode cX12_differ 173 = .ok (.aload_n 0, 1) := by decide +kernel
theorem dX12_differ_174 : decode cX12_differ 174 = .ok (.getfield 117, 3) := by decide +kernel
theorem dX12_differ_177 : decode cX12_differ 177 = .ok (.iload 5, 2) := by decide +kernel
theorem dX12_differ_179 : decode cX12_differ 179 = .ok (.aload_n 0, 1) := by decide +kernel
theorem dX12_differ_180 : decode cX12_differ 180 = .ok (.getfield 120, 3) := by decide +kernel
theorem dX12_differ_183 : decode cX12_differ 183 = .ok (.iload 5, 2) := by decide +kernel
theorem dX12_differ_185 : decode cX12_differ 185 = .ok (.iaload, 1) := by decide +kernel
theorem dX12_differ_186 : decode cX12_differ 186 = .ok (.iastore, 1) := by decide +kernel
theorem dX12_differ_187 : decode cX12_differ 187 = .ok (.iinc 5 1, 3) := by decide +kernel
theorem dX12_differ_190 : decode cX12_differ 190 = .ok (.goto (-23), 3) := by decide +kernel
theorem dX12_differ_193 : decode cX12_differ 193 = .ok (.iinc 4 1, 3) := by decide +kernel
theorem dX12_differ_196 : decode cX12_differ 196 = .ok (.goto (-131), 3) := by decide +kernel
theorem dX12_differ_199 : decode cX12_differ 199 = .ok (.aload_n 0, 1) := by decide +kernel
theorem dX12_differ_200 : decode cX12_differ 200 = .ok (.getfield 117, 3) := by decide +kernel
theorem dX12_differ_203 : decode cX12_differ 203 = .ok (.iload_n 3, 1) := by decide +kernel
theorem dX12_differ_204 : decode cX12_differ 204 = .ok (.iaload, 1) := by decide +kernel
theorem dX12_differ_205 : decode cX12_differ 205 = .ok (.ireturn, 1) := by decide +kernel
theorem dX12_note_0 : decode cX12_note 0 = .ok (.aload_n 0, 1) := by decide +kernel
theorem dX12_note_1 : decode cX12_note 1 = .ok (.iload_n 1, 1) := by decide +kernel
theorem dX12_note_2 : decode cX12_note 2 = .ok (.invokevirtual 152, 3) := by decide +kernel
theorem dX12_note_5 : decode cX12_note 5 = .ok (.ifCond .ne 6, 3) := by decide +kernel
theorem dX12_note_8 : decode cX12_note 8 = .ok (.bipush (-2), 2) := by decide +kernel
theorem dX12_note_10 : decode cX12_note 10 = .ok (.ireturn, 1) := by decide +kernel
theorem dX12_note_11 : decode cX12_note 11 = .ok (.iload_n 2, 1) := by decide +kernel
theorem dX12_note_12 : decode cX12_note 12 = .ok (.istore_n 3, 1) := by decide +kernel
theorem dX12_note_13 : decode cX12_note 13 = .ok (.iconst 0, 1) := by decide +kernel
theorem dX12_note_14 : decode cX12_note 14 = .ok (.istore 4, 2) := by decide +kernel
theorem dX12_note_16 : decode cX12_note 16 = .ok (.iload 4, 2) := by decide +kernel
theorem dX12_note_18 : decode cX12_note 18 = .ok (.iconst 1, 1) := by decide +kernel
theorem dX12_note_19 : decode cX12_note 19 = .ok (.iadd, 1) := by decide +kernel
theorem dX12_note_20 : decode cX12_note 20 = .ok (.aload_n 0, 1) := by decide +kernel
theorem dX12_note_21 : decode cX12_note 21 = .ok (.getfield 50, 3) := by decide +kernel
theorem dX12_note_24 : decode cX12_note 24 = .ok (.iload_n 1, 1) := by decide +kernel
theorem dX12_note_25 : decode cX12_note 25 = .ok (.iaload, 1) := by decide +kernel
theorem dX12_note_26 : decode cX12_note 26 = .ok (.if_icmp .ge 122, 3) := by decide +kernel
theorem dX12_note_29 : decode cX12_note 29 = .ok (.iload_n 2, 1) := by decide +kernel
theorem dX12_note_30 : decode cX12_note 30 = .ok (.ifCond .lt 118, 3) := by decide +kernel
theorem dX12_note_33 : decode cX12_note 33 = .ok (.aload_n 0, 1) := by decide +kernel
theorem dX12_note_34 : decode cX12_note 34 = .ok (.getfield 53, 3) := by decide +kernel
theorem dX12_note_37 : decode cX12_note 37 = .ok (.sipush 160, 3) := by decide +kernel
theorem dX12_note_40 : decode cX12_note 40 = .ok (.iload_n 1, 1) := by decide +kernel
theorem dX12_note_41 : decode cX12_note 41 = .ok (.imul, 1) := by decide +kernel
theorem dX12_note_42 : decode cX12_note 42 = .ok (.iload 4, 2) := by decide +kernel
theorem dX12_note_44 : decode cX12_note 44 = .ok (.iadd, 1) := by decide +kernel
theorem dX12_note_45 : decode cX12_note 45 = .ok (.iaload, 1) := by decide +kernel
theorem dX12_note_46 : decode cX12_note 46 = .ok (.bipush 123, 2) := by decide +kernel
theorem dX12_note_48 : decode cX12_note 48 = .ok (.if_icmp .ne 94, 3) := by decide +kernel
theorem dX12_note_51 : decode cX12_note 51 = .ok (.aload_n 0, 1) := by decide +kernel
theorem dX12_note_52 : decode cX12_note 52 = .ok (.getfield 53, 3) := by decide +kernel
theorem dX12_note_55 : decode cX12_note 55 = .ok (.sipush 160, 3) := by decide +kernel
theorem dX12_note_58 : decode cX12_note 58 = .ok (.iload_n 1, 1) := by decide +kernel
theorem dX12_note_59 : decode cX12_note 59 = .ok (.imul, 1) := by decide +kernel
theorem dX12_note_60 : decode cX12_note 60 = .ok (.iload 4, 2) := by decide +kernel
theorem dX12_note_62 : decode cX12_note 62 = .ok (.iadd, 1) := by decide +kernel
theorem dX12_note_63 : decode cX12_note 63 = .ok (.iconst 1, 1) := by decide +kernel
theorem dX12_note_64 : decode cX12_note 64 = .ok (.iadd, 1) := by decide +kernel
theorem dX12_note_65 : decode cX12_note 65 = .ok (.iaload, 1) := by decide +kernel
theorem dX12_note_66 : decode cX12_note 66 = .ok (.bipush 110, 2) := by decide +kernel
theorem dX12_note_68 : decode cX12_note 68 = .ok (.if_icmp .eq 6, 3) := by decide +kernel
theorem dX12_note_71 : decode cX12_note 71 = .ok (.goto 71, 3) := by decide +kernel
theorem dX12_note_74 : decode cX12_note 74 = .ok (.iload_n 3, 1) := by decide +kernel
theorem dX12_note_75 : decode cX12_note 75 = .ok (.ifCond .ne 64, 3) := by decide +kernel
theorem dX12_note_78 : decode cX12_note 78 = .ok (.iconst 0, 1) := by decide +kernel
theorem dX12_note_79 : decode cX12_note 79 = .ok (.istore 5, 2) := by decide +kernel
theorem dX12_note_81 : decode cX12_note 81 = .ok (.iload 4, 2) := by decide +kernel
theorem dX12_note_83 : decode cX12_note 83 = .ok (.iconst 2, 1) := by decide +kernel
theorem dX12_note_84 : decode cX12_note 84 = .ok (.iadd, 1) := by decide +kernel
theorem dX12_note_85 : decode cX12_note 85 = .ok (.istore 6, 2) := by decide +kernel
theorem dX12_note_87 : decode cX12_note 87 = .ok (.aload_n 0, 1) := by decide +kernel
theorem dX12_note_88 : decode cX12_note 88 = .ok (.getfield 53, 3) := by decide +kernel
theorem dX12_note_91 : decode cX12_note 91 = .ok (.sipush 160, 3) := by decide +kernel
theorem dX12_note_94 : decode cX12_note 94 = .ok (.iload_n 1, 1) := by decide +kernel
theorem dX12_note_95 : decode cX12_note 95 = .ok (.imul, 1) := by decide +kernel
theorem dX12_note_96 : decode cX12_note 96 = .ok (.iload 6, 2) := by decide +kernel
theorem dX12_note_98 : decode cX12_note 98 = .ok (.iadd, 1) := by decide +kernel
theorem dX12_note_99 : decode cX12_note 99 = .ok (.iaload, 1) := by decide +kernel
theorem dX12_note_100 : decode cX12_note 100 = .ok (.invokestatic 221, 3) := by decide +kernel
theorem dX12_note_103 : decode cX12_note 103 = .ok (.ifCond .eq 33, 3) := by decide +kernel
theorem dX12_note_106 : decode cX12_note 106 = .ok (.bipush 10, 2) := by decide +kernel
theorem dX12_note_108 : decode cX12_note 108 = .ok (.iload 5, 2) := by decide +kernel
theorem dX12_note_110 : decode cX12_note 110 = .ok (.imul, 1) := by decide +kernel
theorem dX12_note_111 : decode cX12_note 111 = .ok (.aload_n 0, 1) := by decide +kernel
theorem dX12_note_112 : decode cX12_note 112 = .ok (.getfield 53, 3) := by decide +kernel
theorem dX12_note_115 : decode cX12_note 115 = .ok (.sipush 160, 3) := by decide +kernel
theorem dX12_note_118 : decode cX12_note 118 = .ok (.iload_n 1, 1) := by decide +kernel
theorem dX12_note_119 : decode cX12_note 119 = .ok (.imul, 1) := by decide +kernel
theorem dX12_note_120 : decode cX12_note 120 = .ok (.iload 6, 2) := by decide +kernel
theorem dX12_note_122 : decode cX12_note 122 = .ok (.iadd, 1) := by decide +kernel
theorem dX12_note_123 : decode cX12_note 123 = .ok (.iaload, 1) := by decide +kernel
theorem dX12_note_124 : decode cX12_note 124 = .ok (.iadd, 1) := by decide +kernel
theorem dX12_note_125 : decode cX12_note 125 = .ok (.bipush 48, 2) := by decide +kernel
theorem dX12_note_127 : decode cX12_note 127 = .ok (.isub, 1) := by decide +kernel
theorem dX12_note_128 : decode cX12_note 128 = .ok (.istore 5, 2) := by decide +kernel
theorem dX12_note_130 : decode cX12_note 130 = .ok (.iinc 6 1, 3) := by decide +kernel
theorem dX12_note_133 : decode cX12_note 133 = .ok (.goto (-46), 3) := by decide +kernel
theorem dX12_note_136 : decode cX12_note 136 = .ok (.iload 5, 2) := by decide +kernel
theorem dX12_note_138 : decode cX12_note 138 = .ok (.ireturn, 1) := by decide +kernel
theorem dX12_note_139 : decode cX12_note 139 = .ok (.iinc 3 (-1), 3) := by decide +kernel
theorem dX12_note_142 : decode cX12_note 142 = .ok (.iinc 4 1, 3) := by decide +kernel
theorem dX12_note_145 : decode cX12_note 145 = .ok (.goto (-129), 3) := by decide +kernel
theorem dX12_note_148 : decode cX12_note 148 = .ok (.iconst (-1), 1) := by decide +kernel
theorem dX12_note_149 : decode cX12_note 149 = .ok (.ireturn, 1) := by decide +kernel
theorem dX12_finds_0 : decode cX12_finds 0 = .ok (.iload_n 1, 1) := by decide +kernel
theorem dX12_finds_1 : decode cX12_finds 1 = .ok (.ifCond .lt 13, 3) := by decide +kernel
theorem dX12_finds_4 : decode cX12_finds 4 = .ok (.iload_n 1, 1) := by decide +kernel
theorem dX12_finds_5 : decode cX12_finds 5 = .ok (.iconst 1, 1) := by decide +kernel
theorem dX12_finds_6 : decode cX12_finds 6 = .ok (.aload_n 0, 1) := by decide +kernel
theorem dX12_finds_7 : decode cX12_finds 7 = .ok (.getfield 142, 3) := by decide +kernel
theorem dX12_finds_10 : decode cX12_finds 10 = .ok (.ishl, 1) := by decide +kernel
theorem dX12_finds_11 : decode cX12_finds 11 = .ok (.if_icmp .lt 6, 3) := by decide +kernel
theorem dX12_finds_14 : decode cX12_finds 14 = .ok (.bipush (-2), 2) := by decide +kernel
theorem dX12_finds_16 : decode cX12_finds 16 = .ok (.ireturn, 1) := by decide +kernel
theorem dX12_finds_17 : decode cX12_finds 17 = .ok (.aload_n 0, 1) := by decide +kernel
theorem dX12_finds_18 : decode cX12_finds 18 = .ok (.iconst 0, 1) := by decide +kernel
theorem dX12_finds_19 : decode cX12_finds 19 = .ok (.putfield 272, 3) := by decide +kernel
theorem dX12_finds_22 : decode cX12_finds 22 = .ok (.iconst 0, 1) := by decide +kernel
theorem dX12_finds_23 : decode cX12_finds 23 = .ok (.istore_n 2, 1) := by decide +kernel
theorem dX12_finds_24 : decode cX12_finds 24 = .ok (.iload_n 2, 1) := by decide +kernel
theorem dX12_finds_25 : decode cX12_finds 25 = .ok (.aload_n 0, 1) := by decide +kernel
theorem dX12_finds_26 : decode cX12_finds 26 = .ok (.getfield 142, 3) := by decide +kernel
theorem dX12_finds_29 : decode cX12_finds 29 = .ok (.if_icmp .ge 52, 3) := by decide +kernel
theorem dX12_finds_32 : decode cX12_finds 32 = .ok (.iload_n 1, 1) := by decide +kernel
theorem dX12_finds_33 : decode cX12_finds 33 = .ok (.iload_n 2, 1) := by decide +kernel
theorem dX12_finds_34 : decode cX12_finds 34 = .ok (.ishr, 1) := by decide +kernel
theorem dX12_finds_35 : decode cX12_finds 35 = .ok (.iconst 1, 1) := by decide +kernel
theorem dX12_finds_36 : decode cX12_finds 36 = .ok (.iand, 1) := by decide +kernel
theorem dX12_finds_37 : decode cX12_finds 37 = .ok (.ifCond .ne 6, 3) := by decide +kernel
theorem dX12_finds_40 : decode cX12_finds 40 = .ok (.goto 35, 3) := by decide +kernel
theorem dX12_finds_43 : decode cX12_finds 43 = .ok (.aload_n 0, 1) := by decide +kernel
theorem dX12_finds_44 : decode cX12_finds 44 = .ok (.getfield 272, 3) := by decide +kernel
theorem dX12_finds_47 : decode cX12_finds 47 = .ok (.bipush 8, 2) := by decide +kernel
theorem dX12_finds_49 : decode cX12_finds 49 = .ok (.if_icmp .ne 6, 3) := by decide +kernel
theorem dX12_finds_52 : decode cX12_finds 52 = .ok (.bipush (-2), 2) := by decide +kernel
theorem dX12_finds_54 : decode cX12_finds 54 = .ok (.ireturn, 1) := by decide +kernel
theorem dX12_finds_55 : decode cX12_finds 55 = .ok (.aload_n 0, 1) := by decide +kernel
theorem dX12_finds_56 : decode cX12_finds 56 = .ok (.getfield 123, 3) := by decide +kernel
theorem dX12_finds_59 : decode cX12_finds 59 = .ok (.aload_n 0, 1) := by decide +kernel
theorem dX12_finds_60 : decode cX12_finds 60 = .ok (.getfield 272, 3) := by decide +kernel
theorem dX12_finds_63 : decode cX12_finds 63 = .ok (.iload_n 2, 1) := by decide +kernel
theorem dX12_finds_64 : decode cX12_finds 64 = .ok (.iastore, 1) := by decide +kernel
theorem dX12_finds_65 : decode cX12_finds 65 = .ok (.aload_n 0, 1) := by decide +kernel
theorem dX12_finds_66 : decode cX12_finds 66 = .ok (.dup, 1) := by decide +kernel
theorem dX12_finds_67 : decode cX12_finds 67 = .ok (.getfield 272, 3) := by decide +kernel
theorem dX12_finds_70 : decode cX12_finds 70 = .ok (.iconst 1, 1) := by decide +kernel
theorem dX12_finds_71 : decode cX12_finds 71 = .ok (.iadd, 1) := by decide +kernel
theorem dX12_finds_72 : decode cX12_finds 72 = .ok (.putfield 272, 3) := by decide +kernel
theorem dX12_finds_75 : decode cX12_finds 75 = .ok (.iinc 2 1, 3) := by decide +kernel
theorem dX12_finds_78 : decode cX12_finds 78 = .ok (.goto (-54), 3) := by decide +kernel
theorem dX12_finds_81 : decode cX12_finds 81 = .ok (.aload_n 0, 1) := by decide +kernel
theorem dX12_finds_82 : decode cX12_finds 82 = .ok (.invokevirtual 184, 3) := by decide +kernel
theorem dX12_finds_85 : decode cX12_finds 85 = .ok (.ifCond .eq 5, 3) := by decide +kernel
theorem dX12_finds_88 : decode cX12_finds 88 = .ok (.iconst (-1), 1) := by decide +kernel
theorem dX12_finds_89 : decode cX12_finds 89 = .ok (.ireturn, 1) := by decide +kernel
theorem dX12_finds_90 : decode cX12_finds 90 = .ok (.aload_n 0, 1) := by decide +kernel
theorem dX12_finds_91 : decode cX12_finds 91 = .ok (.invokevirtual 193, 3) := by decide +kernel
theorem dX12_finds_94 : decode cX12_finds 94 = .ok (.iconst 1, 1) := by decide +kernel
theorem dX12_finds_95 : decode cX12_finds 95 = .ok (.aload_n 0, 1) := by decide +kernel
theorem dX12_finds_96 : decode cX12_finds 96 = .ok (.getfield 272, 3) := by decide +kernel
theorem dX12_finds_99 : decode cX12_finds 99 = .ok (.ishl, 1) := by decide +kernel
theorem dX12_finds_100 : decode cX12_finds 100 = .ok (.iconst 1, 1) := by decide +kernel
theorem dX12_finds_101 : decode cX12_finds 101 = .ok (.isub, 1) := by decide +kernel
theorem dX12_finds_102 : decode cX12_finds 102 = .ok (.istore_n 2, 1) := by decide +kernel
theorem dX12_finds_103 : decode cX12_finds 103 = .ok (.iload_n 2, 1) := by decide +kernel
theorem dX12_finds_104 : decode cX12_finds 104 = .ok (.istore_n 3, 1) := by decide +kernel
theorem dX12_finds_105 : decode cX12_finds 105 = .ok (.iload_n 3, 1) := by decide +kernel
theorem dX12_finds_106 : decode cX12_finds 106 = .ok (.ifCond .lt 55, 3) := by decide +kernel
theorem dX12_finds_109 : decode cX12_finds 109 = .ok (.iconst 0, 1) := by decide +kernel
theorem dX12_finds_110 : decode cX12_finds 110 = .ok (.istore 4, 2) := by decide +kernel
theorem dX12_finds_112 : decode cX12_finds 112 = .ok (.iload 4, 2) := by decide +kernel
theorem dX12_finds_114 : decode cX12_finds 114 = .ok (.aload_n 0, 1) := by decide +kernel
theorem dX12_finds_115 : decode cX12_finds 115 = .ok (.getfield 272, 3) := by decide +kernel
theorem dX12_finds_118 : decode cX12_finds 118 = .ok (.if_icmp .ge 37, 3) := by decide +kernel
theorem dX12_finds_121 : decode cX12_finds 121 = .ok (.aload_n 0, 1) := by decide +kernel
theorem dX12_finds_122 : decode cX12_finds 122 = .ok (.getfield 126, 3) := by decide +kernel
theorem dX12_finds_125 : decode cX12_finds 125 = .ok (.bipush 8, 2) := by decide +kernel
theorem dX12_finds_127 : decode cX12_finds 127 = .ok (.iload_n 3, 1) := by decide +kernel
theorem dX12_finds_128 : decode cX12_finds 128 = .ok (.imul, 1) := by decide +kernel
theorem dX12_finds_129 : decode cX12_finds 129 = .ok (.iload 4, 2) := by decide +kernel
theorem dX12_finds_131 : decode cX12_finds 131 = .ok (.iadd, 1) := by decide +kernel
theorem dX12_finds_132 : decode cX12_finds 132 = .ok (.iload_n 3, 1) := by decide +kernel
theorem dX12_finds_133 : decode cX12_finds 133 = .ok (.iload_n 2, 1) := by decide +kernel
theorem dX12_finds_134 : decode cX12_finds 134 = .ok (.if_icmp .ne 7, 3) := by decide +kernel
theorem dX12_finds_137 : decode cX12_finds 137 = .ok (.iconst 0, 1) := by decide +kernel
theorem dX12_finds_138 : decode cX12_finds 138 = .ok (.goto 10, 3) := by decide +kernel
theorem dX12_finds_141 : decode cX12_finds 141 = .ok (.aload_n 0, 1) := by decide +kernel
theorem dX12_finds_142 : decode cX12_finds 142 = .ok (.iload_n 3, 1) := by decide +kernel
theorem dX12_finds_143 : decode cX12_finds 143 = .ok (.iload 4, 2) := by decide +kernel
theorem dX12_finds_145 : decode cX12_finds 145 = .ok (.invokevirtual 275, 3) := by decide +kernel
theorem dX12_finds_148 : decode cX12_finds 148 = .ok (.iastore, 1) := by decide +kernel
theorem dX12_finds_149 : decode cX12_finds 149 = .ok (.iinc 4 1, 3) := by decide +kernel
theorem dX12_finds_152 : decode cX12_finds 152 = .ok (.goto (-40), 3) := by decide +kernel
theorem dX12_finds_155 : decode cX12_finds 155 = .ok (.iinc 3 (-1), 3) := by decide +kernel
theorem dX12_finds_158 : decode cX12_finds 158 = .ok (.goto (-53), 3) := by decide +kernel
theorem dX12_finds_161 : decode cX12_finds 161 = .ok (.iconst 0, 1) := by decide +kernel
theorem dX12_finds_162 : decode cX12_finds 162 = .ok (.ireturn, 1) := by decide +kernel
theorem dX12_may_0 : decode cX12_may 0 = .ok (.iload_n 1, 1) := by decide +kernel
theorem dX12_may_1 : decode cX12_may 1 = .ok (.iload_n 2, 1) := by decide +kernel
theorem dX12_may_2 : decode cX12_may 2 = .ok (.ishr, 1) := by decide +kernel
theorem dX12_may_3 : decode cX12_may 3 = .ok (.iconst 1, 1) := by decide +kernel
theorem dX12_may_4 : decode cX12_may 4 = .ok (.iand, 1) := by decide +kernel
theorem dX12_may_5 : decode cX12_may 5 = .ok (.iconst 1, 1) := by decide +kernel
theorem dX12_may_6 : decode cX12_may 6 = .ok (.if_icmp .ne 5, 3) := by decide +kernel
theorem dX12_may_9 : decode cX12_may 9 = .ok (.iconst 0, 1) := by decide +kernel
theorem dX12_may_10 : decode cX12_may 10 = .ok (.ireturn, 1) := by decide +kernel
theorem dX12_may_11 : decode cX12_may 11 = .ok (.iconst 0, 1) := by decide +kernel
theorem dX12_may_12 : decode cX12_may 12 = .ok (.istore_n 3, 1) := by decide +kernel
theorem dX12_may_13 : decode cX12_may 13 = .ok (.iload_n 3, 1) := by decide +kernel
theorem dX12_may_14 : decode cX12_may 14 = .ok (.aload_n 0, 1) := by decide +kernel
theorem dX12_may_15 : decode cX12_may 15 = .ok (.getfield 272, 3) := by decide +kernel
theorem dX12_may_18 : decode cX12_may 18 = .ok (.if_icmp .ge 43, 3) := by decide +kernel
theorem dX12_may_21 : decode cX12_may 21 = .ok (.iload_n 3, 1) := by decide +kernel
theorem dX12_may_22 : decode cX12_may 22 = .ok (.iload_n 2, 1) := by decide +kernel
theorem dX12_may_23 : decode cX12_may 23 = .ok (.if_icmp .eq 32, 3) := by decide +kernel
theorem dX12_may_26 : decode cX12_may 26 = .ok (.iload_n 1, 1) := by decide +kernel
theorem dX12_may_27 : decode cX12_may 27 = .ok (.iload_n 3, 1) := by decide +kernel
theorem dX12_may_28 : decode cX12_may 28 = .ok (.ishr, 1) := by decide +kernel
theorem dX12_may_29 : decode cX12_may 29 = .ok (.iconst 1, 1) := by decide +kernel
theorem dX12_may_30 : decode cX12_may 30 = .ok (.iand, 1) := by decide +kernel
theorem dX12_may_31 : decode cX12_may 31 = .ok (.ifCond .ne 24, 3) := by decide +kernel
theorem dX12_may_34 : decode cX12_may 34 = .ok (.aload_n 0, 1) := by decide +kernel
theorem dX12_may_35 : decode cX12_may 35 = .ok (.aload_n 0, 1) := by decide +kernel
theorem dX12_may_36 : decode cX12_may 36 = .ok (.getfield 123, 3) := by decide +kernel
theorem dX12_may_39 : decode cX12_may 39 = .ok (.iload_n 3, 1) := by decide +kernel
theorem dX12_may_40 : decode cX12_may 40 = .ok (.iaload, 1) := by decide +kernel
theorem dX12_may_41 : decode cX12_may 41 = .ok (.aload_n 0, 1) := by decide +kernel
theorem dX12_may_42 : decode cX12_may 42 = .ok (.getfield 123, 3) := by decide +kernel
theorem dX12_may_45 : decode cX12_may 45 = .ok (.iload_n 2, 1) := by decide +kernel
theorem dX12_may_46 : decode cX12_may 46 = .ok (.iaload, 1) := by decide +kernel
theorem dX12_may_47 : decode cX12_may 47 = .ok (.invokevirtual 196, 3) := by decide +kernel
theorem dX12_may_50 : decode cX12_may 50 = .ok (.ifCond .eq 5, 3) := by decide +kernel
theorem dX12_may_53 : decode cX12_may 53 = .ok (.iconst 0, 1) := by decide +kernel
theorem dX12_may_54 : decode cX12_may 54 = .ok (.ireturn, 1) := by decide +kernel
theorem dX12_may_55 : decode cX12_may 55 = .ok (.iinc 3 1, 3) := by decide +kernel
theorem dX12_may_58 : decode cX12_may 58 = .ok (.goto (-45), 3) := by decide +kernel
theorem dX12_may_61 : decode cX12_may 61 = .ok (.iconst 1, 1) := by decide +kernel
theorem dX12_may_62 : decode cX12_may 62 = .ok (.ireturn, 1) := by decide +kernel
theorem dX12_jump_0 : decode cX12_jump 0 = .ok (.aload_n 0, 1) := by decide +kernel
theorem dX12_jump_1 : decode cX12_jump 1 = .ok (.getfield 83, 3) := by decide +kernel
theorem dX12_jump_4 : decode cX12_jump 4 = .ok (.aload_n 0, 1) := by decide +kernel
theorem dX12_jump_5 : decode cX12_jump 5 = .ok (.getfield 123, 3) := by decide +kernel
theorem dX12_jump_8 : decode cX12_jump 8 = .ok (.iload_n 2, 1) := by decide +kernel
theorem dX12_jump_9 : decode cX12_jump 9 = .ok (.iaload, 1) := by decide +kernel
theorem dX12_jump_10 : decode cX12_jump 10 = .ok (.iaload, 1) := by decide +kernel
theorem dX12_jump_11 : decode cX12_jump 11 = .ok (.aload_n 0, 1) := by decide +kernel
theorem dX12_jump_12 : decode cX12_jump 12 = .ok (.getfield 83, 3) := by decide +kernel
theorem dX12_jump_15 : decode cX12_jump 15 = .ok (.aload_n 0, 1) := by decide +kernel
theorem dX12_jump_16 : decode cX12_jump 16 = .ok (.getfield 123, 3) := by decide +kernel
theorem dX12_jump_19 : decode cX12_jump 19 = .ok (.iload_n 1, 1) := by decide +kernel
theorem dX12_jump_20 : decode cX12_jump 20 = .ok (.iaload, 1) := by decide +kernel
theorem dX12_jump_21 : decode cX12_jump 21 = .ok (.iaload, 1) := by decide +kernel
theorem dX12_jump_22 : decode cX12_jump 22 = .ok (.isub, 1) := by decide +kernel
theorem dX12_jump_23 : decode cX12_jump 23 = .ok (.invokestatic 278, 3) := by decide +kernel
theorem dX12_jump_26 : decode cX12_jump 26 = .ok (.ireturn, 1) := by decide +kernel
theorem dX12_rest_0 : decode cX12_rest 0 = .ok (.ldc_w 282, 3) := by decide +kernel
theorem dX12_rest_3 : decode cX12_rest 3 = .ok (.istore_n 3, 1) := by decide +kernel
theorem dX12_rest_4 : decode cX12_rest 4 = .ok (.iconst 0, 1) := by decide +kernel
theorem dX12_rest_5 : decode cX12_rest 5 = .ok (.istore 4, 2) := by decide +kernel
theorem dX12_rest_7 : decode cX12_rest 7 = .ok (.iload 4, 2) := by decide +kernel
theorem dX12_rest_9 : decode cX12_rest 9 = .ok (.aload_n 0, 1) := by decide +kernel
theorem dX12_rest_10 : decode cX12_rest 10 = .ok (.getfield 272, 3) := by decide +kernel
theorem dX12_rest_13 : decode cX12_rest 13 = .ok (.if_icmp .ge 49, 3) := by decide +kernel
theorem dX12_rest_16 : decode cX12_rest 16 = .ok (.aload_n 0, 1) := by decide +kernel
theorem dX12_rest_17 : decode cX12_rest 17 = .ok (.iload_n 1, 1) := by decide +kernel
theorem dX12_rest_18 : decode cX12_rest 18 = .ok (.iload 4, 2) := by decide +kernel
theorem dX12_rest_20 : decode cX12_rest 20 = .ok (.invokevirtual 283, 3) := by decide +kernel
theorem dX12_rest_23 : decode cX12_rest 23 = .ok (.ifCond .eq 33, 3) := by decide +kernel
theorem dX12_rest_26 : decode cX12_rest 26 = .ok (.iload_n 3, 1) := by decide +kernel
theorem dX12_rest_27 : decode cX12_rest 27 = .ok (.aload_n 0, 1) := by decide +kernel
theorem dX12_rest_28 : decode cX12_rest 28 = .ok (.iload_n 2, 1) := by decide +kernel
theorem dX12_rest_29 : decode cX12_rest 29 = .ok (.iload 4, 2) := by decide +kernel
theorem dX12_rest_31 : decode cX12_rest 31 = .ok (.invokevirtual 286, 3) := by decide +kernel
theorem dX12_rest_34 : decode cX12_rest 34 = .ok (.aload_n 0, 1) := by decide +kernel
theorem dX12_rest_35 : decode cX12_rest 35 = .ok (.getfield 126, 3) := by decide +kernel
theorem dX12_rest_38 : decode cX12_rest 38 = .ok (.bipush 8, 2) := by decide +kernel
theorem dX12_rest_40 : decode cX12_rest 40 = .ok (.iload_n 1, 1) := by decide +kernel
theorem dX12_rest_41 : decode cX12_rest 41 = .ok (.iconst 1, 1) := by decide +kernel
theorem dX12_rest_42 : decode cX12_rest 42 = .ok (.iload 4, 2) := by decide +kernel
theorem dX12_rest_44 : decode cX12_rest 44 = .ok (.ishl, 1) := by decide +kernel
theorem dX12_rest_45 : decode cX12_rest 45 = .ok (.ior, 1) := by decide +kernel
theorem dX12_rest_46 : decode cX12_rest 46 = .ok (.imul, 1) := by decide +kernel
theorem dX12_rest_47 : decode cX12_rest 47 = .ok (.iload 4, 2) := by decide +kernel
theorem dX12_rest_49 : decode cX12_rest 49 = .ok (.iadd, 1) := by decide +kernel
theorem dX12_rest_50 : decode cX12_rest 50 = .ok (.iaload, 1) := by decide +kernel
theorem dX12_rest_51 : decode cX12_rest 51 = .ok (.iadd, 1) := by decide +kernel
theorem dX12_rest_52 : decode cX12_rest 52 = .ok (.invokestatic 178, 3) := by decide +kernel
theorem dX12_rest_55 : decode cX12_rest 55 = .ok (.istore_n 3, 1) := by decide +kernel
theorem dX12_rest_56 : decode cX12_rest 56 = .ok (.iinc 4 1, 3) := by decide +kernel
theorem dX12_rest_59 : decode cX12_rest 59 = .ok (.goto (-52), 3) := by decide +kernel
theorem dX12_rest_62 : decode cX12_rest 62 = .ok (.iload_n 3, 1) := by decide +kernel
theorem dX12_rest_63 : decode cX12_rest 63 = .ok (.ireturn, 1) := by decide +kernel
theorem dX12_leastOf_0 : decode cX12_leastOf 0 = .ok (.aload_n 0, 1) := by decide +kernel
theorem dX12_leastOf_1 : decode cX12_leastOf 1 = .ok (.getfield 272, 3) := by decide +kernel
theorem dX12_leastOf_4 : decode cX12_leastOf 4 = .ok (.ifCond .ne 5, 3) := by decide +kernel
theorem dX12_leastOf_7 : decode cX12_leastOf 7 = .ok (.iconst 0, 1) := by decide +kernel
theorem dX12_leastOf_8 : decode cX12_leastOf 8 = .ok (.ireturn, 1) := by decide +kernel
theorem dX12_leastOf_9 : decode cX12_leastOf 9 = .ok (.ldc_w 282, 3) := by decide +kernel
theorem dX12_leastOf_12 : decode cX12_leastOf 12 = .ok (.istore_n 1, 1) := by decide +kernel
theorem dX12_leastOf_13 : decode cX12_leastOf 13 = .ok (.iconst 0, 1) := by decide +kernel
theorem dX12_leastOf_14 : decode cX12_leastOf 14 = .ok (.istore_n 2, 1) := by decide +kernel
theorem dX12_leastOf_15 : decode cX12_leastOf 15 = .ok (.iload_n 2, 1) := by decide +kernel
theorem dX12_leastOf_16 : decode cX12_leastOf 16 = .ok (.aload_n 0, 1) := by decide +kernel
theorem dX12_leastOf_17 : decode cX12_leastOf 17 = .ok (.getfield 272, 3) := by decide +kernel
theorem dX12_leastOf_20 : decode cX12_leastOf 20 = .ok (.if_icmp .ge 36, 3) := by decide +kernel
theorem dX12_leastOf_23 : decode cX12_leastOf 23 = .ok (.aload_n 0, 1) := by decide +kernel
theorem dX12_leastOf_24 : decode cX12_leastOf 24 = .ok (.iconst 0, 1) := by decide +kernel
theorem dX12_leastOf_25 : decode cX12_leastOf 25 = .ok (.iload_n 2, 1) := by decide +kernel
theorem dX12_leastOf_26 : decode cX12_leastOf 26 = .ok (.invokevirtual 283, 3) := by decide +kernel
theorem dX12_leastOf_29 : decode cX12_leastOf 29 = .ok (.ifCond .eq 21, 3) := by decide +kernel
theorem dX12_leastOf_32 : decode cX12_leastOf 32 = .ok (.iload_n 1, 1) := by decide +kernel
theorem dX12_leastOf_33 : decode cX12_leastOf 33 = .ok (.aload_n 0, 1) := by decide +kernel
theorem dX12_leastOf_34 : decode cX12_leastOf 34 = .ok (.getfield 126, 3) := by decide +kernel
theorem dX12_leastOf_37 : decode cX12_leastOf 37 = .ok (.bipush 8, 2) := by decide +kernel
theorem dX12_leastOf_39 : decode cX12_leastOf 39 = .ok (.iconst 1, 1) := by decide +kernel
theorem dX12_leastOf_40 : decode cX12_leastOf 40 = .ok (.iload_n 2, 1) := by decide +kernel
theorem dX12_leastOf_41 : decode cX12_leastOf 41 = .ok (.ishl, 1) := by decide +kernel
theorem dX12_leastOf_42 : decode cX12_leastOf 42 = .ok (.imul, 1) := by decide +kernel
theorem dX12_leastOf_43 : decode cX12_leastOf 43 = .ok (.iload_n 2, 1) := by decide +kernel
theorem dX12_leastOf_44 : decode cX12_leastOf 44 = .ok (.iadd, 1) := by decide +kernel
theorem dX12_leastOf_45 : decode cX12_leastOf 45 = .ok (.iaload, 1) := by decide +kernel
theorem dX12_leastOf_46 : decode cX12_leastOf 46 = .ok (.invokestatic 178, 3) := by decide +kernel
theorem dX12_leastOf_49 : decode cX12_leastOf 49 = .ok (.istore_n 1, 1) := by decide +kernel
theorem dX12_leastOf_50 : decode cX12_leastOf 50 = .ok (.iinc 2 1, 3) := by decide +kernel
theorem dX12_leastOf_53 : decode cX12_leastOf 53 = .ok (.goto (-38), 3) := by decide +kernel
theorem dX12_leastOf_56 : decode cX12_leastOf 56 = .ok (.iload_n 1, 1) := by decide +kernel
theorem dX12_leastOf_57 : decode cX12_leastOf 57 = .ok (.ireturn, 1) := by decide +kernel
theorem dX12_jumps_0 : decode cX12_jumps 0 = .ok (.aload_n 0, 1) := by decide +kernel
theorem dX12_jumps_1 : decode cX12_jumps 1 = .ok (.iload_n 1, 1) := by decide +kernel
theorem dX12_jumps_2 : decode cX12_jumps 2 = .ok (.invokevirtual 289, 3) := by decide +kernel
theorem dX12_jumps_5 : decode cX12_jumps 5 = .ok (.istore_n 2, 1) := by decide +kernel
theorem dX12_jumps_6 : decode cX12_jumps 6 = .ok (.iload_n 2, 1) := by decide +kernel
theorem dX12_jumps_7 : decode cX12_jumps 7 = .ok (.ifCond .eq 5, 3) := by decide +kernel
theorem dX12_jumps_10 : decode cX12_jumps 10 = .ok (.iload_n 2, 1) := by decide +kernel
theorem dX12_jumps_11 : decode cX12_jumps 11 = .ok (.ireturn, 1) := by decide +kernel
theorem dX12_jumps_12 : decode cX12_jumps 12 = .ok (.aload_n 0, 1) := by decide +kernel
theorem dX12_jumps_13 : decode cX12_jumps 13 = .ok (.invokevirtual 292, 3) := by decide +kernel
theorem dX12_jumps_16 : decode cX12_jumps 16 = .ok (.istore_n 3, 1) := by decide +kernel
theorem dX12_jumps_17 : decode cX12_jumps 17 = .ok (.iload_n 3, 1) := by decide +kernel
theorem dX12_jumps_18 : decode cX12_jumps 18 = .ok (.ldc_w 282, 3) := by decide +kernel
theorem dX12_jumps_21 : decode cX12_jumps 21 = .ok (.if_icmp .lt 7, 3) := by decide +kernel
theorem dX12_jumps_24 : decode cX12_jumps 24 = .ok (.iconst (-1), 1) := by decide +kernel
theorem dX12_jumps_25 : decode cX12_jumps 25 = .ok (.goto 4, 3) := by decide +kernel
theorem dX12_jumps_28 : decode cX12_jumps 28 = .ok (.iload_n 3, 1) := by decide +kernel
theorem dX12_jumps_29 : decode cX12_jumps 29 = .ok (.ireturn, 1) := by decide +kernel
theorem dX12_order_0 : decode cX12_order 0 = .ok (.aload_n 0, 1) := by decide +kernel
theorem dX12_order_1 : decode cX12_order 1 = .ok (.iload_n 1, 1) := by decide +kernel
theorem dX12_order_2 : decode cX12_order 2 = .ok (.invokevirtual 289, 3) := by decide +kernel
theorem dX12_order_5 : decode cX12_order 5 = .ok (.istore_n 3, 1) := by decide +kernel
theorem dX12_order_6 : decode cX12_order 6 = .ok (.iload_n 3, 1) := by decide +kernel
theorem dX12_order_7 : decode cX12_order 7 = .ok (.ifCond .eq 5, 3) := by decide +kernel
theorem dX12_order_10 : decode cX12_order 10 = .ok (.iload_n 3, 1) := by decide +kernel
theorem dX12_order_11 : decode cX12_order 11 = .ok (.ireturn, 1) := by decide +kernel
theorem dX12_order_12 : decode cX12_order 12 = .ok (.iload_n 2, 1) := by decide +kernel
theorem dX12_order_13 : decode cX12_order 13 = .ok (.aload_n 0, 1) := by decide +kernel
theorem dX12_order_14 : decode cX12_order 14 = .ok (.getfield 272, 3) := by decide +kernel
theorem dX12_order_17 : decode cX12_order 17 = .ok (.invokestatic 135, 3) := by decide +kernel
theorem dX12_order_20 : decode cX12_order 20 = .ok (.ifCond .eq 13, 3) := by decide +kernel
theorem dX12_order_23 : decode cX12_order 23 = .ok (.aload_n 0, 1) := by decide +kernel
theorem dX12_order_24 : decode cX12_order 24 = .ok (.invokevirtual 292, 3) := by decide +kernel
theorem dX12_order_27 : decode cX12_order 27 = .ok (.ldc_w 282, 3) := by decide +kernel
theorem dX12_order_30 : decode cX12_order 30 = .ok (.if_icmp .lt 5, 3) := by decide +kernel
theorem dX12_order_33 : decode cX12_order 33 = .ok (.iconst (-1), 1) := by decide +kernel
theorem dX12_order_34 : decode cX12_order 34 = .ok (.ireturn, 1) := by decide +kernel
theorem dX12_order_35 : decode cX12_order 35 = .ok (.iconst 0, 1) := by decide +kernel
theorem dX12_order_36 : decode cX12_order 36 = .ok (.istore 4, 2) := by decide +kernel
theorem dX12_order_38 : decode cX12_order 38 = .ok (.iconst (-1), 1) := by decide +kernel
theorem dX12_order_39 : decode cX12_order 39 = .ok (.istore 5, 2) := by decide +kernel
theorem dX12_order_41 : decode cX12_order 41 = .ok (.aload_n 0, 1) := by decide +kernel
theorem dX12_order_42 : decode cX12_order 42 = .ok (.invokevirtual 292, 3) := by decide +kernel
theorem dX12_order_45 : decode cX12_order 45 = .ok (.istore 6, 2) := by decide +kernel
theorem dX12_order_47 : decode cX12_order 47 = .ok (.iconst 0, 1) := by decide +kernel
theorem dX12_order_48 : decode cX12_order 48 = .ok (.istore 7, 2) := by decide +kernel
theorem dX12_order_50 : decode cX12_order 50 = .ok (.iload 7, 2) := by decide +kernel
theorem dX12_order_52 : decode cX12_order 52 = .ok (.iload_n 2, 1) := by decide +kernel
theorem dX12_order_53 : decode cX12_order 53 = .ok (.if_icmp .gt 103, 3) := by decide +kernel
theorem dX12_order_56 : decode cX12_order 56 = .ok (.iconst 0, 1) := by decide +kernel
theorem dX12_order_57 : decode cX12_order 57 = .ok (.istore 8, 2) := by decide +kernel
theorem dX12_order_59 : decode cX12_order 59 = .ok (.aload_n 0, 1) := by decide +kernel
theorem dX12_order_60 : decode cX12_order 60 = .ok (.iload 4, 2) := by decide +kernel
theorem dX12_order_62 : decode cX12_order 62 = .ok (.iload 8, 2) := by decide +kernel
theorem dX12_order_64 : decode cX12_order 64 = .ok (.invokevirtual 283, 3) := by decide +kernel
theorem dX12_order_67 : decode cX12_order 67 = .ok (.ifCond .eq 44, 3) := by decide +kernel
theorem dX12_order_70 : decode cX12_order 70 = .ok (.iload 5, 2) := by decide +kernel
theorem dX12_order_72 : decode cX12_order 72 = .ok (.ifCond .ge 7, 3) := by decide +kernel
theorem dX12_order_75 : decode cX12_order 75 = .ok (.iconst 0, 1) := by decide +kernel
theorem dX12_order_76 : decode cX12_order 76 = .ok (.goto 11, 3) := by decide +kernel
theorem dX12_order_79 : decode cX12_order 79 = .ok (.aload_n 0, 1) := by decide +kernel
theorem dX12_order_80 : decode cX12_order 80 = .ok (.iload 5, 2) := by decide +kernel
theorem dX12_order_82 : decode cX12_order 82 = .ok (.iload 8, 2) := by decide +kernel
theorem dX12_order_84 : decode cX12_order 84 = .ok (.invokevirtual 286, 3) := by decide +kernel
theorem dX12_order_87 : decode cX12_order 87 = .ok (.aload_n 0, 1) := by decide +kernel
theorem dX12_order_88 : decode cX12_order 88 = .ok (.getfield 126, 3) := by decide +kernel
theorem dX12_order_91 : decode cX12_order 91 = .ok (.bipush 8, 2) := by decide +kernel
theorem dX12_order_93 : decode cX12_order 93 = .ok (.iload 4, 2) := by decide +kernel
theorem dX12_order_95 : decode cX12_order 95 = .ok (.iconst 1, 1) := by decide +kernel
theorem dX12_order_96 : decode cX12_order 96 = .ok (.iload 8, 2) := by decide +kernel
theorem dX12_order_98 : decode cX12_order 98 = .ok (.ishl, 1) := by decide +kernel
theorem dX12_order_99 : decode cX12_order 99 = .ok (.ior, 1) := by decide +kernel
theorem dX12_order_100 : decode cX12_order 100 = .ok (.imul, 1) := by decide +kernel
theorem dX12_order_101 : decode cX12_order 101 = .ok (.iload 8, 2) := by decide +kernel
theorem dX12_order_103 : decode cX12_order 103 = .ok (.iadd, 1) := by decide +kernel
theorem dX12_order_104 : decode cX12_order 104 = .ok (.iaload, 1) := by decide +kernel
theorem dX12_order_105 : decode cX12_order 105 = .ok (.iadd, 1) := by decide +kernel
theorem dX12_order_106 : decode cX12_order 106 = .ok (.iload 6, 2) := by decide +kernel
theorem dX12_order_108 : decode cX12_order 108 = .ok (.if_icmp .eq 9, 3) := by decide +kernel
theorem dX12_order_111 : decode cX12_order 111 = .ok (.iinc 8 1, 3) := by decide +kernel
theorem dX12_order_114 : decode cX12_order 114 = .ok (.goto (-55), 3) := by decide +kernel
theorem dX12_order_117 : decode cX12_order 117 = .ok (.aload_n 0, 1) := by decide +kernel
theorem dX12_order_118 : decode cX12_order 118 = .ok (.getfield 126, 3) := by decide +kernel
theorem dX12_order_121 : decode cX12_order 121 = .ok (.bipush 8, 2) := by decide +kernel
theorem dX12_order_123 : decode cX12_order 123 = .ok (.iload 4, 2) := by decide +kernel
theorem dX12_order_125 : decode cX12_order 125 = .ok (.iconst 1, 1) := by decide +kernel
theorem dX12_order_126 : decode cX12_order 126 = .ok (.iload 8, 2) := by decide +kernel
theorem dX12_order_128 : decode cX12_order 128 = .ok (.ishl, 1) := by decide +kernel
theorem dX12_order_129 : decode cX12_order 129 = .ok (.ior, 1) := by decide +kernel
theorem dX12_order_130 : decode cX12_order 130 = .ok (.imul, 1) := by decide +kernel
theorem dX12_order_131 : decode cX12_order 131 = .ok (.iload 8, 2) := by decide +kernel
theorem dX12_order_133 : decode cX12_order 133 = .ok (.iadd, 1) := by decide +kernel
theorem dX12_order_134 : decode cX12_order 134 = .ok (.iaload, 1) := by decide +kernel
theorem dX12_order_135 : decode cX12_order 135 = .ok (.istore 6, 2) := by decide +kernel
theorem dX12_order_137 : decode cX12_order 137 = .ok (.iload 4, 2) := by decide +kernel
theorem dX12_order_139 : decode cX12_order 139 = .ok (.iconst 1, 1) := by decide +kernel
theorem dX12_order_140 : decode cX12_order 140 = .ok (.iload 8, 2) := by decide +kernel
theorem dX12_order_142 : decode cX12_order 142 = .ok (.ishl, 1) := by decide +kernel
theorem dX12_order_143 : decode cX12_order 143 = .ok (.ior, 1) := by decide +kernel
theorem dX12_order_144 : decode cX12_order 144 = .ok (.istore 4, 2) := by decide +kernel
theorem dX12_order_146 : decode cX12_order 146 = .ok (.iload 8, 2) := by decide +kernel
theorem dX12_order_148 : decode cX12_order 148 = .ok (.istore 5, 2) := by decide +kernel
theorem dX12_order_150 : decode cX12_order 150 = .ok (.iinc 7 1, 3) := by decide +kernel
theorem dX12_order_153 : decode cX12_order 153 = .ok (.goto (-103), 3) := by decide +kernel
theorem dX12_order_156 : decode cX12_order 156 = .ok (.aload_n 0, 1) := by decide +kernel
theorem dX12_order_157 : decode cX12_order 157 = .ok (.getfield 123, 3) := by decide +kernel
theorem dX12_order_160 : decode cX12_order 160 = .ok (.iload 5, 2) := by decide +kernel
theorem dX12_order_162 : decode cX12_order 162 = .ok (.iaload, 1) := by decide +kernel
theorem dX12_order_163 : decode cX12_order 163 = .ok (.ireturn, 1) := by decide +kernel
theorem dX12_count_0 : decode cX12_count 0 = .ok (.iconst 0, 1) := by decide +kernel
theorem dX12_count_1 : decode cX12_count 1 = .ok (.istore_n 2, 1) := by decide +kernel
theorem dX12_count_2 : decode cX12_count 2 = .ok (.iload_n 1, 1) := by decide +kernel
theorem dX12_count_3 : decode cX12_count 3 = .ok (.tableswitch 107 0 5 #[37, 42, 47, 52, 97, 102], 37) := by decide +kernel
theorem dX12_count_40 : decode cX12_count 40 = .ok (.aload_n 0, 1) := by decide +kernel
theorem dX12_count_41 : decode cX12_count 41 = .ok (.getfield 139, 3) := by decide +kernel
theorem dX12_count_44 : decode cX12_count 44 = .ok (.ireturn, 1) := by decide +kernel
theorem dX12_count_45 : decode cX12_count 45 = .ok (.aload_n 0, 1) := by decide +kernel
theorem dX12_count_46 : decode cX12_count 46 = .ok (.getfield 142, 3) := by decide +kernel
theorem dX12_count_49 : decode cX12_count 49 = .ok (.ireturn, 1) := by decide +kernel
theorem dX12_count_50 : decode cX12_count 50 = .ok (.aload_n 0, 1) := by decide +kernel
theorem dX12_count_51 : decode cX12_count 51 = .ok (.getfield 155, 3) := by decide +kernel
theorem dX12_count_54 : decode cX12_count 54 = .ok (.ireturn, 1) := by decide +kernel
theorem dX12_count_55 : decode cX12_count 55 = .ok (.iconst 0, 1) := by decide +kernel
theorem dX12_count_56 : decode cX12_count 56 = .ok (.istore_n 3, 1) := by decide +kernel
theorem dX12_count_57 : decode cX12_count 57 = .ok (.iload_n 3, 1) := by decide +kernel
theorem dX12_count_58 : decode cX12_count 58 = .ok (.aload_n 0, 1) := by decide +kernel
theorem dX12_count_59 : decode cX12_count 59 = .ok (.getfield 142, 3) := by decide +kernel
theorem dX12_count_62 : decode cX12_count 62 = .ok (.if_icmp .ge 36, 3) := by decide +kernel
theorem dX12_count_65 : decode cX12_count 65 = .ok (.iload_n 2, 1) := by decide +kernel
theorem dX12_count_66 : decode cX12_count 66 = .ok (.aload_n 0, 1) := by decide +kernel
theorem dX12_count_67 : decode cX12_count 67 = .ok (.getfield 26, 3) := by decide +kernel
theorem dX12_count_70 : decode cX12_count 70 = .ok (.iload_n 3, 1) := by decide +kernel
theorem dX12_count_71 : decode cX12_count 71 = .ok (.iaload, 1) := by decide +kernel
theorem dX12_count_72 : decode cX12_count 72 = .ok (.iconst 4, 1) := by decide +kernel
theorem dX12_count_73 : decode cX12_count 73 = .ok (.if_icmp .ne 16, 3) := by decide +kernel
theorem dX12_count_76 : decode cX12_count 76 = .ok (.aload_n 0, 1) := by decide +kernel
theorem dX12_count_77 : decode cX12_count 77 = .ok (.getfield 47, 3) := by decide +kernel
theorem dX12_count_80 : decode cX12_count 80 = .ok (.iload_n 3, 1) := by decide +kernel
theorem dX12_count_81 : decode cX12_count 81 = .ok (.iaload, 1) := by decide +kernel
theorem dX12_count_82 : decode cX12_count 82 = .ok (.ifCond .ge 7, 3) := by decide +kernel
theorem dX12_count_85 : decode cX12_count 85 = .ok (.iconst 1, 1) := by decide +kernel
theorem dX12_count_86 : decode cX12_count 86 = .ok (.goto 4, 3) := by decide +kernel
theorem dX12_count_89 : decode cX12_count 89 = .ok (.iconst 0, 1) := by decide +kernel
theorem dX12_count_90 : decode cX12_count 90 = .ok (.iadd, 1) := by decide +kernel
theorem dX12_count_91 : decode cX12_count 91 = .ok (.istore_n 2, 1) := by decide +kernel
theorem dX12_count_92 : decode cX12_count 92 = .ok (.iinc 3 1, 3) := by decide +kernel
theorem dX12_count_95 : decode cX12_count 95 = .ok (.goto (-38), 3) := by decide +kernel
theorem dX12_count_98 : decode cX12_count 98 = .ok (.iload_n 2, 1) := by decide +kernel
theorem dX12_count_99 : decode cX12_count 99 = .ok (.ireturn, 1) := by decide +kernel
theorem dX12_count_100 : decode cX12_count 100 = .ok (.aload_n 0, 1) := by decide +kernel
theorem dX12_count_101 : decode cX12_count 101 = .ok (.getfield 215, 3) := by decide +kernel
theorem dX12_count_104 : decode cX12_count 104 = .ok (.ireturn, 1) := by decide +kernel
theorem dX12_count_105 : decode cX12_count 105 = .ok (.aload_n 0, 1) := by decide +kernel
theorem dX12_count_106 : decode cX12_count 106 = .ok (.getfield 203, 3) := by decide +kernel
theorem dX12_count_109 : decode cX12_count 109 = .ok (.ireturn, 1) := by decide +kernel
theorem dX12_count_110 : decode cX12_count 110 = .ok (.bipush (-2), 2) := by decide +kernel
theorem dX12_count_112 : decode cX12_count 112 = .ok (.ireturn, 1) := by decide +kernel
theorem dX12_tray_0 : decode cX12_tray 0 = .ok (.iload_n 1, 1) := by decide +kernel
theorem dX12_tray_1 : decode cX12_tray 1 = .ok (.iconst 4, 1) := by decide +kernel
theorem dX12_tray_2 : decode cX12_tray 2 = .ok (.invokestatic 135, 3) := by decide +kernel
theorem dX12_tray_5 : decode cX12_tray 5 = .ok (.ifCond .eq 9, 3) := by decide +kernel
theorem dX12_tray_8 : decode cX12_tray 8 = .ok (.iload_n 2, 1) := by decide +kernel
theorem dX12_tray_9 : decode cX12_tray 9 = .ok (.bipush 60, 2) := by decide +kernel
theorem dX12_tray_11 : decode cX12_tray 11 = .ok (.if_icmp .le 6, 3) := by decide +kernel
theorem dX12_tray_14 : decode cX12_tray 14 = .ok (.bipush (-2), 2) := by decide +kernel
theorem dX12_tray_16 : decode cX12_tray 16 = .ok (.ireturn, 1) := by decide +kernel
theorem dX12_tray_17 : decode cX12_tray 17 = .ok (.iload_n 2, 1) := by decide +kernel
theorem dX12_tray_18 : decode cX12_tray 18 = .ok (.iconst (-1), 1) := by decide +kernel
theorem dX12_tray_19 : decode cX12_tray 19 = .ok (.if_icmp .ge 6, 3) := by decide +kernel
theorem dX12_tray_22 : decode cX12_tray 22 = .ok (.bipush (-14), 2) := by decide +kernel
theorem dX12_tray_24 : decode cX12_tray 24 = .ok (.ireturn, 1) := by decide +kernel
theorem dX12_tray_25 : decode cX12_tray 25 = .ok (.aload_n 0, 1) := by decide +kernel
theorem dX12_tray_26 : decode cX12_tray 26 = .ok (.getfield 129, 3) := by decide +kernel
theorem dX12_tray_29 : decode cX12_tray 29 = .ok (.iload_n 1, 1) := by decide +kernel
theorem dX12_tray_30 : decode cX12_tray 30 = .ok (.iload_n 2, 1) := by decide +kernel
theorem dX12_tray_31 : decode cX12_tray 31 = .ok (.iastore, 1) := by decide +kernel
theorem dX12_tray_32 : decode cX12_tray 32 = .ok (.iconst 0, 1) := by decide +kernel
theorem dX12_tray_33 : decode cX12_tray 33 = .ok (.istore_n 3, 1) := by decide +kernel
theorem dX12_tray_34 : decode cX12_tray 34 = .ok (.iload_n 3, 1) := by decide +kernel
theorem dX12_tray_35 : decode cX12_tray 35 = .ok (.bipush 60, 2) := by decide +kernel
theorem dX12_tray_37 : decode cX12_tray 37 = .ok (.if_icmp .ge 21, 3) := by decide +kernel
theorem dX12_tray_40 : decode cX12_tray 40 = .ok (.aload_n 0, 1) := by decide +kernel
theorem dX12_tray_41 : decode cX12_tray 41 = .ok (.getfield 132, 3) := by decide +kernel
theorem dX12_tray_44 : decode cX12_tray 44 = .ok (.bipush 60, 2) := by decide +kernel
theorem dX12_tray_46 : decode cX12_tray 46 = .ok (.iload_n 1, 1) := by decide +kernel
theorem dX12_tray_47 : decode cX12_tray 47 = .ok (.imul, 1) := by decide +kernel
theorem dX12_tray_48 : decode cX12_tray 48 = .ok (.iload_n 3, 1) := by decide +kernel
theorem dX12_tray_49 : decode cX12_tray 49 = .ok (.iadd, 1) := by decide +kernel
theorem dX12_tray_50 : decode cX12_tray 50 = .ok (.iconst 0, 1) := by decide +kernel
theorem dX12_tray_51 : decode cX12_tray 51 = .ok (.iastore, 1) := by decide +kernel
theorem dX12_tray_52 : decode cX12_tray 52 = .ok (.iinc 3 1, 3) := by decide +kernel
theorem dX12_tray_55 : decode cX12_tray 55 = .ok (.goto (-21), 3) := by decide +kernel
theorem dX12_tray_58 : decode cX12_tray 58 = .ok (.iconst 1, 1) := by decide +kernel
theorem dX12_tray_59 : decode cX12_tray 59 = .ok (.ireturn, 1) := by decide +kernel
theorem dX12_cell_0 : decode cX12_cell 0 = .ok (.iload_n 1, 1) := by decide +kernel
theorem dX12_cell_1 : decode cX12_cell 1 = .ok (.iconst 4, 1) := by decide +kernel
theorem dX12_cell_2 : decode cX12_cell 2 = .ok (.invokestatic 135, 3) := by decide +kernel
theorem dX12_cell_5 : decode cX12_cell 5 = .ok (.ifCond .ne 6, 3) := by decide +kernel
theorem dX12_cell_8 : decode cX12_cell 8 = .ok (.bipush (-2), 2) := by decide +kernel
theorem dX12_cell_10 : decode cX12_cell 10 = .ok (.ireturn, 1) := by decide +kernel
theorem dX12_cell_11 : decode cX12_cell 11 = .ok (.aload_n 0, 1) := by decide +kernel
theorem dX12_cell_12 : decode cX12_cell 12 = .ok (.getfield 129, 3) := by decide +kernel
theorem dX12_cell_15 : decode cX12_cell 15 = .ok (.iload_n 1, 1) := by decide +kernel
theorem dX12_cell_16 : decode cX12_cell 16 = .ok (.iaload, 1) := by decide +kernel
theorem dX12_cell_17 : decode cX12_cell 17 = .ok (.ifCond .ge 6, 3) := by decide +kernel
theorem dX12_cell_20 : decode cX12_cell 20 = .ok (.bipush (-11), 2) := by decide +kernel
theorem dX12_cell_22 : decode cX12_cell 22 = .ok (.ireturn, 1) := by decide +kernel
theorem dX12_cell_23 : decode cX12_cell 23 = .ok (.iload_n 2, 1) := by decide +kernel
theorem dX12_cell_24 : decode cX12_cell 24 = .ok (.aload_n 0, 1) := by decide +kernel
theorem dX12_cell_25 : decode cX12_cell 25 = .ok (.getfield 129, 3) := by decide +kernel
theorem dX12_cell_28 : decode cX12_cell 28 = .ok (.iload_n 1, 1) := by decide +kernel
theorem dX12_cell_29 : decode cX12_cell 29 = .ok (.iaload, 1) := by decide +kernel
theorem dX12_cell_30 : decode cX12_cell 30 = .ok (.invokestatic 135, 3) := by decide +kernel
theorem dX12_cell_33 : decode cX12_cell 33 = .ok (.ifCond .ne 6, 3) := by decide +kernel
theorem dX12_cell_36 : decode cX12_cell 36 = .ok (.bipush (-12), 2) := by decide +kernel
theorem dX12_cell_38 : decode cX12_cell 38 = .ok (.ireturn, 1) := by decide +kernel
theorem dX12_cell_39 : decode cX12_cell 39 = .ok (.aload_n 0, 1) := by decide +kernel
theorem dX12_cell_40 : decode cX12_cell 40 = .ok (.getfield 132, 3) := by decide +kernel
theorem dX12_cell_43 : decode cX12_cell 43 = .ok (.bipush 60, 2) := by decide +kernel
theorem dX12_cell_45 : decode cX12_cell 45 = .ok (.iload_n 1, 1) := by decide +kernel
theorem dX12_cell_46 : decode cX12_cell 46 = .ok (.imul, 1) := by decide +kernel
theorem dX12_cell_47 : decode cX12_cell 47 = .ok (.iload_n 2, 1) := by decide +kernel
theorem dX12_cell_48 : decode cX12_cell 48 = .ok (.iadd, 1) := by decide +kernel
theorem dX12_cell_49 : decode cX12_cell 49 = .ok (.iload_n 3, 1) := by decide +kernel
theorem dX12_cell_50 : decode cX12_cell 50 = .ok (.sipush 255, 3) := by decide +kernel
theorem dX12_cell_53 : decode cX12_cell 53 = .ok (.iand, 1) := by decide +kernel
theorem dX12_cell_54 : decode cX12_cell 54 = .ok (.iastore, 1) := by decide +kernel
theorem dX12_cell_55 : decode cX12_cell 55 = .ok (.iconst 1, 1) := by decide +kernel
theorem dX12_cell_56 : decode cX12_cell 56 = .ok (.ireturn, 1) := by decide +kernel
theorem dX12_lay_0 : decode cX12_lay 0 = .ok (.iload_n 1, 1) := by decide +kernel
theorem dX12_lay_1 : decode cX12_lay 1 = .ok (.iconst 4, 1) := by decide +kernel
theorem dX12_lay_2 : decode cX12_lay 2 = .ok (.invokestatic 135, 3) := by decide +kernel
theorem dX12_lay_5 : decode cX12_lay 5 = .ok (.ifCond .eq 7, 3) := by decide +kernel
theorem dX12_lay_8 : decode cX12_lay 8 = .ok (.iload_n 3, 1) := by decide +kernel
theorem dX12_lay_9 : decode cX12_lay 9 = .ok (.ifCond .ge 6, 3) := by decide +kernel
theorem dX12_lay_12 : decode cX12_lay 12 = .ok (.bipush (-2), 2) := by decide +kernel
theorem dX12_lay_14 : decode cX12_lay 14 = .ok (.ireturn, 1) := by decide +kernel
theorem dX12_lay_15 : decode cX12_lay 15 = .ok (.aload_n 0, 1) := by decide +kernel
theorem dX12_lay_16 : decode cX12_lay 16 = .ok (.getfield 129, 3) := by decide +kernel
theorem dX12_lay_19 : decode cX12_lay 19 = .ok (.iload_n 1, 1) := by decide +kernel
theorem dX12_lay_20 : decode cX12_lay 20 = .ok (.iaload, 1) := by decide +kernel
theorem dX12_lay_21 : decode cX12_lay 21 = .ok (.ifCond .ge 6, 3) := by decide +kernel
theorem dX12_lay_24 : decode cX12_lay 24 = .ok (.bipush (-11), 2) := by decide +kernel
theorem dX12_lay_26 : decode cX12_lay 26 = .ok (.ireturn, 1) := by decide +kernel
theorem dX12_lay_27 : decode cX12_lay 27 = .ok (.iconst 0, 1) := by decide +kernel
theorem dX12_lay_28 : decode cX12_lay 28 = .ok (.istore 4, 2) := by decide +kernel
theorem dX12_lay_30 : decode cX12_lay 30 = .ok (.iload 4, 2) := by decide +kernel
theorem dX12_lay_32 : decode cX12_lay 32 = .ok (.iload_n 3, 1) := by decide +kernel
theorem dX12_lay_33 : decode cX12_lay 33 = .ok (.if_icmp .ge 85, 3) := by decide +kernel
theorem dX12_lay_36 : decode cX12_lay 36 = .ok (.iload_n 2, 1) := by decide +kernel
theorem dX12_lay_37 : decode cX12_lay 37 = .ok (.i2l, 1) := by decide +kernel
theorem dX12_lay_38 : decode cX12_lay 38 = .ok (.iload 4, 2) := by decide +kernel
theorem dX12_lay_40 : decode cX12_lay 40 = .ok (.i2l, 1) := by decide +kernel
theorem dX12_lay_41 : decode cX12_lay 41 = .ok (.ladd, 1) := by decide +kernel
theorem dX12_lay_42 : decode cX12_lay 42 = .ok (.lstore 5, 2) := by decide +kernel
theorem dX12_lay_44 : decode cX12_lay 44 = .ok (.lload 5, 2) := by decide +kernel
theorem dX12_lay_46 : decode cX12_lay 46 = .ok (.lconst 0, 1) := by decide +kernel
theorem dX12_lay_47 : decode cX12_lay 47 = .ok (.lcmp, 1) := by decide +kernel
theorem dX12_lay_48 : decode cX12_lay 48 = .ok (.ifCond .lt 16, 3) := by decide +kernel
theorem dX12_lay_51 : decode cX12_lay 51 = .ok (.lload 5, 2) := by decide +kernel
theorem dX12_lay_53 : decode cX12_lay 53 = .ok (.aload_n 0, 1) := by decide +kernel
theorem dX12_lay_54 : decode cX12_lay 54 = .ok (.getfield 129, 3) := by decide +kernel
theorem dX12_lay_57 : decode cX12_lay 57 = .ok (.iload_n 1, 1) := by decide +kernel
theorem dX12_lay_58 : decode cX12_lay 58 = .ok (.iaload, 1) := by decide +kernel
theorem dX12_lay_59 : decode cX12_lay 59 = .ok (.i2l, 1) := by decide +kernel
theorem dX12_lay_60 : decode cX12_lay 60 = .ok (.lcmp, 1) := by decide +kernel
theorem dX12_lay_61 : decode cX12_lay 61 = .ok (.ifCond .lt 6, 3) := by decide +kernel
theorem dX12_lay_64 : decode cX12_lay 64 = .ok (.bipush (-12), 2) := by decide +kernel
theorem dX12_lay_66 : decode cX12_lay 66 = .ok (.ireturn, 1) := by decide +kernel
theorem dX12_lay_67 : decode cX12_lay 67 = .ok (.aload_n 0, 1) := by decide +kernel
theorem dX12_lay_68 : decode cX12_lay 68 = .ok (.getfield 215, 3) := by decide +kernel
theorem dX12_lay_71 : decode cX12_lay 71 = .ok (.sipush 160, 3) := by decide +kernel
theorem dX12_lay_74 : decode cX12_lay 74 = .ok (.if_icmp .ne 6, 3) := by decide +kernel
theorem dX12_lay_77 : decode cX12_lay 77 = .ok (.bipush (-4), 2) := by decide +kernel
theorem dX12_lay_79 : decode cX12_lay 79 = .ok (.ireturn, 1) := by decide +kernel
theorem dX12_lay_80 : decode cX12_lay 80 = .ok (.aload_n 0, 1) := by decide +kernel
theorem dX12_lay_81 : decode cX12_lay 81 = .ok (.getfield 80, 3) := by decide +kernel
theorem dX12_lay_84 : decode cX12_lay 84 = .ok (.aload_n 0, 1) := by decide +kernel
theorem dX12_lay_85 : decode cX12_lay 85 = .ok (.getfield 215, 3) := by decide +kernel
theorem dX12_lay_88 : decode cX12_lay 88 = .ok (.aload_n 0, 1) := by decide +kernel
theorem dX12_lay_89 : decode cX12_lay 89 = .ok (.getfield 132, 3) := by decide +kernel
theorem dX12_lay_92 : decode cX12_lay 92 = .ok (.bipush 60, 2) := by decide +kernel
theorem dX12_lay_94 : decode cX12_lay 94 = .ok (.iload_n 1, 1) := by decide +kernel
theorem dX12_lay_95 : decode cX12_lay 95 = .ok (.imul, 1) := by decide +kernel
theorem dX12_lay_96 : decode cX12_lay 96 = .ok (.lload 5, 2) := by decide +kernel
theorem dX12_lay_98 : decode cX12_lay 98 = .ok (.l2i, 1) := by decide +kernel
theorem dX12_lay_99 : decode cX12_lay 99 = .ok (.iadd, 1) := by decide +kernel
theorem dX12_lay_100 : decode cX12_lay 100 = .ok (.iaload, 1) := by decide +kernel
theorem dX12_lay_101 : decode cX12_lay 101 = .ok (.iastore, 1) := by decide +kernel
theorem dX12_lay_102 : decode cX12_lay 102 = .ok (.aload_n 0, 1) := by decide +kernel
theorem dX12_lay_103 : decode cX12_lay 103 = .ok (.dup, 1) := by decide +kernel
theorem dX12_lay_104 : decode cX12_lay 104 = .ok (.getfield 215, 3) := by decide +kernel
theorem dX12_lay_107 : decode cX12_lay 107 = .ok (.iconst 1, 1) := by decide +kernel
theorem dX12_lay_108 : decode cX12_lay 108 = .ok (.iadd, 1) := by decide +kernel
theorem dX12_lay_109 : decode cX12_lay 109 = .ok (.putfield 215, 3) := by decide +kernel
theorem dX12_lay_112 : decode cX12_lay 112 = .ok (.iinc 4 1, 3) := by decide +kernel
theorem dX12_lay_115 : decode cX12_lay 115 = .ok (.goto (-85), 3) := by decide +kernel
theorem dX12_lay_118 : decode cX12_lay 118 = .ok (.aload_n 0, 1) := by decide +kernel
theorem dX12_lay_119 : decode cX12_lay 119 = .ok (.getfield 215, 3) := by decide +kernel
theorem dX12_lay_122 : decode cX12_lay 122 = .ok (.ireturn, 1) := by decide +kernel
theorem dX12_taken_0 : decode cX12_taken 0 = .ok (.iload_n 2, 1) := by decide +kernel
theorem dX12_taken_1 : decode cX12_taken 1 = .ok (.bipush 6, 2) := by decide +kernel
theorem dX12_taken_3 : decode cX12_taken 3 = .ok (.invokestatic 135, 3) := by decide +kernel
theorem dX12_taken_6 : decode cX12_taken 6 = .ok (.ifCond .ne 6, 3) := by decide +kernel
theorem dX12_taken_9 : decode cX12_taken 9 = .ok (.bipush (-2), 2) := by decide +kernel
theorem dX12_taken_11 : decode cX12_taken 11 = .ok (.ireturn, 1) := by decide +kernel
theorem dX12_taken_12 : decode cX12_taken 12 = .ok (.aload_n 0, 1) := by decide +kernel
theorem dX12_taken_13 : decode cX12_taken 13 = .ok (.iload_n 1, 1) := by decide +kernel
theorem dX12_taken_14 : decode cX12_taken 14 = .ok (.invokevirtual 152, 3) := by decide +kernel
theorem dX12_taken_17 : decode cX12_taken 17 = .ok (.ifCond .ne 6, 3) := by decide +kernel
theorem dX12_taken_20 : decode cX12_taken 20 = .ok (.bipush (-11), 2) := by decide +kernel
theorem dX12_taken_22 : decode cX12_taken 22 = .ok (.ireturn, 1) := by decide +kernel
theorem dX12_taken_23 : decode cX12_taken 23 = .ok (.iload_n 2, 1) := by decide +kernel
theorem dX12_taken_24 : decode cX12_taken 24 = .ok (.ifCond .eq 28, 3) := by decide +kernel
theorem dX12_taken_27 : decode cX12_taken 27 = .ok (.iload_n 2, 1) := by decide +kernel
theorem dX12_taken_28 : decode cX12_taken 28 = .ok (.aload_n 0, 1) := by decide +kernel
theorem dX12_taken_29 : decode cX12_taken 29 = .ok (.getfield 26, 3) := by decide +kernel
theorem dX12_taken_32 : decode cX12_taken 32 = .ok (.iload_n 1, 1) := by decide +kernel
theorem dX12_taken_33 : decode cX12_taken 33 = .ok (.iaload, 1) := by decide +kernel
theorem dX12_taken_34 : decode cX12_taken 34 = .ok (.if_icmp .eq 18, 3) := by decide +kernel
theorem dX12_taken_37 : decode cX12_taken 37 = .ok (.iload_n 2, 1) := by decide +kernel
theorem dX12_taken_38 : decode cX12_taken 38 = .ok (.iconst 2, 1) := by decide +kernel
theorem dX12_taken_39 : decode cX12_taken 39 = .ok (.if_icmp .ne 22, 3) := by decide +kernel
theorem dX12_taken_42 : decode cX12_taken 42 = .ok (.aload_n 0, 1) := by decide +kernel
theorem dX12_taken_43 : decode cX12_taken 43 = .ok (.getfield 26, 3) := by decide +kernel
theorem dX12_taken_46 : decode cX12_taken 46 = .ok (.iload_n 1, 1) := by decide +kernel
theorem dX12_taken_47 : decode cX12_taken 47 = .ok (.iaload, 1) := by decide +kernel
theorem dX12_taken_48 : decode cX12_taken 48 = .ok (.iconst 5, 1) := by decide +kernel
theorem dX12_taken_49 : decode cX12_taken 49 = .ok (.if_icmp .ne 12, 3) := by decide +kernel
theorem dX12_taken_52 : decode cX12_taken 52 = .ok (.aload_n 0, 1) := by decide +kernel
theorem dX12_taken_53 : decode cX12_taken 53 = .ok (.getfield 29, 3) := by decide +kernel
theorem dX12_taken_56 : decode cX12_taken 56 = .ok (.iload_n 1, 1) := by decide +kernel
theorem dX12_taken_57 : decode cX12_taken 57 = .ok (.iaload, 1) := by decide +kernel
theorem dX12_taken_58 : decode cX12_taken 58 = .ok (.goto 5, 3) := by decide +kernel
theorem dX12_taken_61 : decode cX12_taken 61 = .ok (.bipush (-13), 2) := by decide +kernel
theorem dX12_taken_63 : decode cX12_taken 63 = .ok (.ireturn, 1) := by decide +kernel
