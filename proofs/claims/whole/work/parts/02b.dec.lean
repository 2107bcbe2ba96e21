theorem dX11_init_0 : decode cX11_init 0 = .ok (.aload_n 0, 1) := by decide +kernel
theorem dX11_init_1 : decode cX11_init 1 = .ok (.invokespecial 1, 3) := by decide +kernel
theorem dX11_init_4 : decode cX11_init 4 = .ok (.aload_n 0, 1) := by decide +kernel
theorem dX11_init_5 : decode cX11_init 5 = .ok (.bipush 12, 2) := by decide +kernel
theorem dX11_init_7 : decode cX11_init 7 = .ok (.newarray .int, 2) := by decide +kernel
theorem dX11_init_9 : decode cX11_init 9 = .ok (.putfield 7, 3) := by decide +kernel
theorem dX11_init_12 : decode cX11_init 12 = .ok (.aload_n 0, 1) := by decide +kernel
theorem dX11_init_13 : decode cX11_init 13 = .ok (.bipush 12, 2) := by decide +kernel
theorem dX11_init_15 : decode cX11_init 15 = .ok (.newarray .int, 2) := by decide +kernel
theorem dX11_init_17 : decode cX11_init 17 = .ok (.putfield 13, 3) := by decide +kernel
theorem dX11_init_20 : decode cX11_init 20 = .ok (.aload_n 0, 1) := by decide +kernel
theorem dX11_init_21 : decode cX11_init 21 = .ok (.bipush 12, 2) := by decide +kernel
theorem dX11_init_23 : decode cX11_init 23 = .ok (.newarray .int, 2) := by decide +kernel
theorem dX11_init_25 : decode cX11_init 25 = .ok (.putfield 16, 3) := by decide +kernel
theorem dX11_init_28 : decode cX11_init 28 = .ok (.aload_n 0, 1) := by decide +kernel
theorem dX11_init_29 : decode cX11_init 29 = .ok (.bipush 12, 2) := by decide +kernel
theorem dX11_init_31 : decode cX11_init 31 = .ok (.newarray .int, 2) := by decide +kernel
theorem dX11_init_33 : decode cX11_init 33 = .ok (.putfield 19, 3) := by decide +kernel
theorem dX11_init_36 : decode cX11_init 36 = .ok (.aload_n 0, 1) := by decide +kernel
theorem dX11_init_37 : decode cX11_init 37 = .ok (.bipush 12, 2) := by decide +kernel
theorem dX11_init_39 : decode cX11_init 39 = .ok (.newarray .int, 2) := by decide +kernel
theorem dX11_init_41 : decode cX11_init 41 = .ok (.putfield 22, 3) := by decide +kernel
theorem dX11_init_44 : decode cX11_init 44 = .ok (.aload_n 0, 1) := by decide +kernel
theorem dX11_init_45 : decode cX11_init 45 = .ok (.bipush 12, 2) := by decide +kernel
theorem dX11_init_47 : decode cX11_init 47 = .ok (.newarray .boolean, 2) := by decide +kernel
theorem dX11_init_49 : decode cX11_init 49 = .ok (.putfield 25, 3) := by decide +kernel
theorem dX11_init_52 : decode cX11_init 52 = .ok (.aload_n 0, 1) := by decide +kernel
theorem dX11_init_53 : decode cX11_init 53 = .ok (.bipush 12, 2) := by decide +kernel
theorem dX11_init_55 : decode cX11_init 55 = .ok (.newarray .boolean, 2) := by decide +kernel
theorem dX11_init_57 : decode cX11_init 57 = .ok (.putfield 29, 3) := by decide +kernel
theorem dX11_init_60 : decode cX11_init 60 = .ok (.aload_n 0, 1) := by decide +kernel
theorem dX11_init_61 : decode cX11_init 61 = .ok (.bipush 12, 2) := by decide +kernel
theorem dX11_init_63 : decode cX11_init 63 = .ok (.newarray .boolean, 2) := by decide +kernel
theorem dX11_init_65 : decode cX11_init 65 = .ok (.putfield 32, 3) := by decide +kernel
theorem dX11_init_68 : decode cX11_init 68 = .ok (.aload_n 0, 1) := by decide +kernel
theorem dX11_init_69 : decode cX11_init 69 = .ok (.bipush 12, 2) := by decide +kernel
theorem dX11_init_71 : decode cX11_init 71 = .ok (.newarray .int, 2) := by decide +kernel
theorem dX11_init_73 : decode cX11_init 73 = .ok (.putfield 35, 3) := by decide +kernel
theorem dX11_init_76 : decode cX11_init 76 = .ok (.aload_n 0, 1) := by decide +kernel
theorem dX11_init_77 : decode cX11_init 77 = .ok (.bipush 12, 2) := by decide +kernel
theorem dX11_init_79 : decode cX11_init 79 = .ok (.newarray .int, 2) := by decide +kernel
theorem dX11_init_81 : decode cX11_init 81 = .ok (.putfield 38, 3) := by decide +kernel
theorem dX11_init_84 : decode cX11_init 84 = .ok (.aload_n 0, 1) := by decide +kernel
theorem dX11_init_85 : decode cX11_init 85 = .ok (.bipush 12, 2) := by decide +kernel
theorem dX11_init_87 : decode cX11_init 87 = .ok (.newarray .int, 2) := by decide +kernel
theorem dX11_init_89 : decode cX11_init 89 = .ok (.putfield 41, 3) := by decide +kernel
theorem dX11_init_92 : decode cX11_init 92 = .ok (.aload_n 0, 1) := by decide +kernel
theorem dX11_init_93 : decode cX11_init 93 = .ok (.bipush 12, 2) := by decide +kernel
theorem dX11_init_95 : decode cX11_init 95 = .ok (.newarray .int, 2) := by decide +kernel
theorem dX11_init_97 : decode cX11_init 97 = .ok (.putfield 44, 3) := by decide +kernel
theorem dX11_init_100 : decode cX11_init 100 = .ok (.aload_n 0, 1) := by decide +kernel
theorem dX11_init_101 : decode cX11_init 101 = .ok (.bipush 12, 2) := by decide +kernel
theorem dX11_init_103 : decode cX11_init 103 = .ok (.newarray .int, 2) := by decide +kernel
theorem dX11_init_105 : decode cX11_init 105 = .ok (.putfield 47, 3) := by decide +kernel
theorem dX11_init_108 : decode cX11_init 108 = .ok (.aload_n 0, 1) := by decide +kernel
theorem dX11_init_109 : decode cX11_init 109 = .ok (.bipush 12, 2) := by decide +kernel
theorem dX11_init_111 : decode cX11_init 111 = .ok (.newarray .int, 2) := by decide +kernel
theorem dX11_init_113 : decode cX11_init 113 = .ok (.putfield 50, 3) := by decide +kernel
theorem dX11_init_116 : decode cX11_init 116 = .ok (.aload_n 0, 1) := by decide +kernel
theorem dX11_init_117 : decode cX11_init 117 = .ok (.bipush 12, 2) := by decide +kernel
theorem dX11_init_119 : decode cX11_init 119 = .ok (.newarray .int, 2) := by decide +kernel
theorem dX11_init_121 : decode cX11_init 121 = .ok (.putfield 53, 3) := by decide +kernel
theorem dX11_init_124 : decode cX11_init 124 = .ok (.aload_n 0, 1) := by decide +kernel
theorem dX11_init_125 : decode cX11_init 125 = .ok (.bipush 12, 2) := by decide +kernel
theorem dX11_init_127 : decode cX11_init 127 = .ok (.newarray .int, 2) := by decide +kernel
theorem dX11_init_129 : decode cX11_init 129 = .ok (.putfield 56, 3) := by decide +kernel
theorem dX11_init_132 : decode cX11_init 132 = .ok (.aload_n 0, 1) := by decide +kernel
theorem dX11_init_133 : decode cX11_init 133 = .ok (.bipush 12, 2) := by decide +kernel
theorem dX11_init_135 : decode cX11_init 135 = .ok (.newarray .int, 2) := by decide +kernel
theorem dX11_init_137 : decode cX11_init 137 = .ok (.putfield 59, 3) := by decide +kernel
theorem dX11_init_140 : decode cX11_init 140 = .ok (.aload_n 0, 1) := by decide +kernel
theorem dX11_init_141 : decode cX11_init 141 = .ok (.sipush 132, 3) := by decide +kernel
theorem dX11_init_144 : decode cX11_init 144 = .ok (.newarray .int, 2) := by decide +kernel
theorem dX11_init_146 : decode cX11_init 146 = .ok (.putfield 62, 3) := by decide +kernel
theorem dX11_init_149 : decode cX11_init 149 = .ok (.aload_n 0, 1) := by decide +kernel
theorem dX11_init_150 : decode cX11_init 150 = .ok (.bipush 30, 2) := by decide +kernel
theorem dX11_init_152 : decode cX11_init 152 = .ok (.newarray .int, 2) := by decide +kernel
theorem dX11_init_154 : decode cX11_init 154 = .ok (.putfield 65, 3) := by decide +kernel
theorem dX11_init_157 : decode cX11_init 157 = .ok (.aload_n 0, 1) := by decide +kernel
theorem dX11_init_158 : decode cX11_init 158 = .ok (.bipush 30, 2) := by decide +kernel
theorem dX11_init_160 : decode cX11_init 160 = .ok (.newarray .int, 2) := by decide +kernel
theorem dX11_init_162 : decode cX11_init 162 = .ok (.putfield 68, 3) := by decide +kernel
theorem dX11_init_165 : decode cX11_init 165 = .ok (.aload_n 0, 1) := by decide +kernel
theorem dX11_init_166 : decode cX11_init 166 = .ok (.bipush 30, 2) := by decide +kernel
theorem dX11_init_168 : decode cX11_init 168 = .ok (.newarray .int, 2) := by decide +kernel
theorem dX11_init_170 : decode cX11_init 170 = .ok (.putfield 71, 3) := by decide +kernel
theorem dX11_init_173 : decode cX11_init 173 = .ok (.aload_n 0, 1) := by decide +kernel
theorem dX11_init_174 : decode cX11_init 174 = .ok (.bipush 30, 2) := by decide +kernel
theorem dX11_init_176 : decode cX11_init 176 = .ok (.newarray .int, 2) := by decide +kernel
theorem dX11_init_178 : decode cX11_init 178 = .ok (.putfield 74, 3) := by decide +kernel
theorem dX11_init_181 : decode cX11_init 181 = .ok (.aload_n 0, 1) := by decide +kernel
theorem dX11_init_182 : decode cX11_init 182 = .ok (.bipush 30, 2) := by decide +kernel
theorem dX11_init_184 : decode cX11_init 184 = .ok (.newarray .int, 2) := by decide +kernel
theorem dX11_init_186 : decode cX11_init 186 = .ok (.putfield 77, 3) := by decide +kernel
theorem dX11_init_189 : decode cX11_init 189 = .ok (.aload_n 0, 1) := by decide +kernel
theorem dX11_init_190 : decode cX11_init 190 = .ok (.bipush 30, 2) := by decide +kernel
theorem dX11_init_192 : decode cX11_init 192 = .ok (.newarray .int, 2) := by decide +kernel
theorem dX11_init_194 : decode cX11_init 194 = .ok (.putfield 80, 3) := by decide +kernel
theorem dX11_init_197 : decode cX11_init 197 = .ok (.aload_n 0, 1) := by decide +kernel
theorem dX11_init_198 : decode cX11_init 198 = .ok (.bipush 10, 2) := by decide +kernel
theorem dX11_init_200 : decode cX11_init 200 = .ok (.newarray .int, 2) := by decide +kernel
theorem dX11_init_202 : decode cX11_init 202 = .ok (.putfield 83, 3) := by decide +kernel
theorem dX11_init_205 : decode cX11_init 205 = .ok (.aload_n 0, 1) := by decide +kernel
theorem dX11_init_206 : decode cX11_init 206 = .ok (.bipush 30, 2) := by decide +kernel
theorem dX11_init_208 : decode cX11_init 208 = .ok (.newarray .int, 2) := by decide +kernel
theorem dX11_init_210 : decode cX11_init 210 = .ok (.putfield 86, 3) := by decide +kernel
theorem dX11_init_213 : decode cX11_init 213 = .ok (.aload_n 0, 1) := by decide +kernel
theorem dX11_init_214 : decode cX11_init 214 = .ok (.bipush 10, 2) := by decide +kernel
theorem dX11_init_216 : decode cX11_init 216 = .ok (.newarray .int, 2) := by decide +kernel
theorem dX11_init_218 : decode cX11_init 218 = .ok (.putfield 89, 3) := by decide +kernel
theorem dX11_init_221 : decode cX11_init 221 = .ok (.aload_n 0, 1) := by decide +kernel
theorem dX11_init_222 : decode cX11_init 222 = .ok (.bipush 100, 2) := by decide +kernel
theorem dX11_init_224 : decode cX11_init 224 = .ok (.newarray .int, 2) := by decide +kernel
theorem dX11_init_226 : decode cX11_init 226 = .ok (.putfield 92, 3) := by decide +kernel
theorem dX11_init_229 : decode cX11_init 229 = .ok (.aload_n 0, 1) := by decide +kernel
theorem dX11_init_230 : decode cX11_init 230 = .ok (.bipush 30, 2) := by decide +kernel
theorem dX11_init_232 : decode cX11_init 232 = .ok (.newarray .int, 2) := by decide +kernel
theorem dX11_init_234 : decode cX11_init 234 = .ok (.putfield 95, 3) := by decide +kernel
theorem dX11_init_237 : decode cX11_init 237 = .ok (.aload_n 0, 1) := by decide +kernel
theorem dX11_init_238 : decode cX11_init 238 = .ok (.bipush 12, 2) := by decide +kernel
theorem dX11_init_240 : decode cX11_init 240 = .ok (.newarray .int, 2) := by decide +kernel
theorem dX11_init_242 : decode cX11_init 242 = .ok (.putfield 98, 3) := by decide +kernel
theorem dX11_init_245 : decode cX11_init 245 = .ok (.aload_n 0, 1) := by decide +kernel
theorem dX11_init_246 : decode cX11_init 246 = .ok (.bipush 12, 2) := by decide +kernel
theorem dX11_init_248 : decode cX11_init 248 = .ok (.newarray .long, 2) := by decide +kernel
theorem dX11_init_250 : decode cX11_init 250 = .ok (.putfield 101, 3) := by decide +kernel
theorem dX11_init_253 : decode cX11_init 253 = .ok (.aload_n 0, 1) := by decide +kernel
theorem dX11_init_254 : decode cX11_init 254 = .ok (.bipush 12, 2) := by decide +kernel
theorem dX11_init_256 : decode cX11_init 256 = .ok (.newarray .long, 2) := by decide +kernel
theorem dX11_init_258 : decode cX11_init 258 = .ok (.putfield 105, 3) := by decide +kernel
theorem dX11_init_261 : decode cX11_init 261 = .ok (.aload_n 0, 1) := by decide +kernel
theorem dX11_init_262 : decode cX11_init 262 = .ok (.bipush 12, 2) := by decide +kernel
theorem dX11_init_264 : decode cX11_init 264 = .ok (.newarray .long, 2) := by decide +kernel
theorem dX11_init_266 : decode cX11_init 266 = .ok (.putfield 108, 3) := by decide +kernel
theorem dX11_init_269 : decode cX11_init 269 = .ok (.aload_n 0, 1) := by decide +kernel
theorem dX11_init_270 : decode cX11_init 270 = .ok (.bipush 12, 2) := by decide +kernel
theorem dX11_init_272 : decode cX11_init 272 = .ok (.newarray .long, 2) := by decide +kernel
theorem dX11_init_274 : decode cX11_init 274 = .ok (.putfield 111, 3) := by decide +kernel
theorem dX11_init_277 : decode cX11_init 277 = .ok (.aload_n 0, 1) := by decide +kernel
theorem dX11_init_278 : decode cX11_init 278 = .ok (.bipush 12, 2) := by decide +kernel
theorem dX11_init_280 : decode cX11_init 280 = .ok (.newarray .int, 2) := by decide +kernel
theorem dX11_init_282 : decode cX11_init 282 = .ok (.putfield 114, 3) := by decide +kernel
theorem dX11_init_285 : decode cX11_init 285 = .ok (.aload_n 0, 1) := by decide +kernel
theorem dX11_init_286 : decode cX11_init 286 = .ok (.bipush 40, 2) := by decide +kernel
theorem dX11_init_288 : decode cX11_init 288 = .ok (.newarray .long, 2) := by decide +kernel
theorem dX11_init_290 : decode cX11_init 290 = .ok (.putfield 117, 3) := by decide +kernel
theorem dX11_init_293 : decode cX11_init 293 = .ok (.aload_n 0, 1) := by decide +kernel
theorem dX11_init_294 : decode cX11_init 294 = .ok (.bipush 40, 2) := by decide +kernel
theorem dX11_init_296 : decode cX11_init 296 = .ok (.newarray .long, 2) := by decide +kernel
theorem dX11_init_298 : decode cX11_init 298 = .ok (.putfield 120, 3) := by decide +kernel
theorem dX11_init_301 : decode cX11_init 301 = .ok (.aload_n 0, 1) := by decide +kernel
theorem dX11_init_302 : decode cX11_init 302 = .ok (.bipush 40, 2) := by decide +kernel
theorem dX11_init_304 : decode cX11_init 304 = .ok (.newarray .long, 2) := by decide +kernel
theorem dX11_init_306 : decode cX11_init 306 = .ok (.putfield 123, 3) := by decide +kernel
theorem dX11_init_309 : decode cX11_init 309 = .ok (.aload_n 0, 1) := by decide +kernel
theorem dX11_init_310 : decode cX11_init 310 = .ok (.bipush 12, 2) := by decide +kernel
theorem dX11_init_312 : decode cX11_init 312 = .ok (.newarray .long, 2) := by decide +kernel
theorem dX11_init_314 : decode cX11_init 314 = .ok (.putfield 126, 3) := by decide +kernel
theorem dX11_init_317 : decode cX11_init 317 = .ok (.aload_n 0, 1) := by decide +kernel
theorem dX11_init_318 : decode cX11_init 318 = .ok (.bipush 12, 2) := by decide +kernel
theorem dX11_init_320 : decode cX11_init 320 = .ok (.newarray .long, 2) := by decide +kernel
theorem dX11_init_322 : decode cX11_init 322 = .ok (.putfield 129, 3) := by decide +kernel
theorem dX11_init_325 : decode cX11_init 325 = .ok (.aload_n 0, 1) := by decide +kernel
theorem dX11_init_326 : decode cX11_init 326 = .ok (.bipush 40, 2) := by decide +kernel
theorem dX11_init_328 : decode cX11_init 328 = .ok (.newarray .int, 2) := by decide +kernel
theorem dX11_init_330 : decode cX11_init 330 = .ok (.putfield 132, 3) := by decide +kernel
theorem dX11_init_333 : decode cX11_init 333 = .ok (.aload_n 0, 1) := by decide +kernel
theorem dX11_init_334 : decode cX11_init 334 = .ok (.bipush 40, 2) := by decide +kernel
theorem dX11_init_336 : decode cX11_init 336 = .ok (.newarray .int, 2) := by decide +kernel
theorem dX11_init_338 : decode cX11_init 338 = .ok (.putfield 135, 3) := by decide +kernel
theorem dX11_init_341 : decode cX11_init 341 = .ok (.aload_n 0, 1) := by decide +kernel
theorem dX11_init_342 : decode cX11_init 342 = .ok (.bipush 12, 2) := by decide +kernel
theorem dX11_init_344 : decode cX11_init 344 = .ok (.newarray .int, 2) := by decide +kernel
theorem dX11_init_346 : decode cX11_init 346 = .ok (.putfield 138, 3) := by decide +kernel
theorem dX11_init_349 : decode cX11_init 349 = .ok (.aload_n 0, 1) := by decide +kernel
theorem dX11_init_350 : decode cX11_init 350 = .ok (.bipush 60, 2) := by decide +kernel
theorem dX11_init_352 : decode cX11_init 352 = .ok (.newarray .int, 2) := by decide +kernel
theorem dX11_init_354 : decode cX11_init 354 = .ok (.putfield 141, 3) := by decide +kernel
theorem dX11_init_357 : decode cX11_init 357 = .ok (.aload_n 0, 1) := by decide +kernel
theorem dX11_init_358 : decode cX11_init 358 = .ok (.bipush 60, 2) := by decide +kernel
theorem dX11_init_360 : decode cX11_init 360 = .ok (.newarray .int, 2) := by decide +kernel
theorem dX11_init_362 : decode cX11_init 362 = .ok (.putfield 144, 3) := by decide +kernel
theorem dX11_init_365 : decode cX11_init 365 = .ok (.aload_n 0, 1) := by decide +kernel
theorem dX11_init_366 : decode cX11_init 366 = .ok (.bipush 60, 2) := by decide +kernel
theorem dX11_init_368 : decode cX11_init 368 = .ok (.newarray .int, 2) := by decide +kernel
theorem dX11_init_370 : decode cX11_init 370 = .ok (.putfield 147, 3) := by decide +kernel
theorem dX11_init_373 : decode cX11_init 373 = .ok (.aload_n 0, 1) := by decide +kernel
theorem dX11_init_374 : decode cX11_init 374 = .ok (.bipush 60, 2) := by decide +kernel
theorem dX11_init_376 : decode cX11_init 376 = .ok (.newarray .int, 2) := by decide +kernel
theorem dX11_init_378 : decode cX11_init 378 = .ok (.putfield 150, 3) := by decide +kernel
theorem dX11_init_381 : decode cX11_init 381 = .ok (.aload_n 0, 1) := by decide +kernel
theorem dX11_init_382 : decode cX11_init 382 = .ok (.bipush 60, 2) := by decide +kernel
theorem dX11_init_384 : decode cX11_init 384 = .ok (.newarray .int, 2) := by decide +kernel
theorem dX11_init_386 : decode cX11_init 386 = .ok (.putfield 153, 3) := by decide +kernel
theorem dX11_init_389 : decode cX11_init 389 = .ok (.aload_n 0, 1) := by decide +kernel
theorem dX11_init_390 : decode cX11_init 390 = .ok (.bipush 60, 2) := by decide +kernel
theorem dX11_init_392 : decode cX11_init 392 = .ok (.newarray .boolean, 2) := by decide +kernel
theorem dX11_init_394 : decode cX11_init 394 = .ok (.putfield 156, 3) := by decide +kernel
theorem dX11_init_397 : decode cX11_init 397 = .ok (.aload_n 0, 1) := by decide +kernel
theorem dX11_init_398 : decode cX11_init 398 = .ok (.bipush 11, 2) := by decide +kernel
theorem dX11_init_400 : decode cX11_init 400 = .ok (.newarray .int, 2) := by decide +kernel
theorem dX11_init_402 : decode cX11_init 402 = .ok (.putfield 159, 3) := by decide +kernel
theorem dX11_init_405 : decode cX11_init 405 = .ok (.aload_n 0, 1) := by decide +kernel
theorem dX11_init_406 : decode cX11_init 406 = .ok (.bipush 11, 2) := by decide +kernel
theorem dX11_init_408 : decode cX11_init 408 = .ok (.newarray .int, 2) := by decide +kernel
theorem dX11_init_410 : decode cX11_init 410 = .ok (.putfield 162, 3) := by decide +kernel
theorem dX11_init_413 : decode cX11_init 413 = .ok (.aload_n 0, 1) := by decide +kernel
theorem dX11_init_414 : decode cX11_init 414 = .ok (.sipush 264, 3) := by decide +kernel
theorem dX11_init_417 : decode cX11_init 417 = .ok (.newarray .int, 2) := by decide +kernel
theorem dX11_init_419 : decode cX11_init 419 = .ok (.putfield 165, 3) := by decide +kernel
theorem dX11_init_422 : decode cX11_init 422 = .ok (.aload_n 0, 1) := by decide +kernel
theorem dX11_init_423 : decode cX11_init 423 = .ok (.sipush 264, 3) := by decide +kernel
theorem dX11_init_426 : decode cX11_init 426 = .ok (.newarray .int, 2) := by decide +kernel
theorem dX11_init_428 : decode cX11_init 428 = .ok (.putfield 168, 3) := by decide +kernel
theorem dX11_init_431 : decode cX11_init 431 = .ok (.aload_n 0, 1) := by decide +kernel
theorem dX11_init_432 : decode cX11_init 432 = .ok (.sipush 264, 3) := by decide +kernel
theorem dX11_init_435 : decode cX11_init 435 = .ok (.newarray .int, 2) := by decide +kernel
theorem dX11_init_437 : decode cX11_init 437 = .ok (.putfield 171, 3) := by decide +kernel
theorem dX11_init_440 : decode cX11_init 440 = .ok (.aload_n 0, 1) := by decide +kernel
theorem dX11_init_441 : decode cX11_init 441 = .ok (.sipush 264, 3) := by decide +kernel
theorem dX11_init_444 : decode cX11_init 444 = .ok (.newarray .int, 2) := by decide +kernel
theorem dX11_init_446 : decode cX11_init 446 = .ok (.putfield 174, 3) := by decide +kernel
theorem dX11_init_449 : decode cX11_init 449 = .ok (.aload_n 0, 1) := by decide +kernel
theorem dX11_init_450 : decode cX11_init 450 = .ok (.sipush 264, 3) := by decide +kernel
theorem dX11_init_453 : decode cX11_init 453 = .ok (.newarray .int, 2) := by decide +kernel
theorem dX11_init_455 : decode cX11_init 455 = .ok (.putfield 177, 3) := by decide +kernel
theorem dX11_init_458 : decode cX11_init 458 = .ok (.aload_n 0, 1) := by decide +kernel
theorem dX11_init_459 : decode cX11_init 459 = .ok (.sipush 700, 3) := by decide +kernel
theorem dX11_init_462 : decode cX11_init 462 = .ok (.newarray .byte, 2) := by decide +kernel
theorem dX11_init_464 : decode cX11_init 464 = .ok (.putfield 180, 3) := by decide +kernel
theorem dX11_init_467 : decode cX11_init 467 = .ok (.aload_n 0, 1) := by decide +kernel
theorem dX11_init_468 : decode cX11_init 468 = .ok (.sipush 700, 3) := by decide +kernel
theorem dX11_init_471 : decode cX11_init 471 = .ok (.newarray .byte, 2) := by decide +kernel
theorem dX11_init_473 : decode cX11_init 473 = .ok (.putfield 184, 3) := by decide +kernel
theorem dX11_init_476 : decode cX11_init 476 = .ok (.aload_n 0, 1) := by decide +kernel
theorem dX11_init_477 : decode cX11_init 477 = .ok (.iconst (-1), 1) := by decide +kernel
theorem dX11_init_478 : decode cX11_init 478 = .ok (.putfield 187, 3) := by decide +kernel
theorem dX11_init_481 : decode cX11_init 481 = .ok (.iconst 0, 1) := by decide +kernel
theorem dX11_init_482 : decode cX11_init 482 = .ok (.istore_n 1, 1) := by decide +kernel
theorem dX11_init_483 : decode cX11_init 483 = .ok (.iload_n 1, 1) := by decide +kernel
theorem dX11_init_484 : decode cX11_init 484 = .ok (.bipush 10, 2) := by decide +kernel
theorem dX11_init_486 : decode cX11_init 486 = .ok (.if_icmp .ge 17, 3) := by decide +kernel
theorem dX11_init_489 : decode cX11_init 489 = .ok (.aload_n 0, 1) := by decide +kernel
theorem dX11_init_490 : decode cX11_init 490 = .ok (.getfield 83, 3) := by decide +kernel
theorem dX11_init_493 : decode cX11_init 493 = .ok (.iload_n 1, 1) := by decide +kernel
theorem dX11_init_494 : decode cX11_init 494 = .ok (.bipush 20, 2) := by decide +kernel
theorem dX11_init_496 : decode cX11_init 496 = .ok (.iastore, 1) := by decide +kernel
theorem dX11_init_497 : decode cX11_init 497 = .ok (.iinc 1 1, 3) := by decide +kernel
theorem dX11_init_500 : decode cX11_init 500 = .ok (.goto (-17), 3) := by decide +kernel
theorem dX11_init_503 : decode cX11_init 503 = .ok (.return_, 1) := by decide +kernel
theorem dX11_isIn_0 : decode cX11_isIn 0 = .ok (.iload_n 0, 1) := by decide +kernel
theorem dX11_isIn_1 : decode cX11_isIn 1 = .ok (.iload_n 1, 1) := by decide +kernel
theorem dX11_isIn_2 : decode cX11_isIn 2 = .ok (.if_icmp .lt 12, 3) := by decide +kernel
theorem dX11_isIn_5 : decode cX11_isIn 5 = .ok (.iload_n 0, 1) := by decide +kernel
theorem dX11_isIn_6 : decode cX11_isIn 6 = .ok (.iload_n 2, 1) := by decide +kernel
theorem dX11_isIn_7 : decode cX11_isIn 7 = .ok (.if_icmp .gt 7, 3) := by decide +kernel
theorem dX11_isIn_10 : decode cX11_isIn 10 = .ok (.iconst 1, 1) := by decide +kernel
theorem dX11_isIn_11 : decode cX11_isIn 11 = .ok (.goto 4, 3) := by decide +kernel
theorem dX11_isIn_14 : decode cX11_isIn 14 = .ok (.iconst 0, 1) := by decide +kernel
theorem dX11_isIn_15 : decode cX11_isIn 15 = .ok (.ireturn, 1) := by decide +kernel
theorem dX11_one_0 : decode cX11_one 0 = .ok (.iload_n 0, 1) := by decide +kernel
theorem dX11_one_1 : decode cX11_one 1 = .ok (.ifCond .eq 7, 3) := by decide +kernel
theorem dX11_one_4 : decode cX11_one 4 = .ok (.iconst 1, 1) := by decide +kernel
theorem dX11_one_5 : decode cX11_one 5 = .ok (.goto 4, 3) := by decide +kernel
theorem dX11_one_8 : decode cX11_one 8 = .ok (.iconst 0, 1) := by decide +kernel
theorem dX11_one_9 : decode cX11_one 9 = .ok (.ireturn, 1) := by decide +kernel
theorem dX11_isCorner_0 : decode cX11_isCorner 0 = .ok (.iload_n 1, 1) := by decide +kernel
theorem dX11_isCorner_1 : decode cX11_isCorner 1 = .ok (.iconst 0, 1) := by decide +kernel
theorem dX11_isCorner_2 : decode cX11_isCorner 2 = .ok (.aload_n 0, 1) := by decide +kernel
theorem dX11_isCorner_3 : decode cX11_isCorner 3 = .ok (.getfield 191, 3) := by decide +kernel
theorem dX11_isCorner_6 : decode cX11_isCorner 6 = .ok (.iconst 1, 1) := by decide +kernel
theorem dX11_isCorner_7 : decode cX11_isCorner 7 = .ok (.isub, 1) := by decide +kernel
theorem dX11_isCorner_8 : decode cX11_isCorner 8 = .ok (.invokestatic 194, 3) := by decide +kernel
theorem dX11_isCorner_11 : decode cX11_isCorner 11 = .ok (.ireturn, 1) := by decide +kernel
theorem dX11_isBed_0 : decode cX11_isBed 0 = .ok (.aload_n 0, 1) := by decide +kernel
theorem dX11_isBed_1 : decode cX11_isBed 1 = .ok (.iload_n 1, 1) := by decide +kernel
theorem dX11_isBed_2 : decode cX11_isBed 2 = .ok (.invokevirtual 198, 3) := by decide +kernel
theorem dX11_isBed_5 : decode cX11_isBed 5 = .ok (.ifCond .eq 16, 3) := by decide +kernel
theorem dX11_isBed_8 : decode cX11_isBed 8 = .ok (.aload_n 0, 1) := by decide +kernel
theorem dX11_isBed_9 : decode cX11_isBed 9 = .ok (.getfield 25, 3) := by decide +kernel
theorem dX11_isBed_12 : decode cX11_isBed 12 = .ok (.iload_n 1, 1) := by decide +kernel
theorem dX11_isBed_13 : decode cX11_isBed 13 = .ok (.baload, 1) := by decide +kernel
theorem dX11_isBed_14 : decode cX11_isBed 14 = .ok (.ifCond .eq 7, 3) := by decide +kernel
theorem dX11_isBed_17 : decode cX11_isBed 17 = .ok (.iconst 1, 1) := by decide +kernel
theorem dX11_isBed_18 : decode cX11_isBed 18 = .ok (.goto 4, 3) := by decide +kernel
theorem dX11_isBed_21 : decode cX11_isBed 21 = .ok (.iconst 0, 1) := by decide +kernel
theorem dX11_isBed_22 : decode cX11_isBed 22 = .ok (.ireturn, 1) := by decide +kernel
theorem dX11_corner_0 : decode cX11_corner 0 = .ok (.iload_n 1, 1) := by decide +kernel
theorem dX11_corner_1 : decode cX11_corner 1 = .ok (.iconst 1, 1) := by decide +kernel
theorem dX11_corner_2 : decode cX11_corner 2 = .ok (.bipush 100, 2) := by decide +kernel
theorem dX11_corner_4 : decode cX11_corner 4 = .ok (.invokestatic 194, 3) := by decide +kernel
theorem dX11_corner_7 : decode cX11_corner 7 = .ok (.ifCond .eq 45, 3) := by decide +kernel
theorem dX11_corner_10 : decode cX11_corner 10 = .ok (.iload_n 2, 1) := by decide +kernel
theorem dX11_corner_11 : decode cX11_corner 11 = .ok (.iconst 1, 1) := by decide +kernel
theorem dX11_corner_12 : decode cX11_corner 12 = .ok (.sipush 500, 3) := by decide +kernel
theorem dX11_corner_15 : decode cX11_corner 15 = .ok (.invokestatic 194, 3) := by decide +kernel
theorem dX11_corner_18 : decode cX11_corner 18 = .ok (.ifCond .eq 34, 3) := by decide +kernel
theorem dX11_corner_21 : decode cX11_corner 21 = .ok (.iload_n 3, 1) := by decide +kernel
theorem dX11_corner_22 : decode cX11_corner 22 = .ok (.iconst 0, 1) := by decide +kernel
theorem dX11_corner_23 : decode cX11_corner 23 = .ok (.bipush 9, 2) := by decide +kernel
theorem dX11_corner_25 : decode cX11_corner 25 = .ok (.invokestatic 194, 3) := by decide +kernel
theorem dX11_corner_28 : decode cX11_corner 28 = .ok (.ifCond .eq 24, 3) := by decide +kernel
theorem dX11_corner_31 : decode cX11_corner 31 = .ok (.iload 4, 2) := by decide +kernel
theorem dX11_corner_33 : decode cX11_corner 33 = .ok (.iconst 0, 1) := by decide +kernel
theorem dX11_corner_34 : decode cX11_corner 34 = .ok (.sipush 500, 3) := by decide +kernel
theorem dX11_corner_37 : decode cX11_corner 37 = .ok (.invokestatic 194, 3) := by decide +kernel
theorem dX11_corner_40 : decode cX11_corner 40 = .ok (.ifCond .eq 12, 3) := by decide +kernel
theorem dX11_corner_43 : decode cX11_corner 43 = .ok (.aload_n 0, 1) := by decide +kernel
theorem dX11_corner_44 : decode cX11_corner 44 = .ok (.getfield 191, 3) := by decide +kernel
theorem dX11_corner_47 : decode cX11_corner 47 = .ok (.bipush 12, 2) := by decide +kernel
theorem dX11_corner_49 : decode cX11_corner 49 = .ok (.if_icmp .ne 5, 3) := by decide +kernel
theorem dX11_corner_52 : decode cX11_corner 52 = .ok (.iconst (-1), 1) := by decide +kernel
theorem dX11_corner_53 : decode cX11_corner 53 = .ok (.ireturn, 1) := by decide +kernel
theorem dX11_corner_54 : decode cX11_corner 54 = .ok (.aload_n 0, 1) := by decide +kernel
theorem dX11_corner_55 : decode cX11_corner 55 = .ok (.getfield 7, 3) := by decide +kernel
theorem dX11_corner_58 : decode cX11_corner 58 = .ok (.aload_n 0, 1) := by decide +kernel
theorem dX11_corner_59 : decode cX11_corner 59 = .ok (.getfield 191, 3) := by decide +kernel
theorem dX11_corner_62 : decode cX11_corner 62 = .ok (.iload_n 1, 1) := by decide +kernel
theorem dX11_corner_63 : decode cX11_corner 63 = .ok (.iastore, 1) := by decide +kernel
theorem dX11_corner_64 : decode cX11_corner 64 = .ok (.aload_n 0, 1) := by decide +kernel
theorem dX11_corner_65 : decode cX11_corner 65 = .ok (.getfield 13, 3) := by decide +kernel
theorem dX11_corner_68 : decode cX11_corner 68 = .ok (.aload_n 0, 1) := by decide +kernel
theorem dX11_corner_69 : decode cX11_corner 69 = .ok (.getfield 191, 3) := by decide +kernel
theorem dX11_corner_72 : decode cX11_corner 72 = .ok (.iload_n 2, 1) := by decide +kernel
theorem dX11_corner_73 : decode cX11_corner 73 = .ok (.iastore, 1) := by decide +kernel
theorem dX11_corner_74 : decode cX11_corner 74 = .ok (.aload_n 0, 1) := by decide +kernel
theorem dX11_corner_75 : decode cX11_corner 75 = .ok (.getfield 16, 3) := by decide +kernel
theorem dX11_corner_78 : decode cX11_corner 78 = .ok (.aload_n 0, 1) := by decide +kernel
theorem dX11_corner_79 : decode cX11_corner 79 = .ok (.getfield 191, 3) := by decide +kernel
theorem dX11_corner_82 : decode cX11_corner 82 = .ok (.iload_n 3, 1) := by decide +kernel
theorem dX11_corner_83 : decode cX11_corner 83 = .ok (.iastore, 1) := by decide +kernel
theorem dX11_corner_84 : decode cX11_corner 84 = .ok (.aload_n 0, 1) := by decide +kernel
theorem dX11_corner_85 : decode cX11_corner 85 = .ok (.getfield 19, 3) := by decide +kernel
theorem dX11_corner_88 : decode cX11_corner 88 = .ok (.aload_n 0, 1) := by decide +kernel
theorem dX11_corner_89 : decode cX11_corner 89 = .ok (.getfield 191, 3) := by decide +kernel
theorem dX11_corner_92 : decode cX11_corner 92 = .ok (.iload 4, 2) := by decide +kernel
theorem dX11_corner_94 : decode cX11_corner 94 = .ok (.iastore, 1) := by decide +kernel
theorem dX11_corner_95 : decode cX11_corner 95 = .ok (.aload_n 0, 1) := by decide +kernel
theorem dX11_corner_96 : decode cX11_corner 96 = .ok (.getfield 22, 3) := by decide +kernel
theorem dX11_corner_99 : decode cX11_corner 99 = .ok (.aload_n 0, 1) := by decide +kernel
theorem dX11_corner_100 : decode cX11_corner 100 = .ok (.getfield 191, 3) := by decide +kernel
theorem dX11_corner_103 : decode cX11_corner 103 = .ok (.iconst (-1), 1) := by decide +kernel
theorem dX11_corner_104 : decode cX11_corner 104 = .ok (.iastore, 1) := by decide +kernel
theorem dX11_corner_105 : decode cX11_corner 105 = .ok (.aload_n 0, 1) := by decide +kernel
theorem dX11_corner_106 : decode cX11_corner 106 = .ok (.dup, 1) := by decide +kernel
theorem dX11_corner_107 : decode cX11_corner 107 = .ok (.getfield 191, 3) := by decide +kernel
theorem dX11_corner_110 : decode cX11_corner 110 = .ok (.iconst 1, 1) := by decide +kernel
theorem dX11_corner_111 : decode cX11_corner 111 = .ok (.iadd, 1) := by decide +kernel
theorem dX11_corner_112 : decode cX11_corner 112 = .ok (.putfield 191, 3) := by decide +kernel
theorem dX11_corner_115 : decode cX11_corner 115 = .ok (.aload_n 0, 1) := by decide +kernel
theorem dX11_corner_116 : decode cX11_corner 116 = .ok (.getfield 191, 3) := by decide +kernel
theorem dX11_corner_119 : decode cX11_corner 119 = .ok (.iconst 1, 1) := by decide +kernel
theorem dX11_corner_120 : decode cX11_corner 120 = .ok (.isub, 1) := by decide +kernel
theorem dX11_corner_121 : decode cX11_corner 121 = .ok (.ireturn, 1) := by decide +kernel
theorem dX11_below_0 : decode cX11_below 0 = .ok (.aload_n 0, 1) := by decide +kernel
theorem dX11_below_1 : decode cX11_below 1 = .ok (.iload_n 1, 1) := by decide +kernel
theorem dX11_below_2 : decode cX11_below 2 = .ok (.invokevirtual 198, 3) := by decide +kernel
theorem dX11_below_5 : decode cX11_below 5 = .ok (.ifCond .eq 21, 3) := by decide +kernel
theorem dX11_below_8 : decode cX11_below 8 = .ok (.iload_n 2, 1) := by decide +kernel
theorem dX11_below_9 : decode cX11_below 9 = .ok (.iconst (-1), 1) := by decide +kernel
theorem dX11_below_10 : decode cX11_below 10 = .ok (.if_icmp .eq 18, 3) := by decide +kernel
theorem dX11_below_13 : decode cX11_below 13 = .ok (.aload_n 0, 1) := by decide +kernel
theorem dX11_below_14 : decode cX11_below 14 = .ok (.iload_n 2, 1) := by decide +kernel
theorem dX11_below_15 : decode cX11_below 15 = .ok (.invokevirtual 198, 3) := by decide +kernel
theorem dX11_below_18 : decode cX11_below 18 = .ok (.ifCond .eq 8, 3) := by decide +kernel
theorem dX11_below_21 : decode cX11_below 21 = .ok (.iload_n 2, 1) := by decide +kernel
theorem dX11_below_22 : decode cX11_below 22 = .ok (.iload_n 1, 1) := by decide +kernel
theorem dX11_below_23 : decode cX11_below 23 = .ok (.if_icmp .gt 5, 3) := by decide +kernel
theorem dX11_below_26 : decode cX11_below 26 = .ok (.iconst 0, 1) := by decide +kernel
theorem dX11_below_27 : decode cX11_below 27 = .ok (.ireturn, 1) := by decide +kernel
theorem dX11_below_28 : decode cX11_below 28 = .ok (.aload_n 0, 1) := by decide +kernel
theorem dX11_below_29 : decode cX11_below 29 = .ok (.getfield 22, 3) := by decide +kernel
theorem dX11_below_32 : decode cX11_below 32 = .ok (.iload_n 1, 1) := by decide +kernel
theorem dX11_below_33 : decode cX11_below 33 = .ok (.iload_n 2, 1) := by decide +kernel
theorem dX11_below_34 : decode cX11_below 34 = .ok (.iastore, 1) := by decide +kernel
theorem dX11_below_35 : decode cX11_below 35 = .ok (.iconst 1, 1) := by decide +kernel
theorem dX11_below_36 : decode cX11_below 36 = .ok (.ireturn, 1) := by decide +kernel
theorem dX11_roof_0 : decode cX11_roof 0 = .ok (.aload_n 0, 1) := by decide +kernel
theorem dX11_roof_1 : decode cX11_roof 1 = .ok (.iload_n 1, 1) := by decide +kernel
theorem dX11_roof_2 : decode cX11_roof 2 = .ok (.invokevirtual 198, 3) := by decide +kernel
theorem dX11_roof_5 : decode cX11_roof 5 = .ok (.ifCond .eq 44, 3) := by decide +kernel
theorem dX11_roof_8 : decode cX11_roof 8 = .ok (.iload_n 2, 1) := by decide +kernel
theorem dX11_roof_9 : decode cX11_roof 9 = .ok (.iconst 0, 1) := by decide +kernel
theorem dX11_roof_10 : decode cX11_roof 10 = .ok (.bipush 19, 2) := by decide +kernel
theorem dX11_roof_12 : decode cX11_roof 12 = .ok (.invokestatic 194, 3) := by decide +kernel
theorem dX11_roof_15 : decode cX11_roof 15 = .ok (.ifCond .eq 34, 3) := by decide +kernel
theorem dX11_roof_18 : decode cX11_roof 18 = .ok (.iload_n 3, 1) := by decide +kernel
theorem dX11_roof_19 : decode cX11_roof 19 = .ok (.iconst 1, 1) := by decide +kernel
theorem dX11_roof_20 : decode cX11_roof 20 = .ok (.bipush 50, 2) := by decide +kernel
theorem dX11_roof_22 : decode cX11_roof 22 = .ok (.invokestatic 194, 3) := by decide +kernel
theorem dX11_roof_25 : decode cX11_roof 25 = .ok (.ifCond .eq 24, 3) := by decide +kernel
theorem dX11_roof_28 : decode cX11_roof 28 = .ok (.iload 4, 2) := by decide +kernel
theorem dX11_roof_30 : decode cX11_roof 30 = .ok (.iconst 0, 1) := by decide +kernel
theorem dX11_roof_31 : decode cX11_roof 31 = .ok (.sipush 200, 3) := by decide +kernel
theorem dX11_roof_34 : decode cX11_roof 34 = .ok (.invokestatic 194, 3) := by decide +kernel
theorem dX11_roof_37 : decode cX11_roof 37 = .ok (.ifCond .eq 12, 3) := by decide +kernel
theorem dX11_roof_40 : decode cX11_roof 40 = .ok (.aload_n 0, 1) := by decide +kernel
theorem dX11_roof_41 : decode cX11_roof 41 = .ok (.getfield 202, 3) := by decide +kernel
theorem dX11_roof_44 : decode cX11_roof 44 = .ok (.bipush 30, 2) := by decide +kernel
theorem dX11_roof_46 : decode cX11_roof 46 = .ok (.if_icmp .ne 5, 3) := by decide +kernel
theorem dX11_roof_49 : decode cX11_roof 49 = .ok (.iconst (-1), 1) := by decide +kernel
theorem dX11_roof_50 : decode cX11_roof 50 = .ok (.ireturn, 1) := by decide +kernel
theorem dX11_roof_51 : decode cX11_roof 51 = .ok (.aload_n 0, 1) := by decide +kernel
theorem dX11_roof_52 : decode cX11_roof 52 = .ok (.getfield 65, 3) := by decide +kernel
theorem dX11_roof_55 : decode cX11_roof 55 = .ok (.aload_n 0, 1) := by decide +kernel
theorem dX11_roof_56 : decode cX11_roof 56 = .ok (.getfield 202, 3) := by decide +kernel
theorem dX11_roof_59 : decode cX11_roof 59 = .ok (.iload_n 1, 1) := by decide +kernel
theorem dX11_roof_60 : decode cX11_roof 60 = .ok (.iastore, 1) := by decide +kernel
theorem dX11_roof_61 : decode cX11_roof 61 = .ok (.aload_n 0, 1) := by decide +kernel
theorem dX11_roof_62 : decode cX11_roof 62 = .ok (.getfield 68, 3) := by decide +kernel
theorem dX11_roof_65 : decode cX11_roof 65 = .ok (.aload_n 0, 1) := by decide +kernel
theorem dX11_roof_66 : decode cX11_roof 66 = .ok (.getfield 202, 3) := by decide +kernel
theorem dX11_roof_69 : decode cX11_roof 69 = .ok (.iload_n 2, 1) := by decide +kernel
theorem dX11_roof_70 : decode cX11_roof 70 = .ok (.iastore, 1) := by decide +kernel
theorem dX11_roof_71 : decode cX11_roof 71 = .ok (.aload_n 0, 1) := by decide +kernel
theorem dX11_roof_72 : decode cX11_roof 72 = .ok (.getfield 71, 3) := by decide +kernel
theorem dX11_roof_75 : decode cX11_roof 75 = .ok (.aload_n 0, 1) := by decide +kernel
theorem dX11_roof_76 : decode cX11_roof 76 = .ok (.getfield 202, 3) := by decide +kernel
theorem dX11_roof_79 : decode cX11_roof 79 = .ok (.iload_n 3, 1) := by decide +kernel
theorem dX11_roof_80 : decode cX11_roof 80 = .ok (.iastore, 1) := by decide +kernel
theorem dX11_roof_81 : decode cX11_roof 81 = .ok (.aload_n 0, 1) := by decide +kernel
theorem dX11_roof_82 : decode cX11_roof 82 = .ok (.getfield 74, 3) := by decide +kernel
theorem dX11_roof_85 : decode cX11_roof 85 = .ok (.aload_n 0, 1) := by decide +kernel
theorem dX11_roof_86 : decode cX11_roof 86 = .ok (.getfield 202, 3) := by decide +kernel
theorem dX11_roof_89 : decode cX11_roof 89 = .ok (.iload 4, 2) := by decide +kernel
theorem dX11_roof_91 : decode cX11_roof 91 = .ok (.iastore, 1) := by decide +kernel
theorem dX11_roof_92 : decode cX11_roof 92 = .ok (.aload_n 0, 1) := by decide +kernel
theorem dX11_roof_93 : decode cX11_roof 93 = .ok (.dup, 1) := by decide +kernel
theorem dX11_roof_94 : decode cX11_roof 94 = .ok (.getfield 202, 3) := by decide +kernel
theorem dX11_roof_97 : decode cX11_roof 97 = .ok (.iconst 1, 1) := by decide +kernel
theorem dX11_roof_98 : decode cX11_roof 98 = .ok (.iadd, 1) := by decide +kernel
theorem dX11_roof_99 : decode cX11_roof 99 = .ok (.putfield 202, 3) := by decide +kernel
theorem dX11_roof_102 : decode cX11_roof 102 = .ok (.aload_n 0, 1) := by decide +kernel
theorem dX11_roof_103 : decode cX11_roof 103 = .ok (.getfield 202, 3) := by decide +kernel
theorem dX11_roof_106 : decode cX11_roof 106 = .ok (.iconst 1, 1) := by decide +kernel
theorem dX11_roof_107 : decode cX11_roof 107 = .ok (.isub, 1) := by decide +kernel
theorem dX11_roof_108 : decode cX11_roof 108 = .ok (.ireturn, 1) := by decide +kernel
theorem dX11_lot_0 : decode cX11_lot 0 = .ok (.iload_n 1, 1) := by decide +kernel
theorem dX11_lot_1 : decode cX11_lot 1 = .ok (.iconst 0, 1) := by decide +kernel
theorem dX11_lot_2 : decode cX11_lot 2 = .ok (.bipush 9, 2) := by decide +kernel
theorem dX11_lot_4 : decode cX11_lot 4 = .ok (.invokestatic 194, 3) := by decide +kernel
theorem dX11_lot_7 : decode cX11_lot 7 = .ok (.ifCond .eq 13, 3) := by decide +kernel
theorem dX11_lot_10 : decode cX11_lot 10 = .ok (.iload_n 2, 1) := by decide +kernel
theorem dX11_lot_11 : decode cX11_lot 11 = .ok (.iconst 1, 1) := by decide +kernel
theorem dX11_lot_12 : decode cX11_lot 12 = .ok (.bipush 100, 2) := by decide +kernel
theorem dX11_lot_14 : decode cX11_lot 14 = .ok (.invokestatic 194, 3) := by decide +kernel
theorem dX11_lot_17 : decode cX11_lot 17 = .ok (.ifCond .ne 5, 3) := by decide +kernel
theorem dX11_lot_20 : decode cX11_lot 20 = .ok (.iconst 0, 1) := by decide +kernel
theorem dX11_lot_21 : decode cX11_lot 21 = .ok (.ireturn, 1) := by decide +kernel
theorem dX11_lot_22 : decode cX11_lot 22 = .ok (.aload_n 0, 1) := by decide +kernel
theorem dX11_lot_23 : decode cX11_lot 23 = .ok (.getfield 83, 3) := by decide +kernel
theorem dX11_lot_26 : decode cX11_lot 26 = .ok (.iload_n 1, 1) := by decide +kernel
theorem dX11_lot_27 : decode cX11_lot 27 = .ok (.iload_n 2, 1) := by decide +kernel
theorem dX11_lot_28 : decode cX11_lot 28 = .ok (.iastore, 1) := by decide +kernel
theorem dX11_lot_29 : decode cX11_lot 29 = .ok (.iconst 1, 1) := by decide +kernel
theorem dX11_lot_30 : decode cX11_lot 30 = .ok (.ireturn, 1) := by decide +kernel
theorem dX11_parked_0 : decode cX11_parked 0 = .ok (.iconst 0, 1) := by decide +kernel
theorem dX11_parked_1 : decode cX11_parked 1 = .ok (.istore_n 2, 1) := by decide +kernel
theorem dX11_parked_2 : decode cX11_parked 2 = .ok (.iconst 0, 1) := by decide +kernel
theorem dX11_parked_3 : decode cX11_parked 3 = .ok (.istore_n 3, 1) := by decide +kernel
theorem dX11_parked_4 : decode cX11_parked 4 = .ok (.iload_n 3, 1) := by decide +kernel
theorem dX11_parked_5 : decode cX11_parked 5 = .ok (.aload_n 0, 1) := by decide +kernel
theorem dX11_parked_6 : decode cX11_parked 6 = .ok (.getfield 191, 3) := by decide +kernel
theorem dX11_parked_9 : decode cX11_parked 9 = .ok (.if_icmp .ge 40, 3) := by decide +kernel
theorem dX11_parked_12 : decode cX11_parked 12 = .ok (.iload_n 2, 1) := by decide +kernel
theorem dX11_parked_13 : decode cX11_parked 13 = .ok (.aload_n 0, 1) := by decide +kernel
theorem dX11_parked_14 : decode cX11_parked 14 = .ok (.getfield 25, 3) := by decide +kernel
theorem dX11_parked_17 : decode cX11_parked 17 = .ok (.iload_n 3, 1) := by decide +kernel
theorem dX11_parked_18 : decode cX11_parked 18 = .ok (.baload, 1) := by decide +kernel
theorem dX11_parked_19 : decode cX11_parked 19 = .ok (.ifCond .ne 12, 3) := by decide +kernel
theorem dX11_parked_22 : decode cX11_parked 22 = .ok (.iload_n 1, 1) := by decide +kernel
theorem dX11_parked_23 : decode cX11_parked 23 = .ok (.iload_n 3, 1) := by decide +kernel
theorem dX11_parked_24 : decode cX11_parked 24 = .ok (.ishr, 1) := by decide +kernel
theorem dX11_parked_25 : decode cX11_parked 25 = .ok (.iconst 1, 1) := by decide +kernel
theorem dX11_parked_26 : decode cX11_parked 26 = .ok (.iand, 1) := by decide +kernel
theorem dX11_parked_27 : decode cX11_parked 27 = .ok (.iconst 1, 1) := by decide +kernel
theorem dX11_parked_28 : decode cX11_parked 28 = .ok (.if_icmp .ne 12, 3) := by decide +kernel
theorem dX11_parked_31 : decode cX11_parked 31 = .ok (.aload_n 0, 1) := by decide +kernel
theorem dX11_parked_32 : decode cX11_parked 32 = .ok (.getfield 16, 3) := by decide +kernel
theorem dX11_parked_35 : decode cX11_parked 35 = .ok (.iload_n 3, 1) := by decide +kernel
theorem dX11_parked_36 : decode cX11_parked 36 = .ok (.iaload, 1) := by decide +kernel
theorem dX11_parked_37 : decode cX11_parked 37 = .ok (.goto 4, 3) := by decide +kernel
theorem dX11_parked_40 : decode cX11_parked 40 = .ok (.iconst 0, 1) := by decide +kernel
theorem dX11_parked_41 : decode cX11_parked 41 = .ok (.iadd, 1) := by decide +kernel
theorem dX11_parked_42 : decode cX11_parked 42 = .ok (.istore_n 2, 1) := by decide +kernel
theorem dX11_parked_43 : decode cX11_parked 43 = .ok (.iinc 3 1, 3) := by decide +kernel
theorem dX11_parked_46 : decode cX11_parked 46 = .ok (.goto (-42), 3) := by decide +kernel
theorem dX11_parked_49 : decode cX11_parked 49 = .ok (.iload_n 2, 1) := by decide +kernel
theorem dX11_parked_50 : decode cX11_parked 50 = .ok (.ireturn, 1) := by decide +kernel
theorem dX11_bed_0 : decode cX11_bed 0 = .ok (.aload_n 0, 1) := by decide +kernel
theorem dX11_bed_1 : decode cX11_bed 1 = .ok (.iload_n 1, 1) := by decide +kernel
theorem dX11_bed_2 : decode cX11_bed 2 = .ok (.invokevirtual 198, 3) := by decide +kernel
theorem dX11_bed_5 : decode cX11_bed 5 = .ok (.ifCond .eq 48, 3) := by decide +kernel
theorem dX11_bed_8 : decode cX11_bed 8 = .ok (.aload_n 0, 1) := by decide +kernel
theorem dX11_bed_9 : decode cX11_bed 9 = .ok (.getfield 25, 3) := by decide +kernel
theorem dX11_bed_12 : decode cX11_bed 12 = .ok (.iload_n 1, 1) := by decide +kernel
theorem dX11_bed_13 : decode cX11_bed 13 = .ok (.baload, 1) := by decide +kernel
theorem dX11_bed_14 : decode cX11_bed 14 = .ok (.ifCond .ne 39, 3) := by decide +kernel
theorem dX11_bed_17 : decode cX11_bed 17 = .ok (.iload_n 2, 1) := by decide +kernel
theorem dX11_bed_18 : decode cX11_bed 18 = .ok (.iconst 0, 1) := by decide +kernel
theorem dX11_bed_19 : decode cX11_bed 19 = .ok (.bipush 9, 2) := by decide +kernel
theorem dX11_bed_21 : decode cX11_bed 21 = .ok (.invokestatic 194, 3) := by decide +kernel
theorem dX11_bed_24 : decode cX11_bed 24 = .ok (.ifCond .eq 29, 3) := by decide +kernel
theorem dX11_bed_27 : decode cX11_bed 27 = .ok (.iload_n 3, 1) := by decide +kernel
theorem dX11_bed_28 : decode cX11_bed 28 = .ok (.iconst 1, 1) := by decide +kernel
theorem dX11_bed_29 : decode cX11_bed 29 = .ok (.sipush 500, 3) := by decide +kernel
theorem dX11_bed_32 : decode cX11_bed 32 = .ok (.invokestatic 194, 3) := by decide +kernel
theorem dX11_bed_35 : decode cX11_bed 35 = .ok (.ifCond .eq 18, 3) := by decide +kernel
theorem dX11_bed_38 : decode cX11_bed 38 = .ok (.aload_n 0, 1) := by decide +kernel
theorem dX11_bed_39 : decode cX11_bed 39 = .ok (.iconst 1, 1) := by decide +kernel
theorem dX11_bed_40 : decode cX11_bed 40 = .ok (.iload_n 1, 1) := by decide +kernel
theorem dX11_bed_41 : decode cX11_bed 41 = .ok (.ishl, 1) := by decide +kernel
theorem dX11_bed_42 : decode cX11_bed 42 = .ok (.invokevirtual 205, 3) := by decide +kernel
theorem dX11_bed_45 : decode cX11_bed 45 = .ok (.aload_n 0, 1) := by decide +kernel
theorem dX11_bed_46 : decode cX11_bed 46 = .ok (.iconst 4, 1) := by decide +kernel
theorem dX11_bed_47 : decode cX11_bed 47 = .ok (.invokevirtual 209, 3) := by decide +kernel
theorem dX11_bed_50 : decode cX11_bed 50 = .ok (.if_icmp .le 5, 3) := by decide +kernel
theorem dX11_bed_53 : decode cX11_bed 53 = .ok (.iconst 0, 1) := by decide +kernel
theorem dX11_bed_54 : decode cX11_bed 54 = .ok (.ireturn, 1) := by decide +kernel
theorem dX11_bed_55 : decode cX11_bed 55 = .ok (.aload_n 0, 1) := by decide +kernel
theorem dX11_bed_56 : decode cX11_bed 56 = .ok (.getfield 25, 3) := by decide +kernel
theorem dX11_bed_59 : decode cX11_bed 59 = .ok (.iload_n 1, 1) := by decide +kernel
theorem dX11_bed_60 : decode cX11_bed 60 = .ok (.iconst 1, 1) := by decide +kernel
theorem dX11_bed_61 : decode cX11_bed 61 = .ok (.bastore, 1) := by decide +kernel
theorem dX11_bed_62 : decode cX11_bed 62 = .ok (.aload_n 0, 1) := by decide +kernel
theorem dX11_bed_63 : decode cX11_bed 63 = .ok (.getfield 29, 3) := by decide +kernel
theorem dX11_bed_66 : decode cX11_bed 66 = .ok (.iload_n 1, 1) := by decide +kernel
theorem dX11_bed_67 : decode cX11_bed 67 = .ok (.iload 4, 2) := by decide +kernel
theorem dX11_bed_69 : decode cX11_bed 69 = .ok (.bastore, 1) := by decide +kernel
theorem dX11_bed_70 : decode cX11_bed 70 = .ok (.aload_n 0, 1) := by decide +kernel
theorem dX11_bed_71 : decode cX11_bed 71 = .ok (.getfield 32, 3) := by decide +kernel
theorem dX11_bed_74 : decode cX11_bed 74 = .ok (.iload_n 1, 1) := by decide +kernel
theorem dX11_bed_75 : decode cX11_bed 75 = .ok (.iconst 1, 1) := by decide +kernel
theorem dX11_bed_76 : decode cX11_bed 76 = .ok (.bastore, 1) := by decide +kernel
theorem dX11_bed_77 : decode cX11_bed 77 = .ok (.aload_n 0, 1) := by decide +kernel
theorem dX11_bed_78 : decode cX11_bed 78 = .ok (.getfield 35, 3) := by decide +kernel
theorem dX11_bed_81 : decode cX11_bed 81 = .ok (.iload_n 1, 1) := by decide +kernel
theorem dX11_bed_82 : decode cX11_bed 82 = .ok (.iload_n 2, 1) := by decide +kernel
theorem dX11_bed_83 : decode cX11_bed 83 = .ok (.iastore, 1) := by decide +kernel
theorem dX11_bed_84 : decode cX11_bed 84 = .ok (.aload_n 0, 1) := by decide +kernel
theorem dX11_bed_85 : decode cX11_bed 85 = .ok (.getfield 38, 3) := by decide +kernel
theorem dX11_bed_88 : decode cX11_bed 88 = .ok (.iload_n 1, 1) := by decide +kernel
theorem dX11_bed_89 : decode cX11_bed 89 = .ok (.iload_n 3, 1) := by decide +kernel
theorem dX11_bed_90 : decode cX11_bed 90 = .ok (.iastore, 1) := by decide +kernel
theorem dX11_bed_91 : decode cX11_bed 91 = .ok (.aload_n 0, 1) := by decide +kernel
theorem dX11_bed_92 : decode cX11_bed 92 = .ok (.getfield 41, 3) := by decide +kernel
theorem dX11_bed_95 : decode cX11_bed 95 = .ok (.iload_n 1, 1) := by decide +kernel
theorem dX11_bed_96 : decode cX11_bed 96 = .ok (.aload_n 0, 1) := by decide +kernel
theorem dX11_bed_97 : decode cX11_bed 97 = .ok (.getfield 212, 3) := by decide +kernel
theorem dX11_bed_100 : decode cX11_bed 100 = .ok (.iastore, 1) := by decide +kernel
theorem dX11_bed_101 : decode cX11_bed 101 = .ok (.aload_n 0, 1) := by decide +kernel
theorem dX11_bed_102 : decode cX11_bed 102 = .ok (.getfield 59, 3) := by decide +kernel
theorem dX11_bed_105 : decode cX11_bed 105 = .ok (.iload_n 1, 1) := by decide +kernel
theorem dX11_bed_106 : decode cX11_bed 106 = .ok (.iconst (-1), 1) := by decide +kernel
theorem dX11_bed_107 : decode cX11_bed 107 = .ok (.iastore, 1) := by decide +kernel
theorem dX11_bed_108 : decode cX11_bed 108 = .ok (.iconst 0, 1) := by decide +kernel
theorem dX11_bed_109 : decode cX11_bed 109 = .ok (.istore 5, 2) := by decide +kernel
theorem dX11_bed_111 : decode cX11_bed 111 = .ok (.iload 5, 2) := by decide +kernel
theorem dX11_bed_113 : decode cX11_bed 113 = .ok (.bipush 10, 2) := by decide +kernel
theorem dX11_bed_115 : decode cX11_bed 115 = .ok (.if_icmp .gt 22, 3) := by decide +kernel
theorem dX11_bed_118 : decode cX11_bed 118 = .ok (.aload_n 0, 1) := by decide +kernel
theorem dX11_bed_119 : decode cX11_bed 119 = .ok (.getfield 62, 3) := by decide +kernel
theorem dX11_bed_122 : decode cX11_bed 122 = .ok (.bipush 11, 2) := by decide +kernel
theorem dX11_bed_124 : decode cX11_bed 124 = .ok (.iload_n 1, 1) := by decide +kernel
theorem dX11_bed_125 : decode cX11_bed 125 = .ok (.imul, 1) := by decide +kernel
theorem dX11_bed_126 : decode cX11_bed 126 = .ok (.iload 5, 2) := by decide +kernel
theorem dX11_bed_128 : decode cX11_bed 128 = .ok (.iadd, 1) := by decide +kernel
theorem dX11_bed_129 : decode cX11_bed 129 = .ok (.iconst (-1), 1) := by decide +kernel
theorem dX11_bed_130 : decode cX11_bed 130 = .ok (.iastore, 1) := by decide +kernel
theorem dX11_bed_131 : decode cX11_bed 131 = .ok (.iinc 5 1, 3) := by decide +kernel
theorem dX11_bed_134 : decode cX11_bed 134 = .ok (.goto (-23), 3) := by decide +kernel
theorem dX11_bed_137 : decode cX11_bed 137 = .ok (.iconst 1, 1) := by decide +kernel
theorem dX11_bed_138 : decode cX11_bed 138 = .ok (.ireturn, 1) := by decide +kernel
theorem dX11_drinkBy_0 : decode cX11_drinkBy 0 = .ok (.aload_n 0, 1) := by decide +kernel
theorem dX11_drinkBy_1 : decode cX11_drinkBy 1 = .ok (.getfield 83, 3) := by decide +kernel
theorem dX11_drinkBy_4 : decode cX11_drinkBy 4 = .ok (.aload_n 0, 1) := by decide +kernel
theorem dX11_drinkBy_5 : decode cX11_drinkBy 5 = .ok (.getfield 35, 3) := by decide +kernel
theorem dX11_drinkBy_8 : decode cX11_drinkBy 8 = .ok (.iload_n 1, 1) := by decide +kernel
theorem dX11_drinkBy_9 : decode cX11_drinkBy 9 = .ok (.iaload, 1) := by decide +kernel
theorem dX11_drinkBy_10 : decode cX11_drinkBy 10 = .ok (.iaload, 1) := by decide +kernel
theorem dX11_drinkBy_11 : decode cX11_drinkBy 11 = .ok (.bipush 100, 2) := by decide +kernel
theorem dX11_drinkBy_13 : decode cX11_drinkBy 13 = .ok (.iload_n 2, 1) := by decide +kernel
theorem dX11_drinkBy_14 : decode cX11_drinkBy 14 = .ok (.isub, 1) := by decide +kernel
theorem dX11_drinkBy_15 : decode cX11_drinkBy 15 = .ok (.imul, 1) := by decide +kernel
theorem dX11_drinkBy_16 : decode cX11_drinkBy 16 = .ok (.bipush 100, 2) := by decide +kernel
theorem dX11_drinkBy_18 : decode cX11_drinkBy 18 = .ok (.idiv, 1) := by decide +kernel
theorem dX11_drinkBy_19 : decode cX11_drinkBy 19 = .ok (.ireturn, 1) := by decide +kernel
theorem dX11_drink_0 : decode cX11_drink 0 = .ok (.aload_n 0, 1) := by decide +kernel
theorem dX11_drink_1 : decode cX11_drink 1 = .ok (.iload_n 1, 1) := by decide +kernel
theorem dX11_drink_2 : decode cX11_drink 2 = .ok (.aload_n 0, 1) := by decide +kernel
theorem dX11_drink_3 : decode cX11_drink 3 = .ok (.getfield 44, 3) := by decide +kernel
theorem dX11_drink_6 : decode cX11_drink 6 = .ok (.iload_n 1, 1) := by decide +kernel
theorem dX11_drink_7 : decode cX11_drink 7 = .ok (.iaload, 1) := by decide +kernel
theorem dX11_drink_8 : decode cX11_drink 8 = .ok (.invokevirtual 215, 3) := by decide +kernel
theorem dX11_drink_11 : decode cX11_drink 11 = .ok (.ireturn, 1) := by decide +kernel
theorem dX11_care_0 : decode cX11_care 0 = .ok (.aload_n 0, 1) := by decide +kernel
theorem dX11_care_1 : decode cX11_care 1 = .ok (.iload_n 1, 1) := by decide +kernel
theorem dX11_care_2 : decode cX11_care 2 = .ok (.invokevirtual 219, 3) := by decide +kernel
theorem dX11_care_5 : decode cX11_care 5 = .ok (.ifCond .eq 31, 3) := by decide +kernel
theorem dX11_care_8 : decode cX11_care 8 = .ok (.iload_n 2, 1) := by decide +kernel
theorem dX11_care_9 : decode cX11_care 9 = .ok (.iconst 0, 1) := by decide +kernel
theorem dX11_care_10 : decode cX11_care 10 = .ok (.bipush 10, 2) := by decide +kernel
theorem dX11_care_12 : decode cX11_care 12 = .ok (.invokestatic 194, 3) := by decide +kernel
theorem dX11_care_15 : decode cX11_care 15 = .ok (.ifCond .eq 21, 3) := by decide +kernel
theorem dX11_care_18 : decode cX11_care 18 = .ok (.aload_n 0, 1) := by decide +kernel
theorem dX11_care_19 : decode cX11_care 19 = .ok (.getfield 62, 3) := by decide +kernel
theorem dX11_care_22 : decode cX11_care 22 = .ok (.bipush 11, 2) := by decide +kernel
theorem dX11_care_24 : decode cX11_care 24 = .ok (.iload_n 1, 1) := by decide +kernel
theorem dX11_care_25 : decode cX11_care 25 = .ok (.imul, 1) := by decide +kernel
theorem dX11_care_26 : decode cX11_care 26 = .ok (.iload_n 2, 1) := by decide +kernel
theorem dX11_care_27 : decode cX11_care 27 = .ok (.iadd, 1) := by decide +kernel
theorem dX11_care_28 : decode cX11_care 28 = .ok (.iaload, 1) := by decide +kernel
theorem dX11_care_29 : decode cX11_care 29 = .ok (.aload_n 0, 1) := by decide +kernel
theorem dX11_care_30 : decode cX11_care 30 = .ok (.getfield 212, 3) := by decide +kernel
theorem dX11_care_33 : decode cX11_care 33 = .ok (.if_icmp .ne 5, 3) := by decide +kernel
theorem dX11_care_36 : decode cX11_care 36 = .ok (.iconst 0, 1) := by decide +kernel
theorem dX11_care_37 : decode cX11_care 37 = .ok (.ireturn, 1) := by decide +kernel
theorem dX11_care_38 : decode cX11_care 38 = .ok (.aload_n 0, 1) := by decide +kernel
theorem dX11_care_39 : decode cX11_care 39 = .ok (.getfield 62, 3) := by decide +kernel
theorem dX11_care_42 : decode cX11_care 42 = .ok (.bipush 11, 2) := by decide +kernel
theorem dX11_care_44 : decode cX11_care 44 = .ok (.iload_n 1, 1) := by decide +kernel
theorem dX11_care_45 : decode cX11_care 45 = .ok (.imul, 1) := by decide +kernel
theorem dX11_care_46 : decode cX11_care 46 = .ok (.iload_n 2, 1) := by decide +kernel
theorem dX11_care_47 : decode cX11_care 47 = .ok (.iadd, 1) := by decide +kernel
theorem dX11_care_48 : decode cX11_care 48 = .ok (.aload_n 0, 1) := by decide +kernel
theorem dX11_care_49 : decode cX11_care 49 = .ok (.getfield 212, 3) := by decide +kernel
theorem dX11_care_52 : decode cX11_care 52 = .ok (.iastore, 1) := by decide +kernel
theorem dX11_care_53 : decode cX11_care 53 = .ok (.aload_n 0, 1) := by decide +kernel
theorem dX11_care_54 : decode cX11_care 54 = .ok (.getfield 44, 3) := by decide +kernel
theorem dX11_care_57 : decode cX11_care 57 = .ok (.iload_n 1, 1) := by decide +kernel
theorem dX11_care_58 : decode cX11_care 58 = .ok (.iconst 0, 1) := by decide +kernel
theorem dX11_care_59 : decode cX11_care 59 = .ok (.aload_n 0, 1) := by decide +kernel
theorem dX11_care_60 : decode cX11_care 60 = .ok (.getfield 44, 3) := by decide +kernel
theorem dX11_care_63 : decode cX11_care 63 = .ok (.iload_n 1, 1) := by decide +kernel
theorem dX11_care_64 : decode cX11_care 64 = .ok (.iaload, 1) := by decide +kernel
theorem dX11_care_65 : decode cX11_care 65 = .ok (.bipush 30, 2) := by decide +kernel
theorem dX11_care_67 : decode cX11_care 67 = .ok (.isub, 1) := by decide +kernel
theorem dX11_care_68 : decode cX11_care 68 = .ok (.invokestatic 222, 3) := by decide +kernel
theorem dX11_care_71 : decode cX11_care 71 = .ok (.iastore, 1) := by decide +kernel
theorem dX11_care_72 : decode cX11_care 72 = .ok (.aload_n 0, 1) := by decide +kernel
theorem dX11_care_73 : decode cX11_care 73 = .ok (.getfield 47, 3) := by decide +kernel
theorem dX11_care_76 : decode cX11_care 76 = .ok (.iload_n 1, 1) := by decide +kernel
theorem dX11_care_77 : decode cX11_care 77 = .ok (.iconst 0, 1) := by decide +kernel
theorem dX11_care_78 : decode cX11_care 78 = .ok (.iastore, 1) := by decide +kernel
theorem dX11_care_79 : decode cX11_care 79 = .ok (.iconst 1, 1) := by decide +kernel
theorem dX11_care_80 : decode cX11_care 80 = .ok (.ireturn, 1) := by decide +kernel
theorem dX11_treat_0 : decode cX11_treat 0 = .ok (.aload_n 0, 1) := by decide +kernel
theorem dX11_treat_1 : decode cX11_treat 1 = .ok (.iload_n 1, 1) := by decide +kernel
theorem dX11_treat_2 : decode cX11_treat 2 = .ok (.invokevirtual 219, 3) := by decide +kernel
theorem dX11_treat_5 : decode cX11_treat 5 = .ok (.ifCond .eq 26, 3) := by decide +kernel
theorem dX11_treat_8 : decode cX11_treat 8 = .ok (.iload_n 2, 1) := by decide +kernel
theorem dX11_treat_9 : decode cX11_treat 9 = .ok (.iconst 0, 1) := by decide +kernel
theorem dX11_treat_10 : decode cX11_treat 10 = .ok (.iconst 1, 1) := by decide +kernel
theorem dX11_treat_11 : decode cX11_treat 11 = .ok (.invokestatic 194, 3) := by decide +kernel
theorem dX11_treat_14 : decode cX11_treat 14 = .ok (.ifCond .eq 17, 3) := by decide +kernel
theorem dX11_treat_17 : decode cX11_treat 17 = .ok (.iload_n 2, 1) := by decide +kernel
theorem dX11_treat_18 : decode cX11_treat 18 = .ok (.iconst 1, 1) := by decide +kernel
theorem dX11_treat_19 : decode cX11_treat 19 = .ok (.if_icmp .ne 14, 3) := by decide +kernel
theorem dX11_treat_22 : decode cX11_treat 22 = .ok (.aload_n 0, 1) := by decide +kernel
theorem dX11_treat_23 : decode cX11_treat 23 = .ok (.getfield 32, 3) := by decide +kernel
theorem dX11_treat_26 : decode cX11_treat 26 = .ok (.iload_n 1, 1) := by decide +kernel
theorem dX11_treat_27 : decode cX11_treat 27 = .ok (.baload, 1) := by decide +kernel
theorem dX11_treat_28 : decode cX11_treat 28 = .ok (.ifCond .eq 5, 3) := by decide +kernel
theorem dX11_treat_31 : decode cX11_treat 31 = .ok (.iconst 0, 1) := by decide +kernel
theorem dX11_treat_32 : decode cX11_treat 32 = .ok (.ireturn, 1) := by decide +kernel
theorem dX11_treat_33 : decode cX11_treat 33 = .ok (.iload_n 2, 1) := by decide +kernel
theorem dX11_treat_34 : decode cX11_treat 34 = .ok (.ifCond .ne 26, 3) := by decide +kernel
theorem dX11_treat_37 : decode cX11_treat 37 = .ok (.aload_n 0, 1) := by decide +kernel
theorem dX11_treat_38 : decode cX11_treat 38 = .ok (.getfield 50, 3) := by decide +kernel
theorem dX11_treat_41 : decode cX11_treat 41 = .ok (.iload_n 1, 1) := by decide +kernel
theorem dX11_treat_42 : decode cX11_treat 42 = .ok (.bipush 100, 2) := by decide +kernel
theorem dX11_treat_44 : decode cX11_treat 44 = .ok (.aload_n 0, 1) := by decide +kernel
theorem dX11_treat_45 : decode cX11_treat 45 = .ok (.getfield 50, 3) := by decide +kernel
theorem dX11_treat_48 : decode cX11_treat 48 = .ok (.iload_n 1, 1) := by decide +kernel
theorem dX11_treat_49 : decode cX11_treat 49 = .ok (.iaload, 1) := by decide +kernel
theorem dX11_treat_50 : decode cX11_treat 50 = .ok (.bipush 10, 2) := by decide +kernel
theorem dX11_treat_52 : decode cX11_treat 52 = .ok (.iadd, 1) := by decide +kernel
theorem dX11_treat_53 : decode cX11_treat 53 = .ok (.invokestatic 227, 3) := by decide +kernel
theorem dX11_treat_56 : decode cX11_treat 56 = .ok (.iastore, 1) := by decide +kernel
theorem dX11_treat_57 : decode cX11_treat 57 = .ok (.goto 10, 3) := by decide +kernel
theorem dX11_treat_60 : decode cX11_treat 60 = .ok (.aload_n 0, 1) := by decide +kernel
theorem dX11_treat_61 : decode cX11_treat 61 = .ok (.getfield 32, 3) := by decide +kernel
theorem dX11_treat_64 : decode cX11_treat 64 = .ok (.iload_n 1, 1) := by decide +kernel
theorem dX11_treat_65 : decode cX11_treat 65 = .ok (.iconst 1, 1) := by decide +kernel
theorem dX11_treat_66 : decode cX11_treat 66 = .ok (.bastore, 1) := by decide +kernel
theorem dX11_treat_67 : decode cX11_treat 67 = .ok (.iconst 1, 1) := by decide +kernel
theorem dX11_treat_68 : decode cX11_treat 68 = .ok (.ireturn, 1) := by decide +kernel
theorem dX11_ages_0 : decode cX11_ages 0 = .ok (.aload_n 0, 1) := by decide +kernel
theorem dX11_ages_1 : decode cX11_ages 1 = .ok (.iconst 0, 1) := by decide +kernel
theorem dX11_ages_2 : decode cX11_ages 2 = .ok (.invokevirtual 209, 3) := by decide +kernel
theorem dX11_ages_5 : decode cX11_ages 5 = .ok (.istore_n 2, 1) := by decide +kernel
theorem dX11_ages_6 : decode cX11_ages 6 = .ok (.aload_n 0, 1) := by decide +kernel
theorem dX11_ages_7 : decode cX11_ages 7 = .ok (.getfield 29, 3) := by decide +kernel
theorem dX11_ages_10 : decode cX11_ages 10 = .ok (.iload_n 1, 1) := by decide +kernel
theorem dX11_ages_11 : decode cX11_ages 11 = .ok (.baload, 1) := by decide +kernel
theorem dX11_ages_12 : decode cX11_ages 12 = .ok (.ifCond .eq 7, 3) := by decide +kernel
theorem dX11_ages_15 : decode cX11_ages 15 = .ok (.iload_n 2, 1) := by decide +kernel
theorem dX11_ages_16 : decode cX11_ages 16 = .ok (.iconst 2, 1) := by decide +kernel
theorem dX11_ages_17 : decode cX11_ages 17 = .ok (.idiv, 1) := by decide +kernel
theorem dX11_ages_18 : decode cX11_ages 18 = .ok (.istore_n 2, 1) := by decide +kernel
theorem dX11_ages_19 : decode cX11_ages 19 = .ok (.aload_n 0, 1) := by decide +kernel
theorem dX11_ages_20 : decode cX11_ages 20 = .ok (.getfield 32, 3) := by decide +kernel
theorem dX11_ages_23 : decode cX11_ages 23 = .ok (.iload_n 1, 1) := by decide +kernel
theorem dX11_ages_24 : decode cX11_ages 24 = .ok (.baload, 1) := by decide +kernel
theorem dX11_ages_25 : decode cX11_ages 25 = .ok (.ifCond .ne 7, 3) := by decide +kernel
theorem dX11_ages_28 : decode cX11_ages 28 = .ok (.iload_n 2, 1) := by decide +kernel
theorem dX11_ages_29 : decode cX11_ages 29 = .ok (.iconst 2, 1) := by decide +kernel
theorem dX11_ages_30 : decode cX11_ages 30 = .ok (.imul, 1) := by decide +kernel
theorem dX11_ages_31 : decode cX11_ages 31 = .ok (.istore_n 2, 1) := by decide +kernel
theorem dX11_ages_32 : decode cX11_ages 32 = .ok (.aload_n 0, 1) := by decide +kernel
theorem dX11_ages_33 : decode cX11_ages 33 = .ok (.getfield 44, 3) := by decide +kernel
theorem dX11_ages_36 : decode cX11_ages 36 = .ok (.iload_n 1, 1) := by decide +kernel
theorem dX11_ages_37 : decode cX11_ages 37 = .ok (.bipush 100, 2) := by decide +kernel
theorem dX11_ages_39 : decode cX11_ages 39 = .ok (.aload_n 0, 1) := by decide +kernel
theorem dX11_ages_40 : decode cX11_ages 40 = .ok (.getfield 44, 3) := by decide +kernel
theorem dX11_ages_43 : decode cX11_ages 43 = .ok (.iload_n 1, 1) := by decide +kernel
theorem dX11_ages_44 : decode cX11_ages 44 = .ok (.iaload, 1) := by decide +kernel
theorem dX11_ages_45 : decode cX11_ages 45 = .ok (.iload_n 2, 1) := by decide +kernel
theorem dX11_ages_46 : decode cX11_ages 46 = .ok (.iadd, 1) := by decide +kernel
theorem dX11_ages_47 : decode cX11_ages 47 = .ok (.invokestatic 227, 3) := by decide +kernel
theorem dX11_ages_50 : decode cX11_ages 50 = .ok (.iastore, 1) := by decide +kernel
theorem dX11_ages_51 : decode cX11_ages 51 = .ok (.aload_n 0, 1) := by decide +kernel
theorem dX11_ages_52 : decode cX11_ages 52 = .ok (.getfield 212, 3) := by decide +kernel
theorem dX11_ages_55 : decode cX11_ages 55 = .ok (.sipush 365, 3) := by decide +kernel
theorem dX11_ages_58 : decode cX11_ages 58 = .ok (.irem, 1) := by decide +kernel
theorem dX11_ages_59 : decode cX11_ages 59 = .ok (.istore_n 3, 1) := by decide +kernel
theorem dX11_ages_60 : decode cX11_ages 60 = .ok (.aload_n 0, 1) := by decide +kernel
theorem dX11_ages_61 : decode cX11_ages 61 = .ok (.iconst 1, 1) := by decide +kernel
theorem dX11_ages_62 : decode cX11_ages 62 = .ok (.invokevirtual 209, 3) := by decide +kernel
theorem dX11_ages_65 : decode cX11_ages 65 = .ok (.istore 4, 2) := by decide +kernel
theorem dX11_ages_67 : decode cX11_ages 67 = .ok (.aload_n 0, 1) := by decide +kernel
theorem dX11_ages_68 : decode cX11_ages 68 = .ok (.iconst 2, 1) := by decide +kernel
theorem dX11_ages_69 : decode cX11_ages 69 = .ok (.invokevirtual 209, 3) := by decide +kernel
theorem dX11_ages_72 : decode cX11_ages 72 = .ok (.istore 5, 2) := by decide +kernel
theorem dX11_ages_74 : decode cX11_ages 74 = .ok (.iload 4, 2) := by decide +kernel
theorem dX11_ages_76 : decode cX11_ages 76 = .ok (.iload 5, 2) := by decide +kernel
theorem dX11_ages_78 : decode cX11_ages 78 = .ok (.if_icmp .gt 17, 3) := by decide +kernel
theorem dX11_ages_81 : decode cX11_ages 81 = .ok (.iload_n 3, 1) := by decide +kernel
theorem dX11_ages_82 : decode cX11_ages 82 = .ok (.iload 4, 2) := by decide +kernel
theorem dX11_ages_84 : decode cX11_ages 84 = .ok (.iload 5, 2) := by decide +kernel
theorem dX11_ages_86 : decode cX11_ages 86 = .ok (.invokestatic 194, 3) := by decide +kernel
theorem dX11_ages_89 : decode cX11_ages 89 = .ok (.ifCond .eq 50, 3) := by decide +kernel
theorem dX11_ages_92 : decode cX11_ages 92 = .ok (.goto 15, 3) := by decide +kernel
theorem dX11_ages_95 : decode cX11_ages 95 = .ok (.iload_n 3, 1) := by decide +kernel
theorem dX11_ages_96 : decode cX11_ages 96 = .ok (.iload 4, 2) := by decide +kernel
theorem dX11_ages_98 : decode cX11_ages 98 = .ok (.if_icmp .ge 9, 3) := by decide +kernel
theorem dX11_ages_101 : decode cX11_ages 101 = .ok (.iload_n 3, 1) := by decide +kernel
theorem dX11_ages_102 : decode cX11_ages 102 = .ok (.iload 5, 2) := by decide +kernel
theorem dX11_ages_104 : decode cX11_ages 104 = .ok (.if_icmp .gt 35, 3) := by decide +kernel
theorem dX11_ages_107 : decode cX11_ages 107 = .ok (.aload_n 0, 1) := by decide +kernel
theorem dX11_ages_108 : decode cX11_ages 108 = .ok (.getfield 47, 3) := by decide +kernel
theorem dX11_ages_111 : decode cX11_ages 111 = .ok (.iload_n 1, 1) := by decide +kernel
theorem dX11_ages_112 : decode cX11_ages 112 = .ok (.bipush 10, 2) := by decide +kernel
theorem dX11_ages_114 : decode cX11_ages 114 = .ok (.aload_n 0, 1) := by decide +kernel
theorem dX11_ages_115 : decode cX11_ages 115 = .ok (.getfield 47, 3) := by decide +kernel
theorem dX11_ages_118 : decode cX11_ages 118 = .ok (.iload_n 1, 1) := by decide +kernel
theorem dX11_ages_119 : decode cX11_ages 119 = .ok (.iaload, 1) := by decide +kernel
theorem dX11_ages_120 : decode cX11_ages 120 = .ok (.aload_n 0, 1) := by decide +kernel
theorem dX11_ages_121 : decode cX11_ages 121 = .ok (.getfield 29, 3) := by decide +kernel
theorem dX11_ages_124 : decode cX11_ages 124 = .ok (.iload_n 1, 1) := by decide +kernel
theorem dX11_ages_125 : decode cX11_ages 125 = .ok (.baload, 1) := by decide +kernel
theorem dX11_ages_126 : decode cX11_ages 126 = .ok (.ifCond .eq 7, 3) := by decide +kernel
theorem dX11_ages_129 : decode cX11_ages 129 = .ok (.iconst 2, 1) := by decide +kernel
theorem dX11_ages_130 : decode cX11_ages 130 = .ok (.goto 4, 3) := by decide +kernel
theorem dX11_ages_133 : decode cX11_ages 133 = .ok (.iconst 1, 1) := by decide +kernel
theorem dX11_ages_134 : decode cX11_ages 134 = .ok (.iadd, 1) := by decide +kernel
theorem dX11_ages_135 : decode cX11_ages 135 = .ok (.invokestatic 227, 3) := by decide +kernel
theorem dX11_ages_138 : decode cX11_ages 138 = .ok (.iastore, 1) := by decide +kernel
theorem dX11_ages_139 : decode cX11_ages 139 = .ok (.aload_n 0, 1) := by decide +kernel
theorem dX11_ages_140 : decode cX11_ages 140 = .ok (.getfield 53, 3) := by decide +kernel
theorem dX11_ages_143 : decode cX11_ages 143 = .ok (.iload_n 1, 1) := by decide +kernel
theorem dX11_ages_144 : decode cX11_ages 144 = .ok (.iaload, 1) := by decide +kernel
theorem dX11_ages_145 : decode cX11_ages 145 = .ok (.bipush 20, 2) := by decide +kernel
theorem dX11_ages_147 : decode cX11_ages 147 = .ok (.aload_n 0, 1) := by decide +kernel
theorem dX11_ages_148 : decode cX11_ages 148 = .ok (.iload_n 1, 1) := by decide +kernel
theorem dX11_ages_149 : decode cX11_ages 149 = .ok (.invokevirtual 230, 3) := by decide +kernel
theorem dX11_ages_152 : decode cX11_ages 152 = .ok (.imul, 1) := by decide +kernel
theorem dX11_ages_153 : decode cX11_ages 153 = .ok (.invokestatic 227, 3) := by decide +kernel
theorem dX11_ages_156 : decode cX11_ages 156 = .ok (.istore 6, 2) := by decide +kernel
theorem dX11_ages_158 : decode cX11_ages 158 = .ok (.aload_n 0, 1) := by decide +kernel
theorem dX11_ages_159 : decode cX11_ages 159 = .ok (.getfield 53, 3) := by decide +kernel
theorem dX11_ages_162 : decode cX11_ages 162 = .ok (.iload_n 1, 1) := by decide +kernel
theorem dX11_ages_163 : decode cX11_ages 163 = .ok (.dup2, 1) := by decide +kernel
theorem dX11_ages_164 : decode cX11_ages 164 = .ok (.iaload, 1) := by decide +kernel
theorem dX11_ages_165 : decode cX11_ages 165 = .ok (.iload 6, 2) := by decide +kernel
theorem dX11_ages_167 : decode cX11_ages 167 = .ok (.isub, 1) := by decide +kernel
theorem dX11_ages_168 : decode cX11_ages 168 = .ok (.iastore, 1) := by decide +kernel
theorem dX11_ages_169 : decode cX11_ages 169 = .ok (.aload_n 0, 1) := by decide +kernel
theorem dX11_ages_170 : decode cX11_ages 170 = .ok (.dup, 1) := by decide +kernel
theorem dX11_ages_171 : decode cX11_ages 171 = .ok (.getfield 233, 3) := by decide +kernel
theorem dX11_ages_174 : decode cX11_ages 174 = .ok (.iload 6, 2) := by decide +kernel
theorem dX11_ages_176 : decode cX11_ages 176 = .ok (.i2l, 1) := by decide +kernel
theorem dX11_ages_177 : decode cX11_ages 177 = .ok (.ladd, 1) := by decide +kernel
theorem dX11_ages_178 : decode cX11_ages 178 = .ok (.putfield 233, 3) := by decide +kernel
theorem dX11_ages_181 : decode cX11_ages 181 = .ok (.aload_n 0, 1) := by decide +kernel
theorem dX11_ages_182 : decode cX11_ages 182 = .ok (.getfield 56, 3) := by decide +kernel
theorem dX11_ages_185 : decode cX11_ages 185 = .ok (.iload_n 1, 1) := by decide +kernel
theorem dX11_ages_186 : decode cX11_ages 186 = .ok (.aload_n 0, 1) := by decide +kernel
theorem dX11_ages_187 : decode cX11_ages 187 = .ok (.getfield 53, 3) := by decide +kernel
theorem dX11_ages_190 : decode cX11_ages 190 = .ok (.iload_n 1, 1) := by decide +kernel
theorem dX11_ages_191 : decode cX11_ages 191 = .ok (.iaload, 1) := by decide +kernel
theorem dX11_ages_192 : decode cX11_ages 192 = .ok (.ifCond .le 14, 3) := by decide +kernel
theorem dX11_ages_195 : decode cX11_ages 195 = .ok (.aload_n 0, 1) := by decide +kernel
theorem dX11_ages_196 : decode cX11_ages 196 = .ok (.getfield 56, 3) := by decide +kernel
theorem dX11_ages_199 : decode cX11_ages 199 = .ok (.iload_n 1, 1) := by decide +kernel
theorem dX11_ages_200 : decode cX11_ages 200 = .ok (.iaload, 1) := by decide +kernel
theorem dX11_ages_201 : decode cX11_ages 201 = .ok (.iconst 1, 1) := by decide +kernel
theorem dX11_ages_202 : decode cX11_ages 202 = .ok (.iadd, 1) := by decide +kernel
theorem dX11_ages_203 : decode cX11_ages 203 = .ok (.goto 4, 3) := by decide +kernel
theorem dX11_ages_206 : decode cX11_ages 206 = .ok (.iconst 0, 1) := by decide +kernel
theorem dX11_ages_207 : decode cX11_ages 207 = .ok (.iastore, 1) := by decide +kernel
theorem dX11_ages_208 : decode cX11_ages 208 = .ok (.aload_n 0, 1) := by decide +kernel
theorem dX11_ages_209 : decode cX11_ages 209 = .ok (.getfield 56, 3) := by decide +kernel
theorem dX11_ages_212 : decode cX11_ages 212 = .ok (.iload_n 1, 1) := by decide +kernel
theorem dX11_ages_213 : decode cX11_ages 213 = .ok (.iaload, 1) := by decide +kernel
theorem dX11_ages_214 : decode cX11_ages 214 = .ok (.aload_n 0, 1) := by decide +kernel
theorem dX11_ages_215 : decode cX11_ages 215 = .ok (.bipush 6, 2) := by decide +kernel
theorem dX11_ages_217 : decode cX11_ages 217 = .ok (.invokevirtual 209, 3) := by decide +kernel
theorem dX11_ages_220 : decode cX11_ages 220 = .ok (.iconst 1, 1) := by decide +kernel
theorem dX11_ages_221 : decode cX11_ages 221 = .ok (.iadd, 1) := by decide +kernel
theorem dX11_ages_222 : decode cX11_ages 222 = .ok (.if_icmp .ne 10, 3) := by decide +kernel
theorem dX11_ages_225 : decode cX11_ages 225 = .ok (.aload_n 0, 1) := by decide +kernel
theorem dX11_ages_226 : decode cX11_ages 226 = .ok (.iload_n 1, 1) := by decide +kernel
theorem dX11_ages_227 : decode cX11_ages 227 = .ok (.iconst 2, 1) := by decide +kernel
theorem dX11_ages_228 : decode cX11_ages 228 = .ok (.invokevirtual 237, 3) := by decide +kernel
theorem dX11_ages_231 : decode cX11_ages 231 = .ok (.pop, 1) := by decide +kernel
theorem dX11_ages_232 : decode cX11_ages 232 = .ok (.iload_n 3, 1) := by decide +kernel
theorem dX11_ages_233 : decode cX11_ages 233 = .ok (.bipush 60, 2) := by decide +kernel
theorem dX11_ages_235 : decode cX11_ages 235 = .ok (.if_icmp .eq 4, 3) := by decide +kernel
theorem dX11_ages_238 : decode cX11_ages 238 = .ok (.return_, 1) := by decide +kernel
theorem dX11_ages_239 : decode cX11_ages 239 = .ok (.aload_n 0, 1) := by decide +kernel
theorem dX11_ages_240 : decode cX11_ages 240 = .ok (.getfield 50, 3) := by decide +kernel
theorem dX11_ages_243 : decode cX11_ages 243 = .ok (.iload_n 1, 1) := by decide +kernel
theorem dX11_ages_244 : decode cX11_ages 244 = .ok (.iaload, 1) := by decide +kernel
theorem dX11_ages_245 : decode cX11_ages 245 = .ok (.aload_n 0, 1) := by decide +kernel
theorem dX11_ages_246 : decode cX11_ages 246 = .ok (.iconst 5, 1) := by decide +kernel
theorem dX11_ages_247 : decode cX11_ages 247 = .ok (.invokevirtual 209, 3) := by decide +kernel
theorem dX11_ages_250 : decode cX11_ages 250 = .ok (.if_icmp .le 10, 3) := by decide +kernel
theorem dX11_ages_253 : decode cX11_ages 253 = .ok (.aload_n 0, 1) := by decide +kernel
theorem dX11_ages_254 : decode cX11_ages 254 = .ok (.getfield 32, 3) := by decide +kernel
theorem dX11_ages_257 : decode cX11_ages 257 = .ok (.iload_n 1, 1) := by decide +kernel
theorem dX11_ages_258 : decode cX11_ages 258 = .ok (.iconst 0, 1) := by decide +kernel
theorem dX11_ages_259 : decode cX11_ages 259 = .ok (.bastore, 1) := by decide +kernel
theorem dX11_ages_260 : decode cX11_ages 260 = .ok (.aload_n 0, 1) := by decide +kernel
theorem dX11_ages_261 : decode cX11_ages 261 = .ok (.getfield 50, 3) := by decide +kernel
theorem dX11_ages_264 : decode cX11_ages 264 = .ok (.iload_n 1, 1) := by decide +kernel
theorem dX11_ages_265 : decode cX11_ages 265 = .ok (.iconst 0, 1) := by decide +kernel
theorem dX11_ages_266 : decode cX11_ages 266 = .ok (.iastore, 1) := by decide +kernel
theorem dX11_ages_267 : decode cX11_ages 267 = .ok (.return_, 1) := by decide +kernel
theorem dX11_turns_0 : decode cX11_turns 0 = .ok (.aload_n 0, 1) := by decide +kernel
theorem dX11_turns_1 : decode cX11_turns 1 = .ok (.aload_n 0, 1) := by decide +kernel
theorem dX11_turns_2 : decode cX11_turns 2 = .ok (.getfield 212, 3) := by decide +kernel
theorem dX11_turns_5 : decode cX11_turns 5 = .ok (.invokevirtual 240, 3) := by decide +kernel
theorem dX11_turns_8 : decode cX11_turns 8 = .ok (.istore_n 1, 1) := by decide +kernel
theorem dX11_turns_9 : decode cX11_turns 9 = .ok (.bipush 24, 2) := by decide +kernel
theorem dX11_turns_11 : decode cX11_turns 11 = .ok (.iload_n 1, 1) := by decide +kernel
theorem dX11_turns_12 : decode cX11_turns 12 = .ok (.imul, 1) := by decide +kernel
theorem dX11_turns_13 : decode cX11_turns 13 = .ok (.istore_n 2, 1) := by decide +kernel
theorem dX11_turns_14 : decode cX11_turns 14 = .ok (.iload_n 1, 1) := by decide +kernel
theorem dX11_turns_15 : decode cX11_turns 15 = .ok (.iconst (-1), 1) := by decide +kernel
theorem dX11_turns_16 : decode cX11_turns 16 = .ok (.if_icmp .eq 129, 3) := by decide +kernel
theorem dX11_turns_19 : decode cX11_turns 19 = .ok (.iload_n 2, 1) := by decide +kernel
theorem dX11_turns_20 : decode cX11_turns 20 = .ok (.bipush 24, 2) := by decide +kernel
theorem dX11_turns_22 : decode cX11_turns 22 = .ok (.iload_n 1, 1) := by decide +kernel
theorem dX11_turns_23 : decode cX11_turns 23 = .ok (.imul, 1) := by decide +kernel
theorem dX11_turns_24 : decode cX11_turns 24 = .ok (.aload_n 0, 1) := by decide +kernel
theorem dX11_turns_25 : decode cX11_turns 25 = .ok (.getfield 159, 3) := by decide +kernel
theorem dX11_turns_28 : decode cX11_turns 28 = .ok (.iload_n 1, 1) := by decide +kernel
theorem dX11_turns_29 : decode cX11_turns 29 = .ok (.iaload, 1) := by decide +kernel
theorem dX11_turns_30 : decode cX11_turns 30 = .ok (.iadd, 1) := by decide +kernel
theorem dX11_turns_31 : decode cX11_turns 31 = .ok (.if_icmp .ge 114, 3) := by decide +kernel
theorem dX11_turns_34 : decode cX11_turns 34 = .ok (.aload_n 0, 1) := by decide +kernel
theorem dX11_turns_35 : decode cX11_turns 35 = .ok (.iload_n 2, 1) := by decide +kernel
theorem dX11_turns_36 : decode cX11_turns 36 = .ok (.aload_n 0, 1) := by decide +kernel
theorem dX11_turns_37 : decode cX11_turns 37 = .ok (.getfield 212, 3) := by decide +kernel
theorem dX11_turns_40 : decode cX11_turns 40 = .ok (.invokevirtual 243, 3) := by decide +kernel
theorem dX11_turns_43 : decode cX11_turns 43 = .ok (.ifCond .eq 96, 3) := by decide +kernel
theorem dX11_turns_46 : decode cX11_turns 46 = .ok (.aload_n 0, 1) := by decide +kernel
theorem dX11_turns_47 : decode cX11_turns 47 = .ok (.aload_n 0, 1) := by decide +kernel
theorem dX11_turns_48 : decode cX11_turns 48 = .ok (.getfield 171, 3) := by decide +kernel
theorem dX11_turns_51 : decode cX11_turns 51 = .ok (.iload_n 2, 1) := by decide +kernel
theorem dX11_turns_52 : decode cX11_turns 52 = .ok (.iaload, 1) := by decide +kernel
theorem dX11_turns_53 : decode cX11_turns 53 = .ok (.invokevirtual 219, 3) := by decide +kernel
theorem dX11_turns_56 : decode cX11_turns 56 = .ok (.ifCond .ne 6, 3) := by decide +kernel
theorem dX11_turns_59 : decode cX11_turns 59 = .ok (.goto 80, 3) := by decide +kernel
theorem dX11_turns_62 : decode cX11_turns 62 = .ok (.aload_n 0, 1) := by decide +kernel
theorem dX11_turns_63 : decode cX11_turns 63 = .ok (.getfield 62, 3) := by decide +kernel
theorem dX11_turns_66 : decode cX11_turns 66 = .ok (.bipush 11, 2) := by decide +kernel
theorem dX11_turns_68 : decode cX11_turns 68 = .ok (.aload_n 0, 1) := by decide +kernel
theorem dX11_turns_69 : decode cX11_turns 69 = .ok (.getfield 171, 3) := by decide +kernel
theorem dX11_turns_72 : decode cX11_turns 72 = .ok (.iload_n 2, 1) := by decide +kernel
theorem dX11_turns_73 : decode cX11_turns 73 = .ok (.iaload, 1) := by decide +kernel
theorem dX11_turns_74 : decode cX11_turns 74 = .ok (.imul, 1) := by decide +kernel
theorem dX11_turns_75 : decode cX11_turns 75 = .ok (.aload_n 0, 1) := by decide +kernel
theorem dX11_turns_76 : decode cX11_turns 76 = .ok (.getfield 168, 3) := by decide +kernel
theorem dX11_turns_79 : decode cX11_turns 79 = .ok (.iload_n 2, 1) := by decide +kernel
theorem dX11_turns_80 : decode cX11_turns 80 = .ok (.iaload, 1) := by decide +kernel
theorem dX11_turns_81 : decode cX11_turns 81 = .ok (.iadd, 1) := by decide +kernel
theorem dX11_turns_82 : decode cX11_turns 82 = .ok (.iaload, 1) := by decide +kernel
theorem dX11_turns_83 : decode cX11_turns 83 = .ok (.aload_n 0, 1) := by decide +kernel
theorem dX11_turns_84 : decode cX11_turns 84 = .ok (.getfield 212, 3) := by decide +kernel
theorem dX11_turns_87 : decode cX11_turns 87 = .ok (.if_icmp .ne 33, 3) := by decide +kernel
theorem dX11_turns_90 : decode cX11_turns 90 = .ok (.aload_n 0, 1) := by decide +kernel
theorem dX11_turns_91 : decode cX11_turns 91 = .ok (.getfield 92, 3) := by decide +kernel
theorem dX11_turns_94 : decode cX11_turns 94 = .ok (.bipush 10, 2) := by decide +kernel
theorem dX11_turns_96 : decode cX11_turns 96 = .ok (.aload_n 0, 1) := by decide +kernel
theorem dX11_turns_97 : decode cX11_turns 97 = .ok (.getfield 212, 3) := by decide +kernel
theorem dX11_turns_100 : decode cX11_turns 100 = .ok (.sipush 365, 3) := by decide +kernel
theorem dX11_turns_103 : decode cX11_turns 103 = .ok (.idiv, 1) := by decide +kernel
theorem dX11_turns_104 : decode cX11_turns 104 = .ok (.imul, 1) := by decide +kernel
theorem dX11_turns_105 : decode cX11_turns 105 = .ok (.aload_n 0, 1) := by decide +kernel
theorem dX11_turns_106 : decode cX11_turns 106 = .ok (.getfield 168, 3) := by decide +kernel
theorem dX11_turns_109 : decode cX11_turns 109 = .ok (.iload_n 2, 1) := by decide +kernel
theorem dX11_turns_110 : decode cX11_turns 110 = .ok (.iaload, 1) := by decide +kernel
theorem dX11_turns_111 : decode cX11_turns 111 = .ok (.iadd, 1) := by decide +kernel
theorem dX11_turns_112 : decode cX11_turns 112 = .ok (.dup2, 1) := by decide +kernel
theorem dX11_turns_113 : decode cX11_turns 113 = .ok (.iaload, 1) := by decide +kernel
theorem dX11_turns_114 : decode cX11_turns 114 = .ok (.iconst 1, 1) := by decide +kernel
theorem dX11_turns_115 : decode cX11_turns 115 = .ok (.iadd, 1) := by decide +kernel
theorem dX11_turns_116 : decode cX11_turns 116 = .ok (.iastore, 1) := by decide +kernel
theorem dX11_turns_117 : decode cX11_turns 117 = .ok (.goto 22, 3) := by decide +kernel
theorem dX11_turns_120 : decode cX11_turns 120 = .ok (.aload_n 0, 1) := by decide +kernel
theorem dX11_turns_121 : decode cX11_turns 121 = .ok (.getfield 89, 3) := by decide +kernel
theorem dX11_turns_124 : decode cX11_turns 124 = .ok (.aload_n 0, 1) := by decide +kernel
theorem dX11_turns_125 : decode cX11_turns 125 = .ok (.getfield 168, 3) := by decide +kernel
theorem dX11_turns_128 : decode cX11_turns 128 = .ok (.iload_n 2, 1) := by decide +kernel
theorem dX11_turns_129 : decode cX11_turns 129 = .ok (.iaload, 1) := by decide +kernel
theorem dX11_turns_130 : decode cX11_turns 130 = .ok (.dup2, 1) := by decide +kernel
theorem dX11_turns_131 : decode cX11_turns 131 = .ok (.iaload, 1) := by decide +kernel
theorem dX11_turns_132 : decode cX11_turns 132 = .ok (.aload_n 0, 1) := by decide +kernel
theorem dX11_turns_133 : decode cX11_turns 133 = .ok (.iconst 3, 1) := by decide +kernel
theorem dX11_turns_134 : decode cX11_turns 134 = .ok (.invokevirtual 209, 3) := by decide +kernel
theorem dX11_turns_137 : decode cX11_turns 137 = .ok (.iadd, 1) := by decide +kernel
theorem dX11_turns_138 : decode cX11_turns 138 = .ok (.iastore, 1) := by decide +kernel
theorem dX11_turns_139 : decode cX11_turns 139 = .ok (.iinc 2 1, 3) := by decide +kernel
theorem dX11_turns_142 : decode cX11_turns 142 = .ok (.goto (-128), 3) := by decide +kernel
theorem dX11_turns_145 : decode cX11_turns 145 = .ok (.return_, 1) := by decide +kernel
theorem dX11_pass_0 : decode cX11_pass 0 = .ok (.iload_n 1, 1) := by decide +kernel
theorem dX11_pass_1 : decode cX11_pass 1 = .ok (.iconst 1, 1) := by decide +kernel
theorem dX11_pass_2 : decode cX11_pass 2 = .ok (.bipush 100, 2) := by decide +kernel
theorem dX11_pass_4 : decode cX11_pass 4 = .ok (.invokestatic 194, 3) := by decide +kernel
theorem dX11_pass_7 : decode cX11_pass 7 = .ok (.ifCond .eq 15, 3) := by decide +kernel
theorem dX11_pass_10 : decode cX11_pass 10 = .ok (.aload_n 0, 1) := by decide +kernel
theorem dX11_pass_11 : decode cX11_pass 11 = .ok (.getfield 212, 3) := by decide +kernel
theorem dX11_pass_14 : decode cX11_pass 14 = .ok (.sipush 3649, 3) := by decide +kernel
theorem dX11_pass_17 : decode cX11_pass 17 = .ok (.iload_n 1, 1) := by decide +kernel
theorem dX11_pass_18 : decode cX11_pass 18 = .ok (.isub, 1) := by decide +kernel
theorem dX11_pass_19 : decode cX11_pass 19 = .ok (.if_icmp .le 5, 3) := by decide +kernel
theorem dX11_pass_22 : decode cX11_pass 22 = .ok (.iconst (-1), 1) := by decide +kernel
theorem dX11_pass_23 : decode cX11_pass 23 = .ok (.ireturn, 1) := by decide +kernel
theorem dX11_pass_24 : decode cX11_pass 24 = .ok (.iconst 0, 1) := by decide +kernel
theorem dX11_pass_25 : decode cX11_pass 25 = .ok (.istore_n 2, 1) := by decide +kernel
theorem dX11_pass_26 : decode cX11_pass 26 = .ok (.iload_n 2, 1) := by decide +kernel
theorem dX11_pass_27 : decode cX11_pass 27 = .ok (.iload_n 1, 1) := by decide +kernel
theorem dX11_pass_28 : decode cX11_pass 28 = .ok (.if_icmp .ge 104, 3) := by decide +kernel
theorem dX11_pass_31 : decode cX11_pass 31 = .ok (.iconst 0, 1) := by decide +kernel
theorem dX11_pass_32 : decode cX11_pass 32 = .ok (.istore_n 3, 1) := by decide +kernel
theorem dX11_pass_33 : decode cX11_pass 33 = .ok (.iload_n 3, 1) := by decide +kernel
theorem dX11_pass_34 : decode cX11_pass 34 = .ok (.aload_n 0, 1) := by decide +kernel
theorem dX11_pass_35 : decode cX11_pass 35 = .ok (.getfield 191, 3) := by decide +kernel
theorem dX11_pass_38 : decode cX11_pass 38 = .ok (.if_icmp .ge 23, 3) := by decide +kernel
theorem dX11_pass_41 : decode cX11_pass 41 = .ok (.aload_n 0, 1) := by decide +kernel
theorem dX11_pass_42 : decode cX11_pass 42 = .ok (.getfield 25, 3) := by decide +kernel
theorem dX11_pass_45 : decode cX11_pass 45 = .ok (.iload_n 3, 1) := by decide +kernel
theorem dX11_pass_46 : decode cX11_pass 46 = .ok (.baload, 1) := by decide +kernel
theorem dX11_pass_47 : decode cX11_pass 47 = .ok (.ifCond .eq 8, 3) := by decide +kernel
theorem dX11_pass_50 : decode cX11_pass 50 = .ok (.aload_n 0, 1) := by decide +kernel
theorem dX11_pass_51 : decode cX11_pass 51 = .ok (.iload_n 3, 1) := by decide +kernel
theorem dX11_pass_52 : decode cX11_pass 52 = .ok (.invokevirtual 247, 3) := by decide +kernel
theorem dX11_pass_55 : decode cX11_pass 55 = .ok (.iinc 3 1, 3) := by decide +kernel
theorem dX11_pass_58 : decode cX11_pass 58 = .ok (.goto (-25), 3) := by decide +kernel
theorem dX11_pass_61 : decode cX11_pass 61 = .ok (.iconst 0, 1) := by decide +kernel
theorem dX11_pass_62 : decode cX11_pass 62 = .ok (.istore_n 3, 1) := by decide +kernel
theorem dX11_pass_63 : decode cX11_pass 63 = .ok (.iload_n 3, 1) := by decide +kernel
theorem dX11_pass_64 : decode cX11_pass 64 = .ok (.aload_n 0, 1) := by decide +kernel
theorem dX11_pass_65 : decode cX11_pass 65 = .ok (.getfield 202, 3) := by decide +kernel
theorem dX11_pass_68 : decode cX11_pass 68 = .ok (.if_icmp .ge 44, 3) := by decide +kernel
theorem dX11_pass_71 : decode cX11_pass 71 = .ok (.iconst 5, 1) := by decide +kernel
theorem dX11_pass_72 : decode cX11_pass 72 = .ok (.aload_n 0, 1) := by decide +kernel
theorem dX11_pass_73 : decode cX11_pass 73 = .ok (.getfield 77, 3) := by decide +kernel
theorem dX11_pass_76 : decode cX11_pass 76 = .ok (.iload_n 3, 1) := by decide +kernel
theorem dX11_pass_77 : decode cX11_pass 77 = .ok (.iaload, 1) := by decide +kernel
theorem dX11_pass_78 : decode cX11_pass 78 = .ok (.invokestatic 227, 3) := by decide +kernel
theorem dX11_pass_81 : decode cX11_pass 81 = .ok (.istore 4, 2) := by decide +kernel
theorem dX11_pass_83 : decode cX11_pass 83 = .ok (.aload_n 0, 1) := by decide +kernel
theorem dX11_pass_84 : decode cX11_pass 84 = .ok (.getfield 77, 3) := by decide +kernel
theorem dX11_pass_87 : decode cX11_pass 87 = .ok (.iload_n 3, 1) := by decide +kernel
theorem dX11_pass_88 : decode cX11_pass 88 = .ok (.dup2, 1) := by decide +kernel
theorem dX11_pass_89 : decode cX11_pass 89 = .ok (.iaload, 1) := by decide +kernel
theorem dX11_pass_90 : decode cX11_pass 90 = .ok (.iload 4, 2) := by decide +kernel
theorem dX11_pass_92 : decode cX11_pass 92 = .ok (.isub, 1) := by decide +kernel
theorem dX11_pass_93 : decode cX11_pass 93 = .ok (.iastore, 1) := by decide +kernel
theorem dX11_pass_94 : decode cX11_pass 94 = .ok (.aload_n 0, 1) := by decide +kernel
theorem dX11_pass_95 : decode cX11_pass 95 = .ok (.dup, 1) := by decide +kernel
theorem dX11_pass_96 : decode cX11_pass 96 = .ok (.getfield 251, 3) := by decide +kernel
theorem dX11_pass_99 : decode cX11_pass 99 = .ok (.iload 4, 2) := by decide +kernel
theorem dX11_pass_101 : decode cX11_pass 101 = .ok (.i2l, 1) := by decide +kernel
theorem dX11_pass_102 : decode cX11_pass 102 = .ok (.ladd, 1) := by decide +kernel
theorem dX11_pass_103 : decode cX11_pass 103 = .ok (.putfield 251, 3) := by decide +kernel
theorem dX11_pass_106 : decode cX11_pass 106 = .ok (.iinc 3 1, 3) := by decide +kernel
theorem dX11_pass_109 : decode cX11_pass 109 = .ok (.goto (-46), 3) := by decide +kernel
theorem dX11_pass_112 : decode cX11_pass 112 = .ok (.aload_n 0, 1) := by decide +kernel
theorem dX11_pass_113 : decode cX11_pass 113 = .ok (.invokevirtual 254, 3) := by decide +kernel
theorem dX11_pass_116 : decode cX11_pass 116 = .ok (.aload_n 0, 1) := by decide +kernel
theorem dX11_pass_117 : decode cX11_pass 117 = .ok (.dup, 1) := by decide +kernel
theorem dX11_pass_118 : decode cX11_pass 118 = .ok (.getfield 212, 3) := by decide +kernel
theorem dX11_pass_121 : decode cX11_pass 121 = .ok (.iconst 1, 1) := by decide +kernel
theorem dX11_pass_122 : decode cX11_pass 122 = .ok (.iadd, 1) := by decide +kernel
theorem dX11_pass_123 : decode cX11_pass 123 = .ok (.putfield 212, 3) := by decide +kernel
theorem dX11_pass_126 : decode cX11_pass 126 = .ok (.iinc 2 1, 3) := by decide +kernel
theorem dX11_pass_129 : decode cX11_pass 129 = .ok (.goto (-103), 3) := by decide +kernel
theorem dX11_pass_132 : decode cX11_pass 132 = .ok (.aload_n 0, 1) := by decide +kernel
theorem dX11_pass_133 : decode cX11_pass 133 = .ok (.getfield 212, 3) := by decide +kernel
theorem dX11_pass_136 : decode cX11_pass 136 = .ok (.ireturn, 1) := by decide +kernel
theorem dX11_rain_0 : decode cX11_rain 0 = .ok (.iload_n 1, 1) := by decide +kernel
theorem dX11_rain_1 : decode cX11_rain 1 = .ok (.iconst 0, 1) := by decide +kernel
theorem dX11_rain_2 : decode cX11_rain 2 = .ok (.bipush 50, 2) := by decide +kernel
theorem dX11_rain_4 : decode cX11_rain 4 = .ok (.invokestatic 194, 3) := by decide +kernel
theorem dX11_rain_7 : decode cX11_rain 7 = .ok (.ifCond .eq 12, 3) := by decide +kernel
theorem dX11_rain_10 : decode cX11_rain 10 = .ok (.aload_n 0, 1) := by decide +kernel
theorem dX11_rain_11 : decode cX11_rain 11 = .ok (.getfield 257, 3) := by decide +kernel
theorem dX11_rain_14 : decode cX11_rain 14 = .ok (.bipush 30, 2) := by decide +kernel
theorem dX11_rain_16 : decode cX11_rain 16 = .ok (.if_icmp .ne 5, 3) := by decide +kernel
theorem dX11_rain_19 : decode cX11_rain 19 = .ok (.iconst (-1), 1) := by decide +kernel
theorem dX11_rain_20 : decode cX11_rain 20 = .ok (.ireturn, 1) := by decide +kernel
theorem dX11_rain_21 : decode cX11_rain 21 = .ok (.aload_n 0, 1) := by decide +kernel
theorem dX11_rain_22 : decode cX11_rain 22 = .ok (.getfield 86, 3) := by decide +kernel
theorem dX11_rain_25 : decode cX11_rain 25 = .ok (.aload_n 0, 1) := by decide +kernel
theorem dX11_rain_26 : decode cX11_rain 26 = .ok (.getfield 257, 3) := by decide +kernel
theorem dX11_rain_29 : decode cX11_rain 29 = .ok (.iload_n 1, 1) := by decide +kernel
theorem dX11_rain_30 : decode cX11_rain 30 = .ok (.iastore, 1) := by decide +kernel
theorem dX11_rain_31 : decode cX11_rain 31 = .ok (.aload_n 0, 1) := by decide +kernel
theorem dX11_rain_32 : decode cX11_rain 32 = .ok (.dup, 1) := by decide +kernel
theorem dX11_rain_33 : decode cX11_rain 33 = .ok (.getfield 257, 3) := by decide +kernel
theorem dX11_rain_36 : decode cX11_rain 36 = .ok (.iconst 1, 1) := by decide +kernel
theorem dX11_rain_37 : decode cX11_rain 37 = .ok (.iadd, 1) := by decide +kernel
theorem dX11_rain_38 : decode cX11_rain 38 = .ok (.putfield 257, 3) := by decide +kernel
theorem dX11_rain_41 : decode cX11_rain 41 = .ok (.aload_n 0, 1) := by decide +kernel
theorem dX11_rain_42 : decode cX11_rain 42 = .ok (.getfield 257, 3) := by decide +kernel
theorem dX11_rain_45 : decode cX11_rain 45 = .ok (.ireturn, 1) := by decide +kernel
theorem dX11_clear_0 : decode cX11_clear 0 = .ok (.aload_n 0, 1) := by decide +kernel
theorem dX11_clear_1 : decode cX11_clear 1 = .ok (.getfield 257, 3) := by decide +kernel
theorem dX11_clear_4 : decode cX11_clear 4 = .ok (.istore_n 1, 1) := by decide +kernel
theorem dX11_clear_5 : decode cX11_clear 5 = .ok (.aload_n 0, 1) := by decide +kernel
theorem dX11_clear_6 : decode cX11_clear 6 = .ok (.iconst 0, 1) := by decide +kernel
theorem dX11_clear_7 : decode cX11_clear 7 = .ok (.putfield 257, 3) := by decide +kernel
theorem dX11_clear_10 : decode cX11_clear 10 = .ok (.iload_n 1, 1) := by decide +kernel
theorem dX11_clear_11 : decode cX11_clear 11 = .ok (.ireturn, 1) := by decide +kernel
theorem dX11_falls_0 : decode cX11_falls 0 = .ok (.aload_n 0, 1) := by decide +kernel
theorem dX11_falls_1 : decode cX11_falls 1 = .ok (.lconst 0, 1) := by decide +kernel
theorem dX11_falls_2 : decode cX11_falls 2 = .ok (.putfield 260, 3) := by decide +kernel
theorem dX11_falls_5 : decode cX11_falls 5 = .ok (.aload_n 0, 1) := by decide +kernel
theorem dX11_falls_6 : decode cX11_falls 6 = .ok (.lconst 0, 1) := by decide +kernel
theorem dX11_falls_7 : decode cX11_falls 7 = .ok (.putfield 263, 3) := by decide +kernel
theorem dX11_falls_10 : decode cX11_falls 10 = .ok (.aload_n 0, 1) := by decide +kernel
theorem dX11_falls_11 : decode cX11_falls 11 = .ok (.lconst 0, 1) := by decide +kernel
theorem dX11_falls_12 : decode cX11_falls 12 = .ok (.putfield 266, 3) := by decide +kernel
theorem dX11_falls_15 : decode cX11_falls 15 = .ok (.aload_n 0, 1) := by decide +kernel
theorem dX11_falls_16 : decode cX11_falls 16 = .ok (.lconst 0, 1) := by decide +kernel
theorem dX11_falls_17 : decode cX11_falls 17 = .ok (.putfield 269, 3) := by decide +kernel
theorem dX11_falls_20 : decode cX11_falls 20 = .ok (.aload_n 0, 1) := by decide +kernel
theorem dX11_falls_21 : decode cX11_falls 21 = .ok (.lconst 0, 1) := by decide +kernel
theorem dX11_falls_22 : decode cX11_falls 22 = .ok (.putfield 272, 3) := by decide +kernel
theorem dX11_falls_25 : decode cX11_falls 25 = .ok (.aload_n 0, 1) := by decide +kernel
theorem dX11_falls_26 : decode cX11_falls 26 = .ok (.iconst 0, 1) := by decide +kernel
theorem dX11_falls_27 : decode cX11_falls 27 = .ok (.putfield 275, 3) := by decide +kernel
theorem dX11_falls_30 : decode cX11_falls 30 = .ok (.iconst 0, 1) := by decide +kernel
theorem dX11_falls_31 : decode cX11_falls 31 = .ok (.istore_n 2, 1) := by decide +kernel
theorem dX11_falls_32 : decode cX11_falls 32 = .ok (.iload_n 2, 1) := by decide +kernel
theorem dX11_falls_33 : decode cX11_falls 33 = .ok (.aload_n 0, 1) := by decide +kernel
theorem dX11_falls_34 : decode cX11_falls 34 = .ok (.getfield 202, 3) := by decide +kernel
theorem dX11_falls_37 : decode cX11_falls 37 = .ok (.if_icmp .ge 21, 3) := by decide +kernel
theorem dX11_falls_40 : decode cX11_falls 40 = .ok (.aload_n 0, 1) := by decide +kernel
theorem dX11_falls_41 : decode cX11_falls 41 = .ok (.getfield 95, 3) := by decide +kernel
theorem dX11_falls_44 : decode cX11_falls 44 = .ok (.iload_n 2, 1) := by decide +kernel
theorem dX11_falls_45 : decode cX11_falls 45 = .ok (.aload_n 0, 1) := by decide +kernel
theorem dX11_falls_46 : decode cX11_falls 46 = .ok (.getfield 77, 3) := by decide +kernel
theorem dX11_falls_49 : decode cX11_falls 49 = .ok (.iload_n 2, 1) := by decide +kernel
theorem dX11_falls_50 : decode cX11_falls 50 = .ok (.iaload, 1) := by decide +kernel
theorem dX11_falls_51 : decode cX11_falls 51 = .ok (.iastore, 1) := by decide +kernel
theorem dX11_falls_52 : decode cX11_falls 52 = .ok (.iinc 2 1, 3) := by decide +kernel
theorem dX11_falls_55 : decode cX11_falls 55 = .ok (.goto (-23), 3) := by decide +kernel
theorem dX11_falls_58 : decode cX11_falls 58 = .ok (.iconst 0, 1) := by decide +kernel
theorem dX11_falls_59 : decode cX11_falls 59 = .ok (.istore_n 2, 1) := by decide +kernel
theorem dX11_falls_60 : decode cX11_falls 60 = .ok (.iload_n 2, 1) := by decide +kernel
theorem dX11_falls_61 : decode cX11_falls 61 = .ok (.aload_n 0, 1) := by decide +kernel
theorem dX11_falls_62 : decode cX11_falls 62 = .ok (.getfield 191, 3) := by decide +kernel
theorem dX11_falls_65 : decode cX11_falls 65 = .ok (.if_icmp .ge 66, 3) := by decide +kernel
theorem dX11_falls_68 : decode cX11_falls 68 = .ok (.aload_n 0, 1) := by decide +kernel
theorem dX11_falls_69 : decode cX11_falls 69 = .ok (.dup, 1) := by decide +kernel
theorem dX11_falls_70 : decode cX11_falls 70 = .ok (.getfield 263, 3) := by decide +kernel
theorem dX11_falls_73 : decode cX11_falls 73 = .ok (.aload_n 0, 1) := by decide +kernel
theorem dX11_falls_74 : decode cX11_falls 74 = .ok (.getfield 25, 3) := by decide +kernel
theorem dX11_falls_77 : decode cX11_falls 77 = .ok (.iload_n 2, 1) := by decide +kernel
theorem dX11_falls_78 : decode cX11_falls 78 = .ok (.baload, 1) := by decide +kernel
theorem dX11_falls_79 : decode cX11_falls 79 = .ok (.ifCond .eq 13, 3) := by decide +kernel
theorem dX11_falls_82 : decode cX11_falls 82 = .ok (.aload_n 0, 1) := by decide +kernel
theorem dX11_falls_83 : decode cX11_falls 83 = .ok (.getfield 53, 3) := by decide +kernel
theorem dX11_falls_86 : decode cX11_falls 86 = .ok (.iload_n 2, 1) := by decide +kernel
theorem dX11_falls_87 : decode cX11_falls 87 = .ok (.iaload, 1) := by decide +kernel
theorem dX11_falls_88 : decode cX11_falls 88 = .ok (.i2l, 1) := by decide +kernel
theorem dX11_falls_89 : decode cX11_falls 89 = .ok (.goto 4, 3) := by decide +kernel
theorem dX11_falls_92 : decode cX11_falls 92 = .ok (.lconst 0, 1) := by decide +kernel
theorem dX11_falls_93 : decode cX11_falls 93 = .ok (.ladd, 1) := by decide +kernel
theorem dX11_falls_94 : decode cX11_falls 94 = .ok (.putfield 263, 3) := by decide +kernel
theorem dX11_falls_97 : decode cX11_falls 97 = .ok (.aload_n 0, 1) := by decide +kernel
theorem dX11_falls_98 : decode cX11_falls 98 = .ok (.getfield 98, 3) := by decide +kernel
theorem dX11_falls_101 : decode cX11_falls 101 = .ok (.iload_n 2, 1) := by decide +kernel
theorem dX11_falls_102 : decode cX11_falls 102 = .ok (.iconst 0, 1) := by decide +kernel
theorem dX11_falls_103 : decode cX11_falls 103 = .ok (.iastore, 1) := by decide +kernel
theorem dX11_falls_104 : decode cX11_falls 104 = .ok (.aload_n 0, 1) := by decide +kernel
theorem dX11_falls_105 : decode cX11_falls 105 = .ok (.getfield 108, 3) := by decide +kernel
theorem dX11_falls_108 : decode cX11_falls 108 = .ok (.iload_n 2, 1) := by decide +kernel
theorem dX11_falls_109 : decode cX11_falls 109 = .ok (.lconst 0, 1) := by decide +kernel
theorem dX11_falls_110 : decode cX11_falls 110 = .ok (.lastore, 1) := by decide +kernel
theorem dX11_falls_111 : decode cX11_falls 111 = .ok (.aload_n 0, 1) := by decide +kernel
theorem dX11_falls_112 : decode cX11_falls 112 = .ok (.getfield 111, 3) := by decide +kernel
theorem dX11_falls_115 : decode cX11_falls 115 = .ok (.iload_n 2, 1) := by decide +kernel
theorem dX11_falls_116 : decode cX11_falls 116 = .ok (.lconst 0, 1) := by decide +kernel
theorem dX11_falls_117 : decode cX11_falls 117 = .ok (.lastore, 1) := by decide +kernel
theorem dX11_falls_118 : decode cX11_falls 118 = .ok (.aload_n 0, 1) := by decide +kernel
theorem dX11_falls_119 : decode cX11_falls 119 = .ok (.getfield 114, 3) := by decide +kernel
theorem dX11_falls_122 : decode cX11_falls 122 = .ok (.iload_n 2, 1) := by decide +kernel
theorem dX11_falls_123 : decode cX11_falls 123 = .ok (.iconst 0, 1) := by decide +kernel
theorem dX11_falls_124 : decode cX11_falls 124 = .ok (.iastore, 1) := by decide +kernel
theorem dX11_falls_125 : decode cX11_falls 125 = .ok (.iinc 2 1, 3) := by decide +kernel
theorem dX11_falls_128 : decode cX11_falls 128 = .ok (.goto (-68), 3) := by decide +kernel
theorem dX11_falls_131 : decode cX11_falls 131 = .ok (.iconst 0, 1) := by decide +kernel
theorem dX11_falls_132 : decode cX11_falls 132 = .ok (.istore_n 2, 1) := by decide +kernel
theorem dX11_falls_133 : decode cX11_falls 133 = .ok (.iload_n 2, 1) := by decide +kernel
theorem dX11_falls_134 : decode cX11_falls 134 = .ok (.aload_n 0, 1) := by decide +kernel
theorem dX11_falls_135 : decode cX11_falls 135 = .ok (.getfield 257, 3) := by decide +kernel
theorem dX11_falls_138 : decode cX11_falls 138 = .ok (.if_icmp .ge 20, 3) := by decide +kernel
theorem dX11_falls_141 : decode cX11_falls 141 = .ok (.aload_n 0, 1) := by decide +kernel
theorem dX11_falls_142 : decode cX11_falls 142 = .ok (.aload_n 0, 1) := by decide +kernel
theorem dX11_falls_143 : decode cX11_falls 143 = .ok (.getfield 86, 3) := by decide +kernel
theorem dX11_falls_146 : decode cX11_falls 146 = .ok (.iload_n 2, 1) := by decide +kernel
theorem dX11_falls_147 : decode cX11_falls 147 = .ok (.iaload, 1) := by decide +kernel
theorem dX11_falls_148 : decode cX11_falls 148 = .ok (.iload_n 1, 1) := by decide +kernel
theorem dX11_falls_149 : decode cX11_falls 149 = .ok (.invokevirtual 278, 3) := by decide +kernel
theorem dX11_falls_152 : decode cX11_falls 152 = .ok (.iinc 2 1, 3) := by decide +kernel
theorem dX11_falls_155 : decode cX11_falls 155 = .ok (.goto (-22), 3) := by decide +kernel
theorem dX11_falls_158 : decode cX11_falls 158 = .ok (.return_, 1) := by decide +kernel
theorem dX11_minute_0 : decode cX11_minute 0 = .ok (.lconst 0, 1) := by decide +kernel
theorem dX11_minute_1 : decode cX11_minute 1 = .ok (.lstore_n 3, 1) := by decide +kernel
theorem dX11_minute_2 : decode cX11_minute 2 = .ok (.iconst 0, 1) := by decide +kernel
theorem dX11_minute_3 : decode cX11_minute 3 = .ok (.istore 5, 2) := by decide +kernel
theorem dX11_minute_5 : decode cX11_minute 5 = .ok (.iload 5, 2) := by decide +kernel
theorem dX11_minute_7 : decode cX11_minute 7 = .ok (.aload_n 0, 1) := by decide +kernel
theorem dX11_minute_8 : decode cX11_minute 8 = .ok (.getfield 191, 3) := by decide +kernel
theorem dX11_minute_11 : decode cX11_minute 11 = .ok (.if_icmp .ge 25, 3) := by decide +kernel
theorem dX11_minute_14 : decode cX11_minute 14 = .ok (.aload_n 0, 1) := by decide +kernel
theorem dX11_minute_15 : decode cX11_minute 15 = .ok (.getfield 101, 3) := by decide +kernel
theorem dX11_minute_18 : decode cX11_minute 18 = .ok (.iload 5, 2) := by decide +kernel
theorem dX11_minute_20 : decode cX11_minute 20 = .ok (.lconst 0, 1) := by decide +kernel
theorem dX11_minute_21 : decode cX11_minute 21 = .ok (.lastore, 1) := by decide +kernel
theorem dX11_minute_22 : decode cX11_minute 22 = .ok (.aload_n 0, 1) := by decide +kernel
theorem dX11_minute_23 : decode cX11_minute 23 = .ok (.getfield 105, 3) := by decide +kernel
theorem dX11_minute_26 : decode cX11_minute 26 = .ok (.iload 5, 2) := by decide +kernel
theorem dX11_minute_28 : decode cX11_minute 28 = .ok (.lconst 0, 1) := by decide +kernel
theorem dX11_minute_29 : decode cX11_minute 29 = .ok (.lastore, 1) := by decide +kernel
theorem dX11_minute_30 : decode cX11_minute 30 = .ok (.iinc 5 1, 3) := by decide +kernel
theorem dX11_minute_33 : decode cX11_minute 33 = .ok (.goto (-28), 3) := by decide +kernel
theorem dX11_minute_36 : decode cX11_minute 36 = .ok (.iconst 0, 1) := by decide +kernel
theorem dX11_minute_37 : decode cX11_minute 37 = .ok (.istore 5, 2) := by decide +kernel
theorem dX11_minute_39 : decode cX11_minute 39 = .ok (.iload 5, 2) := by decide +kernel
theorem dX11_minute_41 : decode cX11_minute 41 = .ok (.aload_n 0, 1) := by decide +kernel
theorem dX11_minute_42 : decode cX11_minute 42 = .ok (.getfield 191, 3) := by decide +kernel
theorem dX11_minute_45 : decode cX11_minute 45 = .ok (.if_icmp .ge 427, 3) := by decide +kernel
theorem dX11_minute_48 : decode cX11_minute 48 = .ok (.aload_n 0, 1) := by decide +kernel
theorem dX11_minute_49 : decode cX11_minute 49 = .ok (.getfield 101, 3) := by decide +kernel
theorem dX11_minute_52 : decode cX11_minute 52 = .ok (.iload 5, 2) := by decide +kernel
theorem dX11_minute_54 : decode cX11_minute 54 = .ok (.laload, 1) := by decide +kernel
theorem dX11_minute_55 : decode cX11_minute 55 = .ok (.iload_n 1, 1) := by decide +kernel
theorem dX11_minute_56 : decode cX11_minute 56 = .ok (.i2l, 1) := by decide +kernel
theorem dX11_minute_57 : decode cX11_minute 57 = .ok (.aload_n 0, 1) := by decide +kernel
theorem dX11_minute_58 : decode cX11_minute 58 = .ok (.getfield 7, 3) := by decide +kernel
theorem dX11_minute_61 : decode cX11_minute 61 = .ok (.iload 5, 2) := by decide +kernel
theorem dX11_minute_63 : decode cX11_minute 63 = .ok (.iaload, 1) := by decide +kernel
theorem dX11_minute_64 : decode cX11_minute 64 = .ok (.i2l, 1) := by decide +kernel
theorem dX11_minute_65 : decode cX11_minute 65 = .ok (.lmul, 1) := by decide +kernel
theorem dX11_minute_66 : decode cX11_minute 66 = .ok (.ladd, 1) := by decide +kernel
theorem dX11_minute_67 : decode cX11_minute 67 = .ok (.aload_n 0, 1) := by decide +kernel
theorem dX11_minute_68 : decode cX11_minute 68 = .ok (.iload 5, 2) := by decide +kernel
theorem dX11_minute_70 : decode cX11_minute 70 = .ok (.iload_n 1, 1) := by decide +kernel
theorem dX11_minute_71 : decode cX11_minute 71 = .ok (.invokevirtual 282, 3) := by decide +kernel
theorem dX11_minute_74 : decode cX11_minute 74 = .ok (.ladd, 1) := by decide +kernel
theorem dX11_minute_75 : decode cX11_minute 75 = .ok (.lstore 6, 2) := by decide +kernel
theorem dX11_minute_77 : decode cX11_minute 77 = .ok (.aload_n 0, 1) := by decide +kernel
theorem dX11_minute_78 : decode cX11_minute 78 = .ok (.dup, 1) := by decide +kernel
theorem dX11_minute_79 : decode cX11_minute 79 = .ok (.getfield 260, 3) := by decide +kernel
theorem dX11_minute_82 : decode cX11_minute 82 = .ok (.iload_n 1, 1) := by decide +kernel
theorem dX11_minute_83 : decode cX11_minute 83 = .ok (.i2l, 1) := by decide +kernel
theorem dX11_minute_84 : decode cX11_minute 84 = .ok (.aload_n 0, 1) := by decide +kernel
theorem dX11_minute_85 : decode cX11_minute 85 = .ok (.getfield 7, 3) := by decide +kernel
theorem dX11_minute_88 : decode cX11_minute 88 = .ok (.iload 5, 2) := by decide +kernel
theorem dX11_minute_90 : decode cX11_minute 90 = .ok (.iaload, 1) := by decide +kernel
theorem dX11_minute_91 : decode cX11_minute 91 = .ok (.i2l, 1) := by decide +kernel
theorem dX11_minute_92 : decode cX11_minute 92 = .ok (.lmul, 1) := by decide +kernel
theorem dX11_minute_93 : decode cX11_minute 93 = .ok (.ladd, 1) := by decide +kernel
theorem dX11_minute_94 : decode cX11_minute 94 = .ok (.putfield 260, 3) := by decide +kernel
theorem dX11_minute_97 : decode cX11_minute 97 = .ok (.iload_n 2, 1) := by decide +kernel
theorem dX11_minute_98 : decode cX11_minute 98 = .ok (.iload 5, 2) := by decide +kernel
theorem dX11_minute_100 : decode cX11_minute 100 = .ok (.ishr, 1) := by decide +kernel
theorem dX11_minute_101 : decode cX11_minute 101 = .ok (.iconst 1, 1) := by decide +kernel
theorem dX11_minute_102 : decode cX11_minute 102 = .ok (.iand, 1) := by decide +kernel
theorem dX11_minute_103 : decode cX11_minute 103 = .ok (.iconst 1, 1) := by decide +kernel
theorem dX11_minute_104 : decode cX11_minute 104 = .ok (.if_icmp .ne 7, 3) := by decide +kernel
theorem dX11_minute_107 : decode cX11_minute 107 = .ok (.iconst 1, 1) := by decide +kernel
theorem dX11_minute_108 : decode cX11_minute 108 = .ok (.goto 4, 3) := by decide +kernel
theorem dX11_minute_111 : decode cX11_minute 111 = .ok (.iconst 0, 1) := by decide +kernel
theorem dX11_minute_112 : decode cX11_minute 112 = .ok (.istore 8, 2) := by decide +kernel
theorem dX11_minute_114 : decode cX11_minute 114 = .ok (.aload_n 0, 1) := by decide +kernel
theorem dX11_minute_115 : decode cX11_minute 115 = .ok (.getfield 25, 3) := by decide +kernel
theorem dX11_minute_118 : decode cX11_minute 118 = .ok (.iload 5, 2) := by decide +kernel
theorem dX11_minute_120 : decode cX11_minute 120 = .ok (.baload, 1) := by decide +kernel
theorem dX11_minute_121 : decode cX11_minute 121 = .ok (.ifCond .ne 8, 3) := by decide +kernel
theorem dX11_minute_124 : decode cX11_minute 124 = .ok (.iload 8, 2) := by decide +kernel
theorem dX11_minute_126 : decode cX11_minute 126 = .ok (.ifCond .eq 137, 3) := by decide +kernel
theorem dX11_minute_129 : decode cX11_minute 129 = .ok (.iload 8, 2) := by decide +kernel
theorem dX11_minute_131 : decode cX11_minute 131 = .ok (.ifCond .eq 8, 3) := by decide +kernel
theorem dX11_minute_134 : decode cX11_minute 134 = .ok (.lload 6, 2) := by decide +kernel
theorem dX11_minute_136 : decode cX11_minute 136 = .ok (.goto 21, 3) := by decide +kernel
theorem dX11_minute_139 : decode cX11_minute 139 = .ok (.lload 6, 2) := by decide +kernel
theorem dX11_minute_141 : decode cX11_minute 141 = .ok (.bipush 10, 2) := by decide +kernel
theorem dX11_minute_143 : decode cX11_minute 143 = .ok (.aload_n 0, 1) := by decide +kernel
theorem dX11_minute_144 : decode cX11_minute 144 = .ok (.getfield 47, 3) := by decide +kernel
theorem dX11_minute_147 : decode cX11_minute 147 = .ok (.iload 5, 2) := by decide +kernel
theorem dX11_minute_149 : decode cX11_minute 149 = .ok (.iaload, 1) := by decide +kernel
theorem dX11_minute_150 : decode cX11_minute 150 = .ok (.isub, 1) := by decide +kernel
theorem dX11_minute_151 : decode cX11_minute 151 = .ok (.i2l, 1) := by decide +kernel
theorem dX11_minute_152 : decode cX11_minute 152 = .ok (.lmul, 1) := by decide +kernel
theorem dX11_minute_153 : decode cX11_minute 153 = .ok (.ldc2_w 286, 3) := by decide +kernel
theorem dX11_minute_156 : decode cX11_minute 156 = .ok (.ldiv, 1) := by decide +kernel
theorem dX11_minute_157 : decode cX11_minute 157 = .ok (.lstore 9, 2) := by decide +kernel
theorem dX11_minute_159 : decode cX11_minute 159 = .ok (.lload 9, 2) := by decide +kernel
theorem dX11_minute_161 : decode cX11_minute 161 = .ok (.iload 8, 2) := by decide +kernel
theorem dX11_minute_163 : decode cX11_minute 163 = .ok (.ifCond .eq 8, 3) := by decide +kernel
theorem dX11_minute_166 : decode cX11_minute 166 = .ok (.bipush 100, 2) := by decide +kernel
theorem dX11_minute_168 : decode cX11_minute 168 = .ok (.goto 10, 3) := by decide +kernel
theorem dX11_minute_171 : decode cX11_minute 171 = .ok (.aload_n 0, 1) := by decide +kernel
theorem dX11_minute_172 : decode cX11_minute 172 = .ok (.getfield 38, 3) := by decide +kernel
theorem dX11_minute_175 : decode cX11_minute 175 = .ok (.iload 5, 2) := by decide +kernel
theorem dX11_minute_177 : decode cX11_minute 177 = .ok (.iaload, 1) := by decide +kernel
theorem dX11_minute_178 : decode cX11_minute 178 = .ok (.aload_n 0, 1) := by decide +kernel
theorem dX11_minute_179 : decode cX11_minute 179 = .ok (.getfield 98, 3) := by decide +kernel
theorem dX11_minute_182 : decode cX11_minute 182 = .ok (.iload 5, 2) := by decide +kernel
theorem dX11_minute_184 : decode cX11_minute 184 = .ok (.iaload, 1) := by decide +kernel
theorem dX11_minute_185 : decode cX11_minute 185 = .ok (.isub, 1) := by decide +kernel
theorem dX11_minute_186 : decode cX11_minute 186 = .ok (.i2l, 1) := by decide +kernel
theorem dX11_minute_187 : decode cX11_minute 187 = .ok (.invokestatic 288, 3) := by decide +kernel
theorem dX11_minute_190 : decode cX11_minute 190 = .ok (.l2i, 1) := by decide +kernel
theorem dX11_minute_191 : decode cX11_minute 191 = .ok (.istore 11, 2) := by decide +kernel
theorem dX11_minute_193 : decode cX11_minute 193 = .ok (.aload_n 0, 1) := by decide +kernel
theorem dX11_minute_194 : decode cX11_minute 194 = .ok (.getfield 98, 3) := by decide +kernel
theorem dX11_minute_197 : decode cX11_minute 197 = .ok (.iload 5, 2) := by decide +kernel
theorem dX11_minute_199 : decode cX11_minute 199 = .ok (.iaload, 1) := by decide +kernel
theorem dX11_minute_200 : decode cX11_minute 200 = .ok (.iload 11, 2) := by decide +kernel
theorem dX11_minute_202 : decode cX11_minute 202 = .ok (.iadd, 1) := by decide +kernel
theorem dX11_minute_203 : decode cX11_minute 203 = .ok (.iload 8, 2) := by decide +kernel
theorem dX11_minute_205 : decode cX11_minute 205 = .ok (.ifCond .eq 12, 3) := by decide +kernel
theorem dX11_minute_208 : decode cX11_minute 208 = .ok (.aload_n 0, 1) := by decide +kernel
theorem dX11_minute_209 : decode cX11_minute 209 = .ok (.getfield 83, 3) := by decide +kernel
theorem dX11_minute_212 : decode cX11_minute 212 = .ok (.iconst 0, 1) := by decide +kernel
theorem dX11_minute_213 : decode cX11_minute 213 = .ok (.iaload, 1) := by decide +kernel
theorem dX11_minute_214 : decode cX11_minute 214 = .ok (.goto 9, 3) := by decide +kernel
theorem dX11_minute_217 : decode cX11_minute 217 = .ok (.aload_n 0, 1) := by decide +kernel
theorem dX11_minute_218 : decode cX11_minute 218 = .ok (.iload 5, 2) := by decide +kernel
theorem dX11_minute_220 : decode cX11_minute 220 = .ok (.invokevirtual 230, 3) := by decide +kernel
theorem dX11_minute_223 : decode cX11_minute 223 = .ok (.invokestatic 227, 3) := by decide +kernel
theorem dX11_minute_226 : decode cX11_minute 226 = .ok (.istore 12, 2) := by decide +kernel
theorem dX11_minute_228 : decode cX11_minute 228 = .ok (.aload_n 0, 1) := by decide +kernel
theorem dX11_minute_229 : decode cX11_minute 229 = .ok (.getfield 98, 3) := by decide +kernel
theorem dX11_minute_232 : decode cX11_minute 232 = .ok (.iload 5, 2) := by decide +kernel
theorem dX11_minute_234 : decode cX11_minute 234 = .ok (.dup2, 1) := by decide +kernel
theorem dX11_minute_235 : decode cX11_minute 235 = .ok (.iaload, 1) := by decide +kernel
theorem dX11_minute_236 : decode cX11_minute 236 = .ok (.iload 11, 2) := by decide +kernel
theorem dX11_minute_238 : decode cX11_minute 238 = .ok (.iload 12, 2) := by decide +kernel
theorem dX11_minute_240 : decode cX11_minute 240 = .ok (.isub, 1) := by decide +kernel
theorem dX11_minute_241 : decode cX11_minute 241 = .ok (.iadd, 1) := by decide +kernel
theorem dX11_minute_242 : decode cX11_minute 242 = .ok (.iastore, 1) := by decide +kernel
theorem dX11_minute_243 : decode cX11_minute 243 = .ok (.aload_n 0, 1) := by decide +kernel
theorem dX11_minute_244 : decode cX11_minute 244 = .ok (.dup, 1) := by decide +kernel
theorem dX11_minute_245 : decode cX11_minute 245 = .ok (.getfield 263, 3) := by decide +kernel
theorem dX11_minute_248 : decode cX11_minute 248 = .ok (.iload 12, 2) := by decide +kernel
theorem dX11_minute_250 : decode cX11_minute 250 = .ok (.i2l, 1) := by decide +kernel
theorem dX11_minute_251 : decode cX11_minute 251 = .ok (.ladd, 1) := by decide +kernel
theorem dX11_minute_252 : decode cX11_minute 252 = .ok (.putfield 263, 3) := by decide +kernel
theorem dX11_minute_255 : decode cX11_minute 255 = .ok (.lload 6, 2) := by decide +kernel
theorem dX11_minute_257 : decode cX11_minute 257 = .ok (.iload 11, 2) := by decide +kernel
theorem dX11_minute_259 : decode cX11_minute 259 = .ok (.i2l, 1) := by decide +kernel
theorem dX11_minute_260 : decode cX11_minute 260 = .ok (.lsub, 1) := by decide +kernel
theorem dX11_minute_261 : decode cX11_minute 261 = .ok (.lstore 6, 2) := by decide +kernel
theorem dX11_minute_263 : decode cX11_minute 263 = .ok (.lload 6, 2) := by decide +kernel
theorem dX11_minute_265 : decode cX11_minute 265 = .ok (.aload_n 0, 1) := by decide +kernel
theorem dX11_minute_266 : decode cX11_minute 266 = .ok (.getfield 105, 3) := by decide +kernel
theorem dX11_minute_269 : decode cX11_minute 269 = .ok (.iload 5, 2) := by decide +kernel
theorem dX11_minute_271 : decode cX11_minute 271 = .ok (.laload, 1) := by decide +kernel
theorem dX11_minute_272 : decode cX11_minute 272 = .ok (.ladd, 1) := by decide +kernel
theorem dX11_minute_273 : decode cX11_minute 273 = .ok (.lstore 6, 2) := by decide +kernel
theorem dX11_minute_275 : decode cX11_minute 275 = .ok (.lload 6, 2) := by decide +kernel
theorem dX11_minute_277 : decode cX11_minute 277 = .ok (.aload_n 0, 1) := by decide +kernel
theorem dX11_minute_278 : decode cX11_minute 278 = .ok (.getfield 13, 3) := by decide +kernel
theorem dX11_minute_281 : decode cX11_minute 281 = .ok (.iload 5, 2) := by decide +kernel
theorem dX11_minute_283 : decode cX11_minute 283 = .ok (.iaload, 1) := by decide +kernel
theorem dX11_minute_284 : decode cX11_minute 284 = .ok (.i2l, 1) := by decide +kernel
theorem dX11_minute_285 : decode cX11_minute 285 = .ok (.invokestatic 288, 3) := by decide +kernel
theorem dX11_minute_288 : decode cX11_minute 288 = .ok (.lstore 9, 2) := by decide +kernel
theorem dX11_minute_290 : decode cX11_minute 290 = .ok (.lload 6, 2) := by decide +kernel
theorem dX11_minute_292 : decode cX11_minute 292 = .ok (.lload 9, 2) := by decide +kernel
theorem dX11_minute_294 : decode cX11_minute 294 = .ok (.lsub, 1) := by decide +kernel
theorem dX11_minute_295 : decode cX11_minute 295 = .ok (.lstore 11, 2) := by decide +kernel
theorem dX11_minute_297 : decode cX11_minute 297 = .ok (.aload_n 0, 1) := by decide +kernel
theorem dX11_minute_298 : decode cX11_minute 298 = .ok (.getfield 22, 3) := by decide +kernel
theorem dX11_minute_301 : decode cX11_minute 301 = .ok (.iload 5, 2) := by decide +kernel
theorem dX11_minute_303 : decode cX11_minute 303 = .ok (.iaload, 1) := by decide +kernel
theorem dX11_minute_304 : decode cX11_minute 304 = .ok (.iconst (-1), 1) := by decide +kernel
theorem dX11_minute_305 : decode cX11_minute 305 = .ok (.if_icmp .ne 7, 3) := by decide +kernel
theorem dX11_minute_308 : decode cX11_minute 308 = .ok (.lconst 0, 1) := by decide +kernel
theorem dX11_minute_309 : decode cX11_minute 309 = .ok (.goto 9, 3) := by decide +kernel
theorem dX11_minute_312 : decode cX11_minute 312 = .ok (.lload 11, 2) := by decide +kernel
theorem dX11_minute_314 : decode cX11_minute 314 = .ok (.ldc2_w 291, 3) := by decide +kernel
theorem dX11_minute_317 : decode cX11_minute 317 = .ok (.ldiv, 1) := by decide +kernel
theorem dX11_minute_318 : decode cX11_minute 318 = .ok (.lstore 13, 2) := by decide +kernel
theorem dX11_minute_320 : decode cX11_minute 320 = .ok (.aload_n 0, 1) := by decide +kernel
theorem dX11_minute_321 : decode cX11_minute 321 = .ok (.getfield 111, 3) := by decide +kernel
theorem dX11_minute_324 : decode cX11_minute 324 = .ok (.iload 5, 2) := by decide +kernel
theorem dX11_minute_326 : decode cX11_minute 326 = .ok (.aload_n 0, 1) := by decide +kernel
theorem dX11_minute_327 : decode cX11_minute 327 = .ok (.getfield 111, 3) := by decide +kernel
theorem dX11_minute_330 : decode cX11_minute 330 = .ok (.iload 5, 2) := by decide +kernel
theorem dX11_minute_332 : decode cX11_minute 332 = .ok (.laload, 1) := by decide +kernel
theorem dX11_minute_333 : decode cX11_minute 333 = .ok (.lload 9, 2) := by decide +kernel
theorem dX11_minute_335 : decode cX11_minute 335 = .ok (.invokestatic 293, 3) := by decide +kernel
theorem dX11_minute_338 : decode cX11_minute 338 = .ok (.lastore, 1) := by decide +kernel
theorem dX11_minute_339 : decode cX11_minute 339 = .ok (.aload_n 0, 1) := by decide +kernel
theorem dX11_minute_340 : decode cX11_minute 340 = .ok (.getfield 108, 3) := by decide +kernel
theorem dX11_minute_343 : decode cX11_minute 343 = .ok (.iload 5, 2) := by decide +kernel
theorem dX11_minute_345 : decode cX11_minute 345 = .ok (.dup2, 1) := by decide +kernel
theorem dX11_minute_346 : decode cX11_minute 346 = .ok (.laload, 1) := by decide +kernel
theorem dX11_minute_347 : decode cX11_minute 347 = .ok (.lload 11, 2) := by decide +kernel
theorem dX11_minute_349 : decode cX11_minute 349 = .ok (.lload 13, 2) := by decide +kernel
theorem dX11_minute_351 : decode cX11_minute 351 = .ok (.lsub, 1) := by decide +kernel
theorem dX11_minute_352 : decode cX11_minute 352 = .ok (.ladd, 1) := by decide +kernel
theorem dX11_minute_353 : decode cX11_minute 353 = .ok (.lastore, 1) := by decide +kernel
theorem dX11_minute_354 : decode cX11_minute 354 = .ok (.aload_n 0, 1) := by decide +kernel
theorem dX11_minute_355 : decode cX11_minute 355 = .ok (.dup, 1) := by decide +kernel
theorem dX11_minute_356 : decode cX11_minute 356 = .ok (.getfield 266, 3) := by decide +kernel
theorem dX11_minute_359 : decode cX11_minute 359 = .ok (.lload 11, 2) := by decide +kernel
theorem dX11_minute_361 : decode cX11_minute 361 = .ok (.lload 13, 2) := by decide +kernel
theorem dX11_minute_363 : decode cX11_minute 363 = .ok (.lsub, 1) := by decide +kernel
theorem dX11_minute_364 : decode cX11_minute 364 = .ok (.ladd, 1) := by decide +kernel
theorem dX11_minute_365 : decode cX11_minute 365 = .ok (.putfield 266, 3) := by decide +kernel
theorem dX11_minute_368 : decode cX11_minute 368 = .ok (.aload_n 0, 1) := by decide +kernel
theorem dX11_minute_369 : decode cX11_minute 369 = .ok (.getfield 19, 3) := by decide +kernel
theorem dX11_minute_372 : decode cX11_minute 372 = .ok (.iload 5, 2) := by decide +kernel
theorem dX11_minute_374 : decode cX11_minute 374 = .ok (.iaload, 1) := by decide +kernel
theorem dX11_minute_375 : decode cX11_minute 375 = .ok (.ifCond .le 38, 3) := by decide +kernel
theorem dX11_minute_378 : decode cX11_minute 378 = .ok (.lload 11, 2) := by decide +kernel
theorem dX11_minute_380 : decode cX11_minute 380 = .ok (.aload_n 0, 1) := by decide +kernel
theorem dX11_minute_381 : decode cX11_minute 381 = .ok (.getfield 19, 3) := by decide +kernel
theorem dX11_minute_384 : decode cX11_minute 384 = .ok (.iload 5, 2) := by decide +kernel
theorem dX11_minute_386 : decode cX11_minute 386 = .ok (.iaload, 1) := by decide +kernel
theorem dX11_minute_387 : decode cX11_minute 387 = .ok (.i2l, 1) := by decide +kernel
theorem dX11_minute_388 : decode cX11_minute 388 = .ok (.lcmp, 1) := by decide +kernel
theorem dX11_minute_389 : decode cX11_minute 389 = .ok (.ifCond .le 24, 3) := by decide +kernel
theorem dX11_minute_392 : decode cX11_minute 392 = .ok (.aload_n 0, 1) := by decide +kernel
theorem dX11_minute_393 : decode cX11_minute 393 = .ok (.getfield 114, 3) := by decide +kernel
theorem dX11_minute_396 : decode cX11_minute 396 = .ok (.iload 5, 2) := by decide +kernel
theorem dX11_minute_398 : decode cX11_minute 398 = .ok (.dup2, 1) := by decide +kernel
theorem dX11_minute_399 : decode cX11_minute 399 = .ok (.iaload, 1) := by decide +kernel
theorem dX11_minute_400 : decode cX11_minute 400 = .ok (.iconst 1, 1) := by decide +kernel
theorem dX11_minute_401 : decode cX11_minute 401 = .ok (.iadd, 1) := by decide +kernel
theorem dX11_minute_402 : decode cX11_minute 402 = .ok (.iastore, 1) := by decide +kernel
theorem dX11_minute_403 : decode cX11_minute 403 = .ok (.aload_n 0, 1) := by decide +kernel
theorem dX11_minute_404 : decode cX11_minute 404 = .ok (.dup, 1) := by decide +kernel
theorem dX11_minute_405 : decode cX11_minute 405 = .ok (.getfield 275, 3) := by decide +kernel
theorem dX11_minute_408 : decode cX11_minute 408 = .ok (.iconst 1, 1) := by decide +kernel
theorem dX11_minute_409 : decode cX11_minute 409 = .ok (.iadd, 1) := by decide +kernel
theorem dX11_minute_410 : decode cX11_minute 410 = .ok (.putfield 275, 3) := by decide +kernel
theorem dX11_minute_413 : decode cX11_minute 413 = .ok (.aload_n 0, 1) := by decide +kernel
theorem dX11_minute_414 : decode cX11_minute 414 = .ok (.getfield 22, 3) := by decide +kernel
theorem dX11_minute_417 : decode cX11_minute 417 = .ok (.iload 5, 2) := by decide +kernel
theorem dX11_minute_419 : decode cX11_minute 419 = .ok (.iaload, 1) := by decide +kernel
theorem dX11_minute_420 : decode cX11_minute 420 = .ok (.iconst (-1), 1) := by decide +kernel
theorem dX11_minute_421 : decode cX11_minute 421 = .ok (.if_icmp .ne 11, 3) := by decide +kernel
theorem dX11_minute_424 : decode cX11_minute 424 = .ok (.lload_n 3, 1) := by decide +kernel
theorem dX11_minute_425 : decode cX11_minute 425 = .ok (.lload 9, 2) := by decide +kernel
theorem dX11_minute_427 : decode cX11_minute 427 = .ok (.ladd, 1) := by decide +kernel
theorem dX11_minute_428 : decode cX11_minute 428 = .ok (.lstore_n 3, 1) := by decide +kernel
theorem dX11_minute_429 : decode cX11_minute 429 = .ok (.goto 37, 3) := by decide +kernel
theorem dX11_minute_432 : decode cX11_minute 432 = .ok (.aload_n 0, 1) := by decide +kernel
theorem dX11_minute_433 : decode cX11_minute 433 = .ok (.getfield 105, 3) := by decide +kernel
theorem dX11_minute_436 : decode cX11_minute 436 = .ok (.aload_n 0, 1) := by decide +kernel
theorem dX11_minute_437 : decode cX11_minute 437 = .ok (.getfield 22, 3) := by decide +kernel
theorem dX11_minute_440 : decode cX11_minute 440 = .ok (.iload 5, 2) := by decide +kernel
theorem dX11_minute_442 : decode cX11_minute 442 = .ok (.iaload, 1) := by decide +kernel
theorem dX11_minute_443 : decode cX11_minute 443 = .ok (.dup2, 1) := by decide +kernel
theorem dX11_minute_444 : decode cX11_minute 444 = .ok (.laload, 1) := by decide +kernel
theorem dX11_minute_445 : decode cX11_minute 445 = .ok (.lload 9, 2) := by decide +kernel
theorem dX11_minute_447 : decode cX11_minute 447 = .ok (.ladd, 1) := by decide +kernel
theorem dX11_minute_448 : decode cX11_minute 448 = .ok (.lastore, 1) := by decide +kernel
theorem dX11_minute_449 : decode cX11_minute 449 = .ok (.aload_n 0, 1) := by decide +kernel
theorem dX11_minute_450 : decode cX11_minute 450 = .ok (.getfield 101, 3) := by decide +kernel
theorem dX11_minute_453 : decode cX11_minute 453 = .ok (.aload_n 0, 1) := by decide +kernel
theorem dX11_minute_454 : decode cX11_minute 454 = .ok (.getfield 22, 3) := by decide +kernel
theorem dX11_minute_457 : decode cX11_minute 457 = .ok (.iload 5, 2) := by decide +kernel
theorem dX11_minute_459 : decode cX11_minute 459 = .ok (.iaload, 1) := by decide +kernel
theorem dX11_minute_460 : decode cX11_minute 460 = .ok (.dup2, 1) := by decide +kernel
theorem dX11_minute_461 : decode cX11_minute 461 = .ok (.laload, 1) := by decide +kernel
theorem dX11_minute_462 : decode cX11_minute 462 = .ok (.lload 13, 2) := by decide +kernel
theorem dX11_minute_464 : decode cX11_minute 464 = .ok (.ladd, 1) := by decide +kernel
theorem dX11_minute_465 : decode cX11_minute 465 = .ok (.lastore, 1) := by decide +kernel
theorem dX11_minute_466 : decode cX11_minute 466 = .ok (.iinc 5 1, 3) := by decide +kernel
theorem dX11_minute_469 : decode cX11_minute 469 = .ok (.goto (-430), 3) := by decide +kernel
theorem dX11_minute_472 : decode cX11_minute 472 = .ok (.aload_n 0, 1) := by decide +kernel
theorem dX11_minute_473 : decode cX11_minute 473 = .ok (.dup, 1) := by decide +kernel
theorem dX11_minute_474 : decode cX11_minute 474 = .ok (.getfield 269, 3) := by decide +kernel
theorem dX11_minute_477 : decode cX11_minute 477 = .ok (.lload_n 3, 1) := by decide +kernel
theorem dX11_minute_478 : decode cX11_minute 478 = .ok (.ladd, 1) := by decide +kernel
theorem dX11_minute_479 : decode cX11_minute 479 = .ok (.putfield 269, 3) := by decide +kernel
theorem dX11_minute_482 : decode cX11_minute 482 = .ok (.aload_n 0, 1) := by decide +kernel
theorem dX11_minute_483 : decode cX11_minute 483 = .ok (.aload_n 0, 1) := by decide +kernel
theorem dX11_minute_484 : decode cX11_minute 484 = .ok (.getfield 272, 3) := by decide +kernel
theorem dX11_minute_487 : decode cX11_minute 487 = .ok (.lload_n 3, 1) := by decide +kernel
theorem dX11_minute_488 : decode cX11_minute 488 = .ok (.invokestatic 293, 3) := by decide +kernel
theorem dX11_minute_491 : decode cX11_minute 491 = .ok (.putfield 272, 3) := by decide +kernel
theorem dX11_minute_494 : decode cX11_minute 494 = .ok (.return_, 1) := by decide +kernel
theorem dX11_roofsGive_0 : decode cX11_roofsGive 0 = .ok (.lconst 0, 1) := by decide +kernel
theorem dX11_roofsGive_1 : decode cX11_roofsGive 1 = .ok (.lstore_n 3, 1) := by decide +kernel
theorem dX11_roofsGive_2 : decode cX11_roofsGive 2 = .ok (.iconst 0, 1) := by decide +kernel
theorem dX11_roofsGive_3 : decode cX11_roofsGive 3 = .ok (.istore 5, 2) := by decide +kernel
theorem dX11_roofsGive_5 : decode cX11_roofsGive 5 = .ok (.iload 5, 2) := by decide +kernel
theorem dX11_roofsGive_7 : decode cX11_roofsGive 7 = .ok (.aload_n 0, 1) := by decide +kernel
theorem dX11_roofsGive_8 : decode cX11_roofsGive 8 = .ok (.getfield 202, 3) := by decide +kernel
theorem dX11_roofsGive_11 : decode cX11_roofsGive 11 = .ok (.if_icmp .ge 89, 3) := by decide +kernel
theorem dX11_roofsGive_14 : decode cX11_roofsGive 14 = .ok (.aload_n 0, 1) := by decide +kernel
theorem dX11_roofsGive_15 : decode cX11_roofsGive 15 = .ok (.getfield 65, 3) := by decide +kernel
theorem dX11_roofsGive_18 : decode cX11_roofsGive 18 = .ok (.iload 5, 2) := by decide +kernel
theorem dX11_roofsGive_20 : decode cX11_roofsGive 20 = .ok (.iaload, 1) := by decide +kernel
theorem dX11_roofsGive_21 : decode cX11_roofsGive 21 = .ok (.iload_n 1, 1) := by decide +kernel
theorem dX11_roofsGive_22 : decode cX11_roofsGive 22 = .ok (.if_icmp .eq 6, 3) := by decide +kernel
theorem dX11_roofsGive_25 : decode cX11_roofsGive 25 = .ok (.goto 69, 3) := by decide +kernel
theorem dX11_roofsGive_28 : decode cX11_roofsGive 28 = .ok (.iload_n 2, 1) := by decide +kernel
theorem dX11_roofsGive_29 : decode cX11_roofsGive 29 = .ok (.aload_n 0, 1) := by decide +kernel
theorem dX11_roofsGive_30 : decode cX11_roofsGive 30 = .ok (.getfield 71, 3) := by decide +kernel
theorem dX11_roofsGive_33 : decode cX11_roofsGive 33 = .ok (.iload 5, 2) := by decide +kernel
theorem dX11_roofsGive_35 : decode cX11_roofsGive 35 = .ok (.iaload, 1) := by decide +kernel
theorem dX11_roofsGive_36 : decode cX11_roofsGive 36 = .ok (.imul, 1) := by decide +kernel
theorem dX11_roofsGive_37 : decode cX11_roofsGive 37 = .ok (.istore 6, 2) := by decide +kernel
theorem dX11_roofsGive_39 : decode cX11_roofsGive 39 = .ok (.iload 6, 2) := by decide +kernel
theorem dX11_roofsGive_41 : decode cX11_roofsGive 41 = .ok (.aload_n 0, 1) := by decide +kernel
theorem dX11_roofsGive_42 : decode cX11_roofsGive 42 = .ok (.getfield 74, 3) := by decide +kernel
theorem dX11_roofsGive_45 : decode cX11_roofsGive 45 = .ok (.iload 5, 2) := by decide +kernel
theorem dX11_roofsGive_47 : decode cX11_roofsGive 47 = .ok (.iaload, 1) := by decide +kernel
theorem dX11_roofsGive_48 : decode cX11_roofsGive 48 = .ok (.aload_n 0, 1) := by decide +kernel
theorem dX11_roofsGive_49 : decode cX11_roofsGive 49 = .ok (.getfield 95, 3) := by decide +kernel
theorem dX11_roofsGive_52 : decode cX11_roofsGive 52 = .ok (.iload 5, 2) := by decide +kernel
theorem dX11_roofsGive_54 : decode cX11_roofsGive 54 = .ok (.iaload, 1) := by decide +kernel
theorem dX11_roofsGive_55 : decode cX11_roofsGive 55 = .ok (.isub, 1) := by decide +kernel
theorem dX11_roofsGive_56 : decode cX11_roofsGive 56 = .ok (.invokestatic 227, 3) := by decide +kernel
theorem dX11_roofsGive_59 : decode cX11_roofsGive 59 = .ok (.istore 7, 2) := by decide +kernel
theorem dX11_roofsGive_61 : decode cX11_roofsGive 61 = .ok (.aload_n 0, 1) := by decide +kernel
theorem dX11_roofsGive_62 : decode cX11_roofsGive 62 = .ok (.getfield 95, 3) := by decide +kernel
theorem dX11_roofsGive_65 : decode cX11_roofsGive 65 = .ok (.iload 5, 2) := by decide +kernel
theorem dX11_roofsGive_67 : decode cX11_roofsGive 67 = .ok (.dup2, 1) := by decide +kernel
theorem dX11_roofsGive_68 : decode cX11_roofsGive 68 = .ok (.iaload, 1) := by decide +kernel
theorem dX11_roofsGive_69 : decode cX11_roofsGive 69 = .ok (.iload 7, 2) := by decide +kernel
theorem dX11_roofsGive_71 : decode cX11_roofsGive 71 = .ok (.iadd, 1) := by decide +kernel
theorem dX11_roofsGive_72 : decode cX11_roofsGive 72 = .ok (.iastore, 1) := by decide +kernel
theorem dX11_roofsGive_73 : decode cX11_roofsGive 73 = .ok (.aload_n 0, 1) := by decide +kernel
theorem dX11_roofsGive_74 : decode cX11_roofsGive 74 = .ok (.dup, 1) := by decide +kernel
theorem dX11_roofsGive_75 : decode cX11_roofsGive 75 = .ok (.getfield 260, 3) := by decide +kernel
theorem dX11_roofsGive_78 : decode cX11_roofsGive 78 = .ok (.iload 6, 2) := by decide +kernel
theorem dX11_roofsGive_80 : decode cX11_roofsGive 80 = .ok (.i2l, 1) := by decide +kernel
theorem dX11_roofsGive_81 : decode cX11_roofsGive 81 = .ok (.ladd, 1) := by decide +kernel
theorem dX11_roofsGive_82 : decode cX11_roofsGive 82 = .ok (.putfield 260, 3) := by decide +kernel
theorem dX11_roofsGive_85 : decode cX11_roofsGive 85 = .ok (.lload_n 3, 1) := by decide +kernel
theorem dX11_roofsGive_86 : decode cX11_roofsGive 86 = .ok (.iload 6, 2) := by decide +kernel
theorem dX11_roofsGive_88 : decode cX11_roofsGive 88 = .ok (.iload 7, 2) := by decide +kernel
theorem dX11_roofsGive_90 : decode cX11_roofsGive 90 = .ok (.isub, 1) := by decide +kernel
theorem dX11_roofsGive_91 : decode cX11_roofsGive 91 = .ok (.i2l, 1) := by decide +kernel
theorem dX11_roofsGive_92 : decode cX11_roofsGive 92 = .ok (.ladd, 1) := by decide +kernel
theorem dX11_roofsGive_93 : decode cX11_roofsGive 93 = .ok (.lstore_n 3, 1) := by decide +kernel
theorem dX11_roofsGive_94 : decode cX11_roofsGive 94 = .ok (.iinc 5 1, 3) := by decide +kernel
theorem dX11_roofsGive_97 : decode cX11_roofsGive 97 = .ok (.goto (-92), 3) := by decide +kernel
theorem dX11_roofsGive_100 : decode cX11_roofsGive 100 = .ok (.lload_n 3, 1) := by decide +kernel
theorem dX11_roofsGive_101 : decode cX11_roofsGive 101 = .ok (.lreturn, 1) := by decide +kernel
theorem dX11_storm_0 : decode cX11_storm 0 = .ok (.aload_n 0, 1) := by decide +kernel
theorem dX11_storm_1 : decode cX11_storm 1 = .ok (.getfield 295, 3) := by decide +kernel
theorem dX11_storm_4 : decode cX11_storm 4 = .ok (.bipush 40, 2) := by decide +kernel
theorem dX11_storm_6 : decode cX11_storm 6 = .ok (.if_icmp .ne 5, 3) := by decide +kernel
theorem dX11_storm_9 : decode cX11_storm 9 = .ok (.iconst (-1), 1) := by decide +kernel
theorem dX11_storm_10 : decode cX11_storm 10 = .ok (.ireturn, 1) := by decide +kernel
theorem dX11_storm_11 : decode cX11_storm 11 = .ok (.aload_n 0, 1) := by decide +kernel
theorem dX11_storm_12 : decode cX11_storm 12 = .ok (.iconst 0, 1) := by decide +kernel
theorem dX11_storm_13 : decode cX11_storm 13 = .ok (.invokevirtual 298, 3) := by decide +kernel
theorem dX11_storm_16 : decode cX11_storm 16 = .ok (.iconst 0, 1) := by decide +kernel
theorem dX11_storm_17 : decode cX11_storm 17 = .ok (.istore_n 1, 1) := by decide +kernel
theorem dX11_storm_18 : decode cX11_storm 18 = .ok (.iload_n 1, 1) := by decide +kernel
theorem dX11_storm_19 : decode cX11_storm 19 = .ok (.aload_n 0, 1) := by decide +kernel
theorem dX11_storm_20 : decode cX11_storm 20 = .ok (.getfield 202, 3) := by decide +kernel
theorem dX11_storm_23 : decode cX11_storm 23 = .ok (.if_icmp .ge 21, 3) := by decide +kernel
theorem dX11_storm_26 : decode cX11_storm 26 = .ok (.aload_n 0, 1) := by decide +kernel
theorem dX11_storm_27 : decode cX11_storm 27 = .ok (.getfield 77, 3) := by decide +kernel
theorem dX11_storm_30 : decode cX11_storm 30 = .ok (.iload_n 1, 1) := by decide +kernel
theorem dX11_storm_31 : decode cX11_storm 31 = .ok (.aload_n 0, 1) := by decide +kernel
theorem dX11_storm_32 : decode cX11_storm 32 = .ok (.getfield 95, 3) := by decide +kernel
theorem dX11_storm_35 : decode cX11_storm 35 = .ok (.iload_n 1, 1) := by decide +kernel
theorem dX11_storm_36 : decode cX11_storm 36 = .ok (.iaload, 1) := by decide +kernel
theorem dX11_storm_37 : decode cX11_storm 37 = .ok (.iastore, 1) := by decide +kernel
theorem dX11_storm_38 : decode cX11_storm 38 = .ok (.iinc 1 1, 3) := by decide +kernel
theorem dX11_storm_41 : decode cX11_storm 41 = .ok (.goto (-23), 3) := by decide +kernel
theorem dX11_storm_44 : decode cX11_storm 44 = .ok (.iconst 0, 1) := by decide +kernel
theorem dX11_storm_45 : decode cX11_storm 45 = .ok (.istore_n 1, 1) := by decide +kernel
theorem dX11_storm_46 : decode cX11_storm 46 = .ok (.iload_n 1, 1) := by decide +kernel
theorem dX11_storm_47 : decode cX11_storm 47 = .ok (.aload_n 0, 1) := by decide +kernel
theorem dX11_storm_48 : decode cX11_storm 48 = .ok (.getfield 191, 3) := by decide +kernel
theorem dX11_storm_51 : decode cX11_storm 51 = .ok (.if_icmp .ge 57, 3) := by decide +kernel
theorem dX11_storm_54 : decode cX11_storm 54 = .ok (.aload_n 0, 1) := by decide +kernel
theorem dX11_storm_55 : decode cX11_storm 55 = .ok (.getfield 53, 3) := by decide +kernel
theorem dX11_storm_58 : decode cX11_storm 58 = .ok (.iload_n 1, 1) := by decide +kernel
theorem dX11_storm_59 : decode cX11_storm 59 = .ok (.aload_n 0, 1) := by decide +kernel
theorem dX11_storm_60 : decode cX11_storm 60 = .ok (.getfield 98, 3) := by decide +kernel
theorem dX11_storm_63 : decode cX11_storm 63 = .ok (.iload_n 1, 1) := by decide +kernel
theorem dX11_storm_64 : decode cX11_storm 64 = .ok (.iaload, 1) := by decide +kernel
theorem dX11_storm_65 : decode cX11_storm 65 = .ok (.iastore, 1) := by decide +kernel
theorem dX11_storm_66 : decode cX11_storm 66 = .ok (.aload_n 0, 1) := by decide +kernel
theorem dX11_storm_67 : decode cX11_storm 67 = .ok (.getfield 126, 3) := by decide +kernel
theorem dX11_storm_70 : decode cX11_storm 70 = .ok (.iload_n 1, 1) := by decide +kernel
theorem dX11_storm_71 : decode cX11_storm 71 = .ok (.aload_n 0, 1) := by decide +kernel
theorem dX11_storm_72 : decode cX11_storm 72 = .ok (.getfield 108, 3) := by decide +kernel
theorem dX11_storm_75 : decode cX11_storm 75 = .ok (.iload_n 1, 1) := by decide +kernel
theorem dX11_storm_76 : decode cX11_storm 76 = .ok (.laload, 1) := by decide +kernel
theorem dX11_storm_77 : decode cX11_storm 77 = .ok (.lastore, 1) := by decide +kernel
theorem dX11_storm_78 : decode cX11_storm 78 = .ok (.aload_n 0, 1) := by decide +kernel
theorem dX11_storm_79 : decode cX11_storm 79 = .ok (.getfield 129, 3) := by decide +kernel
theorem dX11_storm_82 : decode cX11_storm 82 = .ok (.iload_n 1, 1) := by decide +kernel
theorem dX11_storm_83 : decode cX11_storm 83 = .ok (.aload_n 0, 1) := by decide +kernel
theorem dX11_storm_84 : decode cX11_storm 84 = .ok (.getfield 111, 3) := by decide +kernel
theorem dX11_storm_87 : decode cX11_storm 87 = .ok (.iload_n 1, 1) := by decide +kernel
theorem dX11_storm_88 : decode cX11_storm 88 = .ok (.laload, 1) := by decide +kernel
theorem dX11_storm_89 : decode cX11_storm 89 = .ok (.lastore, 1) := by decide +kernel
theorem dX11_storm_90 : decode cX11_storm 90 = .ok (.aload_n 0, 1) := by decide +kernel
theorem dX11_storm_91 : decode cX11_storm 91 = .ok (.getfield 138, 3) := by decide +kernel
theorem dX11_storm_94 : decode cX11_storm 94 = .ok (.iload_n 1, 1) := by decide +kernel
theorem dX11_storm_95 : decode cX11_storm 95 = .ok (.aload_n 0, 1) := by decide +kernel
theorem dX11_storm_96 : decode cX11_storm 96 = .ok (.getfield 114, 3) := by decide +kernel
theorem dX11_storm_99 : decode cX11_storm 99 = .ok (.iload_n 1, 1) := by decide +kernel
theorem dX11_storm_100 : decode cX11_storm 100 = .ok (.iaload, 1) := by decide +kernel
theorem dX11_storm_101 : decode cX11_storm 101 = .ok (.iastore, 1) := by decide +kernel
theorem dX11_storm_102 : decode cX11_storm 102 = .ok (.iinc 1 1, 3) := by decide +kernel
theorem dX11_storm_105 : decode cX11_storm 105 = .ok (.goto (-59), 3) := by decide +kernel
theorem dX11_storm_108 : decode cX11_storm 108 = .ok (.aload_n 0, 1) := by decide +kernel
theorem dX11_storm_109 : decode cX11_storm 109 = .ok (.dup, 1) := by decide +kernel
theorem dX11_storm_110 : decode cX11_storm 110 = .ok (.getfield 301, 3) := by decide +kernel
theorem dX11_storm_113 : decode cX11_storm 113 = .ok (.aload_n 0, 1) := by decide +kernel
theorem dX11_storm_114 : decode cX11_storm 114 = .ok (.getfield 260, 3) := by decide +kernel
theorem dX11_storm_117 : decode cX11_storm 117 = .ok (.ladd, 1) := by decide +kernel
theorem dX11_storm_118 : decode cX11_storm 118 = .ok (.putfield 301, 3) := by decide +kernel
theorem dX11_storm_121 : decode cX11_storm 121 = .ok (.aload_n 0, 1) := by decide +kernel
theorem dX11_storm_122 : decode cX11_storm 122 = .ok (.dup, 1) := by decide +kernel
theorem dX11_storm_123 : decode cX11_storm 123 = .ok (.getfield 233, 3) := by decide +kernel
theorem dX11_storm_126 : decode cX11_storm 126 = .ok (.aload_n 0, 1) := by decide +kernel
theorem dX11_storm_127 : decode cX11_storm 127 = .ok (.getfield 263, 3) := by decide +kernel
theorem dX11_storm_130 : decode cX11_storm 130 = .ok (.ladd, 1) := by decide +kernel
theorem dX11_storm_131 : decode cX11_storm 131 = .ok (.putfield 233, 3) := by decide +kernel
theorem dX11_storm_134 : decode cX11_storm 134 = .ok (.aload_n 0, 1) := by decide +kernel
theorem dX11_storm_135 : decode cX11_storm 135 = .ok (.dup, 1) := by decide +kernel
theorem dX11_storm_136 : decode cX11_storm 136 = .ok (.getfield 304, 3) := by decide +kernel
theorem dX11_storm_139 : decode cX11_storm 139 = .ok (.aload_n 0, 1) := by decide +kernel
theorem dX11_storm_140 : decode cX11_storm 140 = .ok (.getfield 266, 3) := by decide +kernel
theorem dX11_storm_143 : decode cX11_storm 143 = .ok (.ladd, 1) := by decide +kernel
theorem dX11_storm_144 : decode cX11_storm 144 = .ok (.putfield 304, 3) := by decide +kernel
theorem dX11_storm_147 : decode cX11_storm 147 = .ok (.aload_n 0, 1) := by decide +kernel
theorem dX11_storm_148 : decode cX11_storm 148 = .ok (.dup, 1) := by decide +kernel
theorem dX11_storm_149 : decode cX11_storm 149 = .ok (.getfield 307, 3) := by decide +kernel
theorem dX11_storm_152 : decode cX11_storm 152 = .ok (.aload_n 0, 1) := by decide +kernel
theorem dX11_storm_153 : decode cX11_storm 153 = .ok (.getfield 269, 3) := by decide +kernel
theorem dX11_storm_156 : decode cX11_storm 156 = .ok (.ladd, 1) := by decide +kernel
theorem dX11_storm_157 : decode cX11_storm 157 = .ok (.putfield 307, 3) := by decide +kernel
theorem dX11_storm_160 : decode cX11_storm 160 = .ok (.aload_n 0, 1) := by decide +kernel
theorem dX11_storm_161 : decode cX11_storm 161 = .ok (.getfield 132, 3) := by decide +kernel
theorem dX11_storm_164 : decode cX11_storm 164 = .ok (.aload_n 0, 1) := by decide +kernel
theorem dX11_storm_165 : decode cX11_storm 165 = .ok (.getfield 295, 3) := by decide +kernel
theorem dX11_storm_168 : decode cX11_storm 168 = .ok (.aload_n 0, 1) := by decide +kernel
theorem dX11_storm_169 : decode cX11_storm 169 = .ok (.getfield 212, 3) := by decide +kernel
theorem dX11_storm_172 : decode cX11_storm 172 = .ok (.iastore, 1) := by decide +kernel
theorem dX11_storm_173 : decode cX11_storm 173 = .ok (.aload_n 0, 1) := by decide +kernel
theorem dX11_storm_174 : decode cX11_storm 174 = .ok (.getfield 117, 3) := by decide +kernel
theorem dX11_storm_177 : decode cX11_storm 177 = .ok (.aload_n 0, 1) := by decide +kernel
theorem dX11_storm_178 : decode cX11_storm 178 = .ok (.getfield 295, 3) := by decide +kernel
theorem dX11_storm_181 : decode cX11_storm 181 = .ok (.aload_n 0, 1) := by decide +kernel
theorem dX11_storm_182 : decode cX11_storm 182 = .ok (.getfield 260, 3) := by decide +kernel
theorem dX11_storm_185 : decode cX11_storm 185 = .ok (.lastore, 1) := by decide +kernel
theorem dX11_storm_186 : decode cX11_storm 186 = .ok (.aload_n 0, 1) := by decide +kernel
theorem dX11_storm_187 : decode cX11_storm 187 = .ok (.getfield 120, 3) := by decide +kernel
theorem dX11_storm_190 : decode cX11_storm 190 = .ok (.aload_n 0, 1) := by decide +kernel
theorem dX11_storm_191 : decode cX11_storm 191 = .ok (.getfield 295, 3) := by decide +kernel
theorem dX11_storm_194 : decode cX11_storm 194 = .ok (.aload_n 0, 1) := by decide +kernel
theorem dX11_storm_195 : decode cX11_storm 195 = .ok (.getfield 266, 3) := by decide +kernel
theorem dX11_storm_198 : decode cX11_storm 198 = .ok (.lastore, 1) := by decide +kernel
theorem dX11_storm_199 : decode cX11_storm 199 = .ok (.aload_n 0, 1) := by decide +kernel
theorem dX11_storm_200 : decode cX11_storm 200 = .ok (.getfield 135, 3) := by decide +kernel
theorem dX11_storm_203 : decode cX11_storm 203 = .ok (.aload_n 0, 1) := by decide +kernel
theorem dX11_storm_204 : decode cX11_storm 204 = .ok (.getfield 295, 3) := by decide +kernel
theorem dX11_storm_207 : decode cX11_storm 207 = .ok (.aload_n 0, 1) := by decide +kernel
theorem dX11_storm_208 : decode cX11_storm 208 = .ok (.getfield 275, 3) := by decide +kernel
theorem dX11_storm_211 : decode cX11_storm 211 = .ok (.iastore, 1) := by decide +kernel
theorem dX11_storm_212 : decode cX11_storm 212 = .ok (.aload_n 0, 1) := by decide +kernel
theorem dX11_storm_213 : decode cX11_storm 213 = .ok (.getfield 123, 3) := by decide +kernel
theorem dX11_storm_216 : decode cX11_storm 216 = .ok (.aload_n 0, 1) := by decide +kernel
theorem dX11_storm_217 : decode cX11_storm 217 = .ok (.getfield 295, 3) := by decide +kernel
theorem dX11_storm_220 : decode cX11_storm 220 = .ok (.aload_n 0, 1) := by decide +kernel
theorem dX11_storm_221 : decode cX11_storm 221 = .ok (.getfield 272, 3) := by decide +kernel
theorem dX11_storm_224 : decode cX11_storm 224 = .ok (.lastore, 1) := by decide +kernel
theorem dX11_storm_225 : decode cX11_storm 225 = .ok (.aload_n 0, 1) := by decide +kernel
theorem dX11_storm_226 : decode cX11_storm 226 = .ok (.dup, 1) := by decide +kernel
theorem dX11_storm_227 : decode cX11_storm 227 = .ok (.getfield 295, 3) := by decide +kernel
theorem dX11_storm_230 : decode cX11_storm 230 = .ok (.iconst 1, 1) := by decide +kernel
theorem dX11_storm_231 : decode cX11_storm 231 = .ok (.iadd, 1) := by decide +kernel
theorem dX11_storm_232 : decode cX11_storm 232 = .ok (.putfield 295, 3) := by decide +kernel
theorem dX11_storm_235 : decode cX11_storm 235 = .ok (.aload_n 0, 1) := by decide +kernel
theorem dX11_storm_236 : decode cX11_storm 236 = .ok (.getfield 295, 3) := by decide +kernel
theorem dX11_storm_239 : decode cX11_storm 239 = .ok (.iconst 1, 1) := by decide +kernel
theorem dX11_storm_240 : decode cX11_storm 240 = .ok (.isub, 1) := by decide +kernel
theorem dX11_storm_241 : decode cX11_storm 241 = .ok (.ireturn, 1) := by decide +kernel
theorem dX11_isNew_0 : decode cX11_isNew 0 = .ok (.iload_n 1, 1) := by decide +kernel
theorem dX11_isNew_1 : decode cX11_isNew 1 = .ok (.iconst 0, 1) := by decide +kernel
theorem dX11_isNew_2 : decode cX11_isNew 2 = .ok (.iconst 1, 1) := by decide +kernel
theorem dX11_isNew_3 : decode cX11_isNew 3 = .ok (.aload_n 0, 1) := by decide +kernel
theorem dX11_isNew_4 : decode cX11_isNew 4 = .ok (.getfield 191, 3) := by decide +kernel
theorem dX11_isNew_7 : decode cX11_isNew 7 = .ok (.ishl, 1) := by decide +kernel
theorem dX11_isNew_8 : decode cX11_isNew 8 = .ok (.iconst 1, 1) := by decide +kernel
theorem dX11_isNew_9 : decode cX11_isNew 9 = .ok (.isub, 1) := by decide +kernel
theorem dX11_isNew_10 : decode cX11_isNew 10 = .ok (.invokestatic 194, 3) := by decide +kernel
theorem dX11_isNew_13 : decode cX11_isNew 13 = .ok (.ifCond .ne 5, 3) := by decide +kernel
theorem dX11_isNew_16 : decode cX11_isNew 16 = .ok (.iconst 0, 1) := by decide +kernel
theorem dX11_isNew_17 : decode cX11_isNew 17 = .ok (.ireturn, 1) := by decide +kernel
theorem dX11_isNew_18 : decode cX11_isNew 18 = .ok (.iconst 1, 1) := by decide +kernel
theorem dX11_isNew_19 : decode cX11_isNew 19 = .ok (.istore_n 2, 1) := by decide +kernel
theorem dX11_isNew_20 : decode cX11_isNew 20 = .ok (.iconst 0, 1) := by decide +kernel
theorem dX11_isNew_21 : decode cX11_isNew 21 = .ok (.istore_n 3, 1) := by decide +kernel
theorem dX11_isNew_22 : decode cX11_isNew 22 = .ok (.iload_n 3, 1) := by decide +kernel
theorem dX11_isNew_23 : decode cX11_isNew 23 = .ok (.aload_n 0, 1) := by decide +kernel
theorem dX11_isNew_24 : decode cX11_isNew 24 = .ok (.getfield 191, 3) := by decide +kernel
theorem dX11_isNew_27 : decode cX11_isNew 27 = .ok (.if_icmp .ge 36, 3) := by decide +kernel
theorem dX11_isNew_30 : decode cX11_isNew 30 = .ok (.iload_n 2, 1) := by decide +kernel
theorem dX11_isNew_31 : decode cX11_isNew 31 = .ok (.ifCond .eq 24, 3) := by decide +kernel
theorem dX11_isNew_34 : decode cX11_isNew 34 = .ok (.iload_n 1, 1) := by decide +kernel
theorem dX11_isNew_35 : decode cX11_isNew 35 = .ok (.iload_n 3, 1) := by decide +kernel
theorem dX11_isNew_36 : decode cX11_isNew 36 = .ok (.ishr, 1) := by decide +kernel
theorem dX11_isNew_37 : decode cX11_isNew 37 = .ok (.iconst 1, 1) := by decide +kernel
theorem dX11_isNew_38 : decode cX11_isNew 38 = .ok (.iand, 1) := by decide +kernel
theorem dX11_isNew_39 : decode cX11_isNew 39 = .ok (.ifCond .eq 12, 3) := by decide +kernel
theorem dX11_isNew_42 : decode cX11_isNew 42 = .ok (.aload_n 0, 1) := by decide +kernel
theorem dX11_isNew_43 : decode cX11_isNew 43 = .ok (.getfield 25, 3) := by decide +kernel
theorem dX11_isNew_46 : decode cX11_isNew 46 = .ok (.iload_n 3, 1) := by decide +kernel
theorem dX11_isNew_47 : decode cX11_isNew 47 = .ok (.baload, 1) := by decide +kernel
theorem dX11_isNew_48 : decode cX11_isNew 48 = .ok (.ifCond .ne 7, 3) := by decide +kernel
theorem dX11_isNew_51 : decode cX11_isNew 51 = .ok (.iconst 1, 1) := by decide +kernel
theorem dX11_isNew_52 : decode cX11_isNew 52 = .ok (.goto 4, 3) := by decide +kernel
theorem dX11_isNew_55 : decode cX11_isNew 55 = .ok (.iconst 0, 1) := by decide +kernel
theorem dX11_isNew_56 : decode cX11_isNew 56 = .ok (.istore_n 2, 1) := by decide +kernel
theorem dX11_isNew_57 : decode cX11_isNew 57 = .ok (.iinc 3 1, 3) := by decide +kernel
theorem dX11_isNew_60 : decode cX11_isNew 60 = .ok (.goto (-38), 3) := by decide +kernel
theorem dX11_isNew_63 : decode cX11_isNew 63 = .ok (.iload_n 2, 1) := by decide +kernel
theorem dX11_isNew_64 : decode cX11_isNew 64 = .ok (.ireturn, 1) := by decide +kernel
theorem dX11_tried_0 : decode cX11_tried 0 = .ok (.aload_n 0, 1) := by decide +kernel
theorem dX11_tried_1 : decode cX11_tried 1 = .ok (.iload_n 1, 1) := by decide +kernel
theorem dX11_tried_2 : decode cX11_tried 2 = .ok (.invokevirtual 310, 3) := by decide +kernel
theorem dX11_tried_5 : decode cX11_tried 5 = .ok (.ifCond .eq 12, 3) := by decide +kernel
theorem dX11_tried_8 : decode cX11_tried 8 = .ok (.iload_n 2, 1) := by decide +kernel
theorem dX11_tried_9 : decode cX11_tried 9 = .ok (.iconst 0, 1) := by decide +kernel
theorem dX11_tried_10 : decode cX11_tried 10 = .ok (.iconst 1, 1) := by decide +kernel
theorem dX11_tried_11 : decode cX11_tried 11 = .ok (.invokestatic 194, 3) := by decide +kernel
theorem dX11_tried_14 : decode cX11_tried 14 = .ok (.ifCond .ne 7, 3) := by decide +kernel
theorem dX11_tried_17 : decode cX11_tried 17 = .ok (.ldc2_w 313, 3) := by decide +kernel
theorem dX11_tried_20 : decode cX11_tried 20 = .ok (.lreturn, 1) := by decide +kernel
theorem dX11_tried_21 : decode cX11_tried 21 = .ok (.aload_n 0, 1) := by decide +kernel
theorem dX11_tried_22 : decode cX11_tried 22 = .ok (.iload_n 1, 1) := by decide +kernel
theorem dX11_tried_23 : decode cX11_tried 23 = .ok (.invokevirtual 298, 3) := by decide +kernel
theorem dX11_tried_26 : decode cX11_tried 26 = .ok (.iload_n 2, 1) := by decide +kernel
theorem dX11_tried_27 : decode cX11_tried 27 = .ok (.ifCond .ne 10, 3) := by decide +kernel
theorem dX11_tried_30 : decode cX11_tried 30 = .ok (.aload_n 0, 1) := by decide +kernel
theorem dX11_tried_31 : decode cX11_tried 31 = .ok (.getfield 266, 3) := by decide +kernel
theorem dX11_tried_34 : decode cX11_tried 34 = .ok (.goto 8, 3) := by decide +kernel
theorem dX11_tried_37 : decode cX11_tried 37 = .ok (.aload_n 0, 1) := by decide +kernel
theorem dX11_tried_38 : decode cX11_tried 38 = .ok (.getfield 275, 3) := by decide +kernel
theorem dX11_tried_41 : decode cX11_tried 41 = .ok (.i2l, 1) := by decide +kernel
theorem dX11_tried_42 : decode cX11_tried 42 = .ok (.lreturn, 1) := by decide +kernel
theorem dX11_bits_0 : decode cX11_bits 0 = .ok (.iconst 0, 1) := by decide +kernel
theorem dX11_bits_1 : decode cX11_bits 1 = .ok (.istore_n 1, 1) := by decide +kernel
theorem dX11_bits_2 : decode cX11_bits 2 = .ok (.iload_n 0, 1) := by decide +kernel
theorem dX11_bits_3 : decode cX11_bits 3 = .ok (.istore_n 2, 1) := by decide +kernel
theorem dX11_bits_4 : decode cX11_bits 4 = .ok (.iload_n 2, 1) := by decide +kernel
theorem dX11_bits_5 : decode cX11_bits 5 = .ok (.ifCond .le 16, 3) := by decide +kernel
theorem dX11_bits_8 : decode cX11_bits 8 = .ok (.iload_n 1, 1) := by decide +kernel
theorem dX11_bits_9 : decode cX11_bits 9 = .ok (.iload_n 2, 1) := by decide +kernel
theorem dX11_bits_10 : decode cX11_bits 10 = .ok (.iconst 1, 1) := by decide +kernel
theorem dX11_bits_11 : decode cX11_bits 11 = .ok (.iand, 1) := by decide +kernel
theorem dX11_bits_12 : decode cX11_bits 12 = .ok (.iadd, 1) := by decide +kernel
theorem dX11_bits_13 : decode cX11_bits 13 = .ok (.istore_n 1, 1) := by decide +kernel
theorem dX11_bits_14 : decode cX11_bits 14 = .ok (.iload_n 2, 1) := by decide +kernel
theorem dX11_bits_15 : decode cX11_bits 15 = .ok (.iconst 1, 1) := by decide +kernel
theorem dX11_bits_16 : decode cX11_bits 16 = .ok (.ishr, 1) := by decide +kernel
theorem dX11_bits_17 : decode cX11_bits 17 = .ok (.istore_n 2, 1) := by decide +kernel
theorem dX11_bits_18 : decode cX11_bits 18 = .ok (.goto (-14), 3) := by decide +kernel
theorem dX11_bits_21 : decode cX11_bits 21 = .ok (.iload_n 1, 1) := by decide +kernel
theorem dX11_bits_22 : decode cX11_bits 22 = .ok (.ireturn, 1) := by decide +kernel
theorem dX11_best_0 : decode cX11_best 0 = .ok (.iload_n 1, 1) := by decide +kernel
theorem dX11_best_1 : decode cX11_best 1 = .ok (.iconst 0, 1) := by decide +kernel
theorem dX11_best_2 : decode cX11_best 2 = .ok (.iconst 4, 1) := by decide +kernel
theorem dX11_best_3 : decode cX11_best 3 = .ok (.invokestatic 194, 3) := by decide +kernel
theorem dX11_best_6 : decode cX11_best 6 = .ok (.ifCond .eq 35, 3) := by decide +kernel
theorem dX11_best_9 : decode cX11_best 9 = .ok (.iload_n 2, 1) := by decide +kernel
theorem dX11_best_10 : decode cX11_best 10 = .ok (.iconst 0, 1) := by decide +kernel
theorem dX11_best_11 : decode cX11_best 11 = .ok (.ldc_w 315, 3) := by decide +kernel
theorem dX11_best_14 : decode cX11_best 14 = .ok (.invokestatic 194, 3) := by decide +kernel
theorem dX11_best_17 : decode cX11_best 17 = .ok (.ifCond .eq 24, 3) := by decide +kernel
theorem dX11_best_20 : decode cX11_best 20 = .ok (.iload_n 3, 1) := by decide +kernel
theorem dX11_best_21 : decode cX11_best 21 = .ok (.iconst 0, 1) := by decide +kernel
theorem dX11_best_22 : decode cX11_best 22 = .ok (.sipush 10000, 3) := by decide +kernel
theorem dX11_best_25 : decode cX11_best 25 = .ok (.invokestatic 194, 3) := by decide +kernel
theorem dX11_best_28 : decode cX11_best 28 = .ok (.ifCond .eq 13, 3) := by decide +kernel
theorem dX11_best_31 : decode cX11_best 31 = .ok (.iload 4, 2) := by decide +kernel
theorem dX11_best_33 : decode cX11_best 33 = .ok (.iconst 0, 1) := by decide +kernel
theorem dX11_best_34 : decode cX11_best 34 = .ok (.iconst 4, 1) := by decide +kernel
theorem dX11_best_35 : decode cX11_best 35 = .ok (.invokestatic 194, 3) := by decide +kernel
theorem dX11_best_38 : decode cX11_best 38 = .ok (.ifCond .ne 7, 3) := by decide +kernel
theorem dX11_best_41 : decode cX11_best 41 = .ok (.ldc2_w 313, 3) := by decide +kernel
theorem dX11_best_44 : decode cX11_best 44 = .ok (.lreturn, 1) := by decide +kernel
theorem dX11_best_45 : decode cX11_best 45 = .ok (.aload_n 0, 1) := by decide +kernel
theorem dX11_best_46 : decode cX11_best 46 = .ok (.bipush 10, 2) := by decide +kernel
theorem dX11_best_48 : decode cX11_best 48 = .ok (.invokevirtual 209, 3) := by decide +kernel
theorem dX11_best_51 : decode cX11_best 51 = .ok (.bipush 100, 2) := by decide +kernel
theorem dX11_best_53 : decode cX11_best 53 = .ok (.aload_n 0, 1) := by decide +kernel
theorem dX11_best_54 : decode cX11_best 54 = .ok (.bipush 11, 2) := by decide +kernel
theorem dX11_best_56 : decode cX11_best 56 = .ok (.invokevirtual 209, 3) := by decide +kernel
theorem dX11_best_59 : decode cX11_best 59 = .ok (.imul, 1) := by decide +kernel
theorem dX11_best_60 : decode cX11_best 60 = .ok (.iadd, 1) := by decide +kernel
theorem dX11_best_61 : decode cX11_best 61 = .ok (.istore 5, 2) := by decide +kernel
theorem dX11_best_63 : decode cX11_best 63 = .ok (.iconst (-1), 1) := by decide +kernel
theorem dX11_best_64 : decode cX11_best 64 = .ok (.istore 6, 2) := by decide +kernel
theorem dX11_best_66 : decode cX11_best 66 = .ok (.lconst 0, 1) := by decide +kernel
theorem dX11_best_67 : decode cX11_best 67 = .ok (.lstore 7, 2) := by decide +kernel
theorem dX11_best_69 : decode cX11_best 69 = .ok (.iconst 0, 1) := by decide +kernel
theorem dX11_best_70 : decode cX11_best 70 = .ok (.istore 9, 2) := by decide +kernel
theorem dX11_best_72 : decode cX11_best 72 = .ok (.iload 9, 2) := by decide +kernel
theorem dX11_best_74 : decode cX11_best 74 = .ok (.iconst 1, 1) := by decide +kernel
theorem dX11_best_75 : decode cX11_best 75 = .ok (.aload_n 0, 1) := by decide +kernel
theorem dX11_best_76 : decode cX11_best 76 = .ok (.getfield 191, 3) := by decide +kernel
theorem dX11_best_79 : decode cX11_best 79 = .ok (.ishl, 1) := by decide +kernel
theorem dX11_best_80 : decode cX11_best 80 = .ok (.if_icmp .ge 123, 3) := by decide +kernel
theorem dX11_best_83 : decode cX11_best 83 = .ok (.iload 9, 2) := by decide +kernel
theorem dX11_best_85 : decode cX11_best 85 = .ok (.invokestatic 316, 3) := by decide +kernel
theorem dX11_best_88 : decode cX11_best 88 = .ok (.iload_n 1, 1) := by decide +kernel
theorem dX11_best_89 : decode cX11_best 89 = .ok (.if_icmp .gt 108, 3) := by decide +kernel
theorem dX11_best_92 : decode cX11_best 92 = .ok (.iload 9, 2) := by decide +kernel
theorem dX11_best_94 : decode cX11_best 94 = .ok (.invokestatic 316, 3) := by decide +kernel
theorem dX11_best_97 : decode cX11_best 97 = .ok (.iload 5, 2) := by decide +kernel
theorem dX11_best_99 : decode cX11_best 99 = .ok (.imul, 1) := by decide +kernel
theorem dX11_best_100 : decode cX11_best 100 = .ok (.iload_n 2, 1) := by decide +kernel
theorem dX11_best_101 : decode cX11_best 101 = .ok (.if_icmp .gt 96, 3) := by decide +kernel
theorem dX11_best_104 : decode cX11_best 104 = .ok (.aload_n 0, 1) := by decide +kernel
theorem dX11_best_105 : decode cX11_best 105 = .ok (.iload 9, 2) := by decide +kernel
theorem dX11_best_107 : decode cX11_best 107 = .ok (.invokevirtual 310, 3) := by decide +kernel
theorem dX11_best_110 : decode cX11_best 110 = .ok (.ifCond .eq 87, 3) := by decide +kernel
theorem dX11_best_113 : decode cX11_best 113 = .ok (.aload_n 0, 1) := by decide +kernel
theorem dX11_best_114 : decode cX11_best 114 = .ok (.iload 9, 2) := by decide +kernel
theorem dX11_best_116 : decode cX11_best 116 = .ok (.invokevirtual 205, 3) := by decide +kernel
theorem dX11_best_119 : decode cX11_best 119 = .ok (.aload_n 0, 1) := by decide +kernel
theorem dX11_best_120 : decode cX11_best 120 = .ok (.iconst 4, 1) := by decide +kernel
theorem dX11_best_121 : decode cX11_best 121 = .ok (.invokevirtual 209, 3) := by decide +kernel
theorem dX11_best_124 : decode cX11_best 124 = .ok (.if_icmp .le 6, 3) := by decide +kernel
theorem dX11_best_127 : decode cX11_best 127 = .ok (.goto 70, 3) := by decide +kernel
theorem dX11_best_130 : decode cX11_best 130 = .ok (.aload_n 0, 1) := by decide +kernel
theorem dX11_best_131 : decode cX11_best 131 = .ok (.iload 9, 2) := by decide +kernel
theorem dX11_best_133 : decode cX11_best 133 = .ok (.invokevirtual 298, 3) := by decide +kernel
theorem dX11_best_136 : decode cX11_best 136 = .ok (.iload_n 3, 1) := by decide +kernel
theorem dX11_best_137 : decode cX11_best 137 = .ok (.i2l, 1) := by decide +kernel
theorem dX11_best_138 : decode cX11_best 138 = .ok (.aload_n 0, 1) := by decide +kernel
theorem dX11_best_139 : decode cX11_best 139 = .ok (.getfield 275, 3) := by decide +kernel
theorem dX11_best_142 : decode cX11_best 142 = .ok (.i2l, 1) := by decide +kernel
theorem dX11_best_143 : decode cX11_best 143 = .ok (.lmul, 1) := by decide +kernel
theorem dX11_best_144 : decode cX11_best 144 = .ok (.aload_n 0, 1) := by decide +kernel
theorem dX11_best_145 : decode cX11_best 145 = .ok (.getfield 266, 3) := by decide +kernel
theorem dX11_best_148 : decode cX11_best 148 = .ok (.ladd, 1) := by decide +kernel
theorem dX11_best_149 : decode cX11_best 149 = .ok (.lstore 10, 2) := by decide +kernel
theorem dX11_best_151 : decode cX11_best 151 = .ok (.iload 6, 2) := by decide +kernel
theorem dX11_best_153 : decode cX11_best 153 = .ok (.iconst (-1), 1) := by decide +kernel
theorem dX11_best_154 : decode cX11_best 154 = .ok (.if_icmp .eq 35, 3) := by decide +kernel
theorem dX11_best_157 : decode cX11_best 157 = .ok (.lload 10, 2) := by decide +kernel
theorem dX11_best_159 : decode cX11_best 159 = .ok (.lload 7, 2) := by decide +kernel
theorem dX11_best_161 : decode cX11_best 161 = .ok (.lcmp, 1) := by decide +kernel
theorem dX11_best_162 : decode cX11_best 162 = .ok (.ifCond .gt 35, 3) := by decide +kernel
theorem dX11_best_165 : decode cX11_best 165 = .ok (.lload 10, 2) := by decide +kernel
theorem dX11_best_167 : decode cX11_best 167 = .ok (.lload 7, 2) := by decide +kernel
theorem dX11_best_169 : decode cX11_best 169 = .ok (.lcmp, 1) := by decide +kernel
theorem dX11_best_170 : decode cX11_best 170 = .ok (.ifCond .ne 19, 3) := by decide +kernel
theorem dX11_best_173 : decode cX11_best 173 = .ok (.iload 9, 2) := by decide +kernel
theorem dX11_best_175 : decode cX11_best 175 = .ok (.invokestatic 316, 3) := by decide +kernel
theorem dX11_best_178 : decode cX11_best 178 = .ok (.iload 6, 2) := by decide +kernel
theorem dX11_best_180 : decode cX11_best 180 = .ok (.invokestatic 316, 3) := by decide +kernel
theorem dX11_best_183 : decode cX11_best 183 = .ok (.if_icmp .lt 6, 3) := by decide +kernel
theorem dX11_best_186 : decode cX11_best 186 = .ok (.goto 11, 3) := by decide +kernel
theorem dX11_best_189 : decode cX11_best 189 = .ok (.iload 9, 2) := by decide +kernel
theorem dX11_best_191 : decode cX11_best 191 = .ok (.istore 6, 2) := by decide +kernel
theorem dX11_best_193 : decode cX11_best 193 = .ok (.lload 10, 2) := by decide +kernel
theorem dX11_best_195 : decode cX11_best 195 = .ok (.lstore 7, 2) := by decide +kernel
theorem dX11_best_197 : decode cX11_best 197 = .ok (.iinc 9 1, 3) := by decide +kernel
theorem dX11_best_200 : decode cX11_best 200 = .ok (.goto (-128), 3) := by decide +kernel
theorem dX11_best_203 : decode cX11_best 203 = .ok (.iload 6, 2) := by decide +kernel
theorem dX11_best_205 : decode cX11_best 205 = .ok (.iconst (-1), 1) := by decide +kernel
theorem dX11_best_206 : decode cX11_best 206 = .ok (.if_icmp .ne 7, 3) := by decide +kernel
theorem dX11_best_209 : decode cX11_best 209 = .ok (.ldc2_w 313, 3) := by decide +kernel
theorem dX11_best_212 : decode cX11_best 212 = .ok (.lreturn, 1) := by decide +kernel
theorem dX11_best_213 : decode cX11_best 213 = .ok (.aload_n 0, 1) := by decide +kernel
theorem dX11_best_214 : decode cX11_best 214 = .ok (.iload 6, 2) := by decide +kernel
theorem dX11_best_216 : decode cX11_best 216 = .ok (.invokevirtual 298, 3) := by decide +kernel
theorem dX11_best_219 : decode cX11_best 219 = .ok (.iload 4, 2) := by decide +kernel
theorem dX11_best_221 : decode cX11_best 221 = .ok (.ifCond .ne 8, 3) := by decide +kernel
theorem dX11_best_224 : decode cX11_best 224 = .ok (.lload 7, 2) := by decide +kernel
theorem dX11_best_226 : decode cX11_best 226 = .ok (.goto 51, 3) := by decide +kernel
theorem dX11_best_229 : decode cX11_best 229 = .ok (.iload 4, 2) := by decide +kernel
theorem dX11_best_231 : decode cX11_best 231 = .ok (.iconst 1, 1) := by decide +kernel
theorem dX11_best_232 : decode cX11_best 232 = .ok (.if_icmp .ne 9, 3) := by decide +kernel
theorem dX11_best_235 : decode cX11_best 235 = .ok (.iload 6, 2) := by decide +kernel
theorem dX11_best_237 : decode cX11_best 237 = .ok (.i2l, 1) := by decide +kernel
theorem dX11_best_238 : decode cX11_best 238 = .ok (.goto 39, 3) := by decide +kernel
theorem dX11_best_241 : decode cX11_best 241 = .ok (.iload 4, 2) := by decide +kernel
theorem dX11_best_243 : decode cX11_best 243 = .ok (.iconst 2, 1) := by decide +kernel
theorem dX11_best_244 : decode cX11_best 244 = .ok (.if_icmp .ne 15, 3) := by decide +kernel
theorem dX11_best_247 : decode cX11_best 247 = .ok (.iload 6, 2) := by decide +kernel
theorem dX11_best_249 : decode cX11_best 249 = .ok (.invokestatic 316, 3) := by decide +kernel
theorem dX11_best_252 : decode cX11_best 252 = .ok (.iload 5, 2) := by decide +kernel
theorem dX11_best_254 : decode cX11_best 254 = .ok (.imul, 1) := by decide +kernel
theorem dX11_best_255 : decode cX11_best 255 = .ok (.i2l, 1) := by decide +kernel
theorem dX11_best_256 : decode cX11_best 256 = .ok (.goto 21, 3) := by decide +kernel
theorem dX11_best_259 : decode cX11_best 259 = .ok (.iload 4, 2) := by decide +kernel
theorem dX11_best_261 : decode cX11_best 261 = .ok (.iconst 3, 1) := by decide +kernel
theorem dX11_best_262 : decode cX11_best 262 = .ok (.if_icmp .ne 10, 3) := by decide +kernel
theorem dX11_best_265 : decode cX11_best 265 = .ok (.aload_n 0, 1) := by decide +kernel
theorem dX11_best_266 : decode cX11_best 266 = .ok (.getfield 266, 3) := by decide +kernel
theorem dX11_best_269 : decode cX11_best 269 = .ok (.goto 8, 3) := by decide +kernel
theorem dX11_best_272 : decode cX11_best 272 = .ok (.aload_n 0, 1) := by decide +kernel
theorem dX11_best_273 : decode cX11_best 273 = .ok (.getfield 275, 3) := by decide +kernel
theorem dX11_best_276 : decode cX11_best 276 = .ok (.i2l, 1) := by decide +kernel
theorem dX11_best_277 : decode cX11_best 277 = .ok (.lreturn, 1) := by decide +kernel
theorem dX11_helps_0 : decode cX11_helps 0 = .ok (.aload_n 0, 1) := by decide +kernel
theorem dX11_helps_1 : decode cX11_helps 1 = .ok (.iload_n 1, 1) := by decide +kernel
theorem dX11_helps_2 : decode cX11_helps 2 = .ok (.invokevirtual 198, 3) := by decide +kernel
theorem dX11_helps_5 : decode cX11_helps 5 = .ok (.ifCond .eq 20, 3) := by decide +kernel
theorem dX11_helps_8 : decode cX11_helps 8 = .ok (.aload_n 0, 1) := by decide +kernel
theorem dX11_helps_9 : decode cX11_helps 9 = .ok (.getfield 25, 3) := by decide +kernel
theorem dX11_helps_12 : decode cX11_helps 12 = .ok (.iload_n 1, 1) := by decide +kernel
theorem dX11_helps_13 : decode cX11_helps 13 = .ok (.baload, 1) := by decide +kernel
theorem dX11_helps_14 : decode cX11_helps 14 = .ok (.ifCond .ne 11, 3) := by decide +kernel
theorem dX11_helps_17 : decode cX11_helps 17 = .ok (.aload_n 0, 1) := by decide +kernel
theorem dX11_helps_18 : decode cX11_helps 18 = .ok (.iload_n 2, 1) := by decide +kernel
theorem dX11_helps_19 : decode cX11_helps 19 = .ok (.invokevirtual 198, 3) := by decide +kernel
theorem dX11_helps_22 : decode cX11_helps 22 = .ok (.ifCond .ne 7, 3) := by decide +kernel
theorem dX11_helps_25 : decode cX11_helps 25 = .ok (.ldc2_w 313, 3) := by decide +kernel
theorem dX11_helps_28 : decode cX11_helps 28 = .ok (.lreturn, 1) := by decide +kernel
theorem dX11_helps_29 : decode cX11_helps 29 = .ok (.aload_n 0, 1) := by decide +kernel
theorem dX11_helps_30 : decode cX11_helps 30 = .ok (.iconst 0, 1) := by decide +kernel
theorem dX11_helps_31 : decode cX11_helps 31 = .ok (.invokevirtual 298, 3) := by decide +kernel
theorem dX11_helps_34 : decode cX11_helps 34 = .ok (.aload_n 0, 1) := by decide +kernel
theorem dX11_helps_35 : decode cX11_helps 35 = .ok (.getfield 108, 3) := by decide +kernel
theorem dX11_helps_38 : decode cX11_helps 38 = .ok (.iload_n 2, 1) := by decide +kernel
theorem dX11_helps_39 : decode cX11_helps 39 = .ok (.laload, 1) := by decide +kernel
theorem dX11_helps_40 : decode cX11_helps 40 = .ok (.lstore_n 3, 1) := by decide +kernel
theorem dX11_helps_41 : decode cX11_helps 41 = .ok (.aload_n 0, 1) := by decide +kernel
theorem dX11_helps_42 : decode cX11_helps 42 = .ok (.iconst 1, 1) := by decide +kernel
theorem dX11_helps_43 : decode cX11_helps 43 = .ok (.iload_n 1, 1) := by decide +kernel
theorem dX11_helps_44 : decode cX11_helps 44 = .ok (.ishl, 1) := by decide +kernel
theorem dX11_helps_45 : decode cX11_helps 45 = .ok (.invokevirtual 298, 3) := by decide +kernel
theorem dX11_helps_48 : decode cX11_helps 48 = .ok (.lload_n 3, 1) := by decide +kernel
theorem dX11_helps_49 : decode cX11_helps 49 = .ok (.aload_n 0, 1) := by decide +kernel
theorem dX11_helps_50 : decode cX11_helps 50 = .ok (.getfield 108, 3) := by decide +kernel
theorem dX11_helps_53 : decode cX11_helps 53 = .ok (.iload_n 2, 1) := by decide +kernel
theorem dX11_helps_54 : decode cX11_helps 54 = .ok (.laload, 1) := by decide +kernel
theorem dX11_helps_55 : decode cX11_helps 55 = .ok (.lsub, 1) := by decide +kernel
theorem dX11_helps_56 : decode cX11_helps 56 = .ok (.lreturn, 1) := by decide +kernel
theorem dX11_told_0 : decode cX11_told 0 = .ok (.aload_n 0, 1) := by decide +kernel
theorem dX11_told_1 : decode cX11_told 1 = .ok (.iload_n 1, 1) := by decide +kernel
theorem dX11_told_2 : decode cX11_told 2 = .ok (.invokevirtual 198, 3) := by decide +kernel
theorem dX11_told_5 : decode cX11_told 5 = .ok (.ifCond .ne 5, 3) := by decide +kernel
theorem dX11_told_8 : decode cX11_told 8 = .ok (.iconst (-1), 1) := by decide +kernel
theorem dX11_told_9 : decode cX11_told 9 = .ok (.ireturn, 1) := by decide +kernel
theorem dX11_told_10 : decode cX11_told 10 = .ok (.iload_n 2, 1) := by decide +kernel
theorem dX11_told_11 : decode cX11_told 11 = .ok (.tableswitch 117 0 8 #[49, 56, 63, 70, 77, 84, 94, 102, 110], 49) := by decide +kernel
theorem dX11_told_60 : decode cX11_told 60 = .ok (.aload_n 0, 1) := by decide +kernel
theorem dX11_told_61 : decode cX11_told 61 = .ok (.getfield 7, 3) := by decide +kernel
theorem dX11_told_64 : decode cX11_told 64 = .ok (.iload_n 1, 1) := by decide +kernel
theorem dX11_told_65 : decode cX11_told 65 = .ok (.iaload, 1) := by decide +kernel
theorem dX11_told_66 : decode cX11_told 66 = .ok (.ireturn, 1) := by decide +kernel
theorem dX11_told_67 : decode cX11_told 67 = .ok (.aload_n 0, 1) := by decide +kernel
theorem dX11_told_68 : decode cX11_told 68 = .ok (.getfield 13, 3) := by decide +kernel
theorem dX11_told_71 : decode cX11_told 71 = .ok (.iload_n 1, 1) := by decide +kernel
theorem dX11_told_72 : decode cX11_told 72 = .ok (.iaload, 1) := by decide +kernel
theorem dX11_told_73 : decode cX11_told 73 = .ok (.ireturn, 1) := by decide +kernel
theorem dX11_told_74 : decode cX11_told 74 = .ok (.aload_n 0, 1) := by decide +kernel
theorem dX11_told_75 : decode cX11_told 75 = .ok (.getfield 16, 3) := by decide +kernel
theorem dX11_told_78 : decode cX11_told 78 = .ok (.iload_n 1, 1) := by decide +kernel
theorem dX11_told_79 : decode cX11_told 79 = .ok (.iaload, 1) := by decide +kernel
theorem dX11_told_80 : decode cX11_told 80 = .ok (.ireturn, 1) := by decide +kernel
theorem dX11_told_81 : decode cX11_told 81 = .ok (.aload_n 0, 1) := by decide +kernel
theorem dX11_told_82 : decode cX11_told 82 = .ok (.getfield 19, 3) := by decide +kernel
theorem dX11_told_85 : decode cX11_told 85 = .ok (.iload_n 1, 1) := by decide +kernel
theorem dX11_told_86 : decode cX11_told 86 = .ok (.iaload, 1) := by decide +kernel
theorem dX11_told_87 : decode cX11_told 87 = .ok (.ireturn, 1) := by decide +kernel
theorem dX11_told_88 : decode cX11_told 88 = .ok (.aload_n 0, 1) := by decide +kernel
theorem dX11_told_89 : decode cX11_told 89 = .ok (.getfield 22, 3) := by decide +kernel
theorem dX11_told_92 : decode cX11_told 92 = .ok (.iload_n 1, 1) := by decide +kernel
theorem dX11_told_93 : decode cX11_told 93 = .ok (.iaload, 1) := by decide +kernel
theorem dX11_told_94 : decode cX11_told 94 = .ok (.ireturn, 1) := by decide +kernel
theorem dX11_told_95 : decode cX11_told 95 = .ok (.aload_n 0, 1) := by decide +kernel
theorem dX11_told_96 : decode cX11_told 96 = .ok (.getfield 25, 3) := by decide +kernel
theorem dX11_told_99 : decode cX11_told 99 = .ok (.iload_n 1, 1) := by decide +kernel
theorem dX11_told_100 : decode cX11_told 100 = .ok (.baload, 1) := by decide +kernel
theorem dX11_told_101 : decode cX11_told 101 = .ok (.invokestatic 319, 3) := by decide +kernel
theorem dX11_told_104 : decode cX11_told 104 = .ok (.ireturn, 1) := by decide +kernel
theorem dX11_told_105 : decode cX11_told 105 = .ok (.aload_n 0, 1) := by decide +kernel
theorem dX11_told_106 : decode cX11_told 106 = .ok (.getfield 126, 3) := by decide +kernel
theorem dX11_told_109 : decode cX11_told 109 = .ok (.iload_n 1, 1) := by decide +kernel
theorem dX11_told_110 : decode cX11_told 110 = .ok (.laload, 1) := by decide +kernel
theorem dX11_told_111 : decode cX11_told 111 = .ok (.l2i, 1) := by decide +kernel
theorem dX11_told_112 : decode cX11_told 112 = .ok (.ireturn, 1) := by decide +kernel
theorem dX11_told_113 : decode cX11_told 113 = .ok (.aload_n 0, 1) := by decide +kernel
theorem dX11_told_114 : decode cX11_told 114 = .ok (.getfield 129, 3) := by decide +kernel
theorem dX11_told_117 : decode cX11_told 117 = .ok (.iload_n 1, 1) := by decide +kernel
theorem dX11_told_118 : decode cX11_told 118 = .ok (.laload, 1) := by decide +kernel
theorem dX11_told_119 : decode cX11_told 119 = .ok (.l2i, 1) := by decide +kernel
theorem dX11_told_120 : decode cX11_told 120 = .ok (.ireturn, 1) := by decide +kernel
theorem dX11_told_121 : decode cX11_told 121 = .ok (.aload_n 0, 1) := by decide +kernel
theorem dX11_told_122 : decode cX11_told 122 = .ok (.getfield 138, 3) := by decide +kernel
theorem dX11_told_125 : decode cX11_told 125 = .ok (.iload_n 1, 1) := by decide +kernel
theorem dX11_told_126 : decode cX11_told 126 = .ok (.iaload, 1) := by decide +kernel
theorem dX11_told_127 : decode cX11_told 127 = .ok (.ireturn, 1) := by decide +kernel
theorem dX11_told_128 : decode cX11_told 128 = .ok (.iconst (-1), 1) := by decide +kernel
theorem dX11_told_129 : decode cX11_told 129 = .ok (.ireturn, 1) := by decide +kernel
theorem dX11_bedOf_0 : decode cX11_bedOf 0 = .ok (.aload_n 0, 1) := by decide +kernel
theorem dX11_bedOf_1 : decode cX11_bedOf 1 = .ok (.iload_n 1, 1) := by decide +kernel
theorem dX11_bedOf_2 : decode cX11_bedOf 2 = .ok (.invokevirtual 219, 3) := by decide +kernel
theorem dX11_bedOf_5 : decode cX11_bedOf 5 = .ok (.ifCond .ne 5, 3) := by decide +kernel
theorem dX11_bedOf_8 : decode cX11_bedOf 8 = .ok (.iconst (-1), 1) := by decide +kernel
theorem dX11_bedOf_9 : decode cX11_bedOf 9 = .ok (.ireturn, 1) := by decide +kernel
theorem dX11_bedOf_10 : decode cX11_bedOf 10 = .ok (.aload_n 0, 1) := by decide +kernel
theorem dX11_bedOf_11 : decode cX11_bedOf 11 = .ok (.getfield 59, 3) := by decide +kernel
theorem dX11_bedOf_14 : decode cX11_bedOf 14 = .ok (.iload_n 1, 1) := by decide +kernel
theorem dX11_bedOf_15 : decode cX11_bedOf 15 = .ok (.iaload, 1) := by decide +kernel
theorem dX11_bedOf_16 : decode cX11_bedOf 16 = .ok (.istore_n 3, 1) := by decide +kernel
theorem dX11_bedOf_17 : decode cX11_bedOf 17 = .ok (.iload_n 2, 1) := by decide +kernel
theorem dX11_bedOf_18 : decode cX11_bedOf 18 = .ok (.tableswitch 224 0 13 #[70, 77, 84, 94, 101, 108, 115, 122, 132, 139, 146, 152, 154, 189], 70) := by decide +kernel
theorem dX11_bedOf_88 : decode cX11_bedOf 88 = .ok (.aload_n 0, 1) := by decide +kernel
theorem dX11_bedOf_89 : decode cX11_bedOf 89 = .ok (.getfield 35, 3) := by decide +kernel
theorem dX11_bedOf_92 : decode cX11_bedOf 92 = .ok (.iload_n 1, 1) := by decide +kernel
theorem dX11_bedOf_93 : decode cX11_bedOf 93 = .ok (.iaload, 1) := by decide +kernel
theorem dX11_bedOf_94 : decode cX11_bedOf 94 = .ok (.ireturn, 1) := by decide +kernel
theorem dX11_bedOf_95 : decode cX11_bedOf 95 = .ok (.aload_n 0, 1) := by decide +kernel
theorem dX11_bedOf_96 : decode cX11_bedOf 96 = .ok (.getfield 38, 3) := by decide +kernel
theorem dX11_bedOf_99 : decode cX11_bedOf 99 = .ok (.iload_n 1, 1) := by decide +kernel
theorem dX11_bedOf_100 : decode cX11_bedOf 100 = .ok (.iaload, 1) := by decide +kernel
theorem dX11_bedOf_101 : decode cX11_bedOf 101 = .ok (.ireturn, 1) := by decide +kernel
theorem dX11_bedOf_102 : decode cX11_bedOf 102 = .ok (.aload_n 0, 1) := by decide +kernel
theorem dX11_bedOf_103 : decode cX11_bedOf 103 = .ok (.getfield 29, 3) := by decide +kernel
theorem dX11_bedOf_106 : decode cX11_bedOf 106 = .ok (.iload_n 1, 1) := by decide +kernel
theorem dX11_bedOf_107 : decode cX11_bedOf 107 = .ok (.baload, 1) := by decide +kernel
theorem dX11_bedOf_108 : decode cX11_bedOf 108 = .ok (.invokestatic 319, 3) := by decide +kernel
theorem dX11_bedOf_111 : decode cX11_bedOf 111 = .ok (.ireturn, 1) := by decide +kernel
theorem dX11_bedOf_112 : decode cX11_bedOf 112 = .ok (.aload_n 0, 1) := by decide +kernel
theorem dX11_bedOf_113 : decode cX11_bedOf 113 = .ok (.getfield 41, 3) := by decide +kernel
theorem dX11_bedOf_116 : decode cX11_bedOf 116 = .ok (.iload_n 1, 1) := by decide +kernel
theorem dX11_bedOf_117 : decode cX11_bedOf 117 = .ok (.iaload, 1) := by decide +kernel
theorem dX11_bedOf_118 : decode cX11_bedOf 118 = .ok (.ireturn, 1) := by decide +kernel
theorem dX11_bedOf_119 : decode cX11_bedOf 119 = .ok (.aload_n 0, 1) := by decide +kernel
theorem dX11_bedOf_120 : decode cX11_bedOf 120 = .ok (.getfield 44, 3) := by decide +kernel
theorem dX11_bedOf_123 : decode cX11_bedOf 123 = .ok (.iload_n 1, 1) := by decide +kernel
theorem dX11_bedOf_124 : decode cX11_bedOf 124 = .ok (.iaload, 1) := by decide +kernel
theorem dX11_bedOf_125 : decode cX11_bedOf 125 = .ok (.ireturn, 1) := by decide +kernel
theorem dX11_bedOf_126 : decode cX11_bedOf 126 = .ok (.aload_n 0, 1) := by decide +kernel
theorem dX11_bedOf_127 : decode cX11_bedOf 127 = .ok (.getfield 47, 3) := by decide +kernel
theorem dX11_bedOf_130 : decode cX11_bedOf 130 = .ok (.iload_n 1, 1) := by decide +kernel
theorem dX11_bedOf_131 : decode cX11_bedOf 131 = .ok (.iaload, 1) := by decide +kernel
theorem dX11_bedOf_132 : decode cX11_bedOf 132 = .ok (.ireturn, 1) := by decide +kernel
theorem dX11_bedOf_133 : decode cX11_bedOf 133 = .ok (.aload_n 0, 1) := by decide +kernel
theorem dX11_bedOf_134 : decode cX11_bedOf 134 = .ok (.getfield 50, 3) := by decide +kernel
theorem dX11_bedOf_137 : decode cX11_bedOf 137 = .ok (.iload_n 1, 1) := by decide +kernel
theorem dX11_bedOf_138 : decode cX11_bedOf 138 = .ok (.iaload, 1) := by decide +kernel
theorem dX11_bedOf_139 : decode cX11_bedOf 139 = .ok (.ireturn, 1) := by decide +kernel
theorem dX11_bedOf_140 : decode cX11_bedOf 140 = .ok (.aload_n 0, 1) := by decide +kernel
theorem dX11_bedOf_141 : decode cX11_bedOf 141 = .ok (.getfield 32, 3) := by decide +kernel
theorem dX11_bedOf_144 : decode cX11_bedOf 144 = .ok (.iload_n 1, 1) := by decide +kernel
theorem dX11_bedOf_145 : decode cX11_bedOf 145 = .ok (.baload, 1) := by decide +kernel
theorem dX11_bedOf_146 : decode cX11_bedOf 146 = .ok (.invokestatic 319, 3) := by decide +kernel
theorem dX11_bedOf_149 : decode cX11_bedOf 149 = .ok (.ireturn, 1) := by decide +kernel
theorem dX11_bedOf_150 : decode cX11_bedOf 150 = .ok (.aload_n 0, 1) := by decide +kernel
theorem dX11_bedOf_151 : decode cX11_bedOf 151 = .ok (.getfield 53, 3) := by decide +kernel
theorem dX11_bedOf_154 : decode cX11_bedOf 154 = .ok (.iload_n 1, 1) := by decide +kernel
theorem dX11_bedOf_155 : decode cX11_bedOf 155 = .ok (.iaload, 1) := by decide +kernel
theorem dX11_bedOf_156 : decode cX11_bedOf 156 = .ok (.ireturn, 1) := by decide +kernel
theorem dX11_bedOf_157 : decode cX11_bedOf 157 = .ok (.aload_n 0, 1) := by decide +kernel
theorem dX11_bedOf_158 : decode cX11_bedOf 158 = .ok (.getfield 56, 3) := by decide +kernel
theorem dX11_bedOf_161 : decode cX11_bedOf 161 = .ok (.iload_n 1, 1) := by decide +kernel
theorem dX11_bedOf_162 : decode cX11_bedOf 162 = .ok (.iaload, 1) := by decide +kernel
theorem dX11_bedOf_163 : decode cX11_bedOf 163 = .ok (.ireturn, 1) := by decide +kernel
theorem dX11_bedOf_164 : decode cX11_bedOf 164 = .ok (.aload_n 0, 1) := by decide +kernel
theorem dX11_bedOf_165 : decode cX11_bedOf 165 = .ok (.iload_n 1, 1) := by decide +kernel
theorem dX11_bedOf_166 : decode cX11_bedOf 166 = .ok (.invokevirtual 230, 3) := by decide +kernel
theorem dX11_bedOf_169 : decode cX11_bedOf 169 = .ok (.ireturn, 1) := by decide +kernel
theorem dX11_bedOf_170 : decode cX11_bedOf 170 = .ok (.iload_n 3, 1) := by decide +kernel
theorem dX11_bedOf_171 : decode cX11_bedOf 171 = .ok (.ireturn, 1) := by decide +kernel
theorem dX11_bedOf_172 : decode cX11_bedOf 172 = .ok (.iload_n 3, 1) := by decide +kernel
theorem dX11_bedOf_173 : decode cX11_bedOf 173 = .ok (.iconst (-1), 1) := by decide +kernel
theorem dX11_bedOf_174 : decode cX11_bedOf 174 = .ok (.if_icmp .ne 7, 3) := by decide +kernel
theorem dX11_bedOf_177 : decode cX11_bedOf 177 = .ok (.iconst (-1), 1) := by decide +kernel
theorem dX11_bedOf_178 : decode cX11_bedOf 178 = .ok (.goto 28, 3) := by decide +kernel
theorem dX11_bedOf_181 : decode cX11_bedOf 181 = .ok (.aload_n 0, 1) := by decide +kernel
theorem dX11_bedOf_182 : decode cX11_bedOf 182 = .ok (.getfield 83, 3) := by decide +kernel
theorem dX11_bedOf_185 : decode cX11_bedOf 185 = .ok (.aload_n 0, 1) := by decide +kernel
theorem dX11_bedOf_186 : decode cX11_bedOf 186 = .ok (.getfield 35, 3) := by decide +kernel
theorem dX11_bedOf_189 : decode cX11_bedOf 189 = .ok (.iload_n 1, 1) := by decide +kernel
theorem dX11_bedOf_190 : decode cX11_bedOf 190 = .ok (.iaload, 1) := by decide +kernel
theorem dX11_bedOf_191 : decode cX11_bedOf 191 = .ok (.iaload, 1) := by decide +kernel
theorem dX11_bedOf_192 : decode cX11_bedOf 192 = .ok (.aload_n 0, 1) := by decide +kernel
theorem dX11_bedOf_193 : decode cX11_bedOf 193 = .ok (.bipush 13, 2) := by decide +kernel
theorem dX11_bedOf_195 : decode cX11_bedOf 195 = .ok (.iconst 2, 1) := by decide +kernel
theorem dX11_bedOf_196 : decode cX11_bedOf 196 = .ok (.iload_n 3, 1) := by decide +kernel
theorem dX11_bedOf_197 : decode cX11_bedOf 197 = .ok (.imul, 1) := by decide +kernel
theorem dX11_bedOf_198 : decode cX11_bedOf 198 = .ok (.iadd, 1) := by decide +kernel
theorem dX11_bedOf_199 : decode cX11_bedOf 199 = .ok (.invokevirtual 209, 3) := by decide +kernel
theorem dX11_bedOf_202 : decode cX11_bedOf 202 = .ok (.imul, 1) := by decide +kernel
theorem dX11_bedOf_203 : decode cX11_bedOf 203 = .ok (.bipush 100, 2) := by decide +kernel
theorem dX11_bedOf_205 : decode cX11_bedOf 205 = .ok (.idiv, 1) := by decide +kernel
theorem dX11_bedOf_206 : decode cX11_bedOf 206 = .ok (.ireturn, 1) := by decide +kernel
theorem dX11_bedOf_207 : decode cX11_bedOf 207 = .ok (.iload_n 3, 1) := by decide +kernel
theorem dX11_bedOf_208 : decode cX11_bedOf 208 = .ok (.iconst (-1), 1) := by decide +kernel
theorem dX11_bedOf_209 : decode cX11_bedOf 209 = .ok (.if_icmp .ne 7, 3) := by decide +kernel
theorem dX11_bedOf_212 : decode cX11_bedOf 212 = .ok (.iconst (-1), 1) := by decide +kernel
theorem dX11_bedOf_213 : decode cX11_bedOf 213 = .ok (.goto 28, 3) := by decide +kernel
theorem dX11_bedOf_216 : decode cX11_bedOf 216 = .ok (.aload_n 0, 1) := by decide +kernel
theorem dX11_bedOf_217 : decode cX11_bedOf 217 = .ok (.getfield 83, 3) := by decide +kernel
theorem dX11_bedOf_220 : decode cX11_bedOf 220 = .ok (.aload_n 0, 1) := by decide +kernel
theorem dX11_bedOf_221 : decode cX11_bedOf 221 = .ok (.getfield 35, 3) := by decide +kernel
theorem dX11_bedOf_224 : decode cX11_bedOf 224 = .ok (.iload_n 1, 1) := by decide +kernel
theorem dX11_bedOf_225 : decode cX11_bedOf 225 = .ok (.iaload, 1) := by decide +kernel
theorem dX11_bedOf_226 : decode cX11_bedOf 226 = .ok (.iaload, 1) := by decide +kernel
theorem dX11_bedOf_227 : decode cX11_bedOf 227 = .ok (.aload_n 0, 1) := by decide +kernel
theorem dX11_bedOf_228 : decode cX11_bedOf 228 = .ok (.bipush 14, 2) := by decide +kernel
theorem dX11_bedOf_230 : decode cX11_bedOf 230 = .ok (.iconst 2, 1) := by decide +kernel
theorem dX11_bedOf_231 : decode cX11_bedOf 231 = .ok (.iload_n 3, 1) := by decide +kernel
theorem dX11_bedOf_232 : decode cX11_bedOf 232 = .ok (.imul, 1) := by decide +kernel
theorem dX11_bedOf_233 : decode cX11_bedOf 233 = .ok (.iadd, 1) := by decide +kernel
theorem dX11_bedOf_234 : decode cX11_bedOf 234 = .ok (.invokevirtual 209, 3) := by decide +kernel
theorem dX11_bedOf_237 : decode cX11_bedOf 237 = .ok (.imul, 1) := by decide +kernel
theorem dX11_bedOf_238 : decode cX11_bedOf 238 = .ok (.bipush 100, 2) := by decide +kernel
theorem dX11_bedOf_240 : decode cX11_bedOf 240 = .ok (.idiv, 1) := by decide +kernel
theorem dX11_bedOf_241 : decode cX11_bedOf 241 = .ok (.ireturn, 1) := by decide +kernel
theorem dX11_bedOf_242 : decode cX11_bedOf 242 = .ok (.iconst (-1), 1) := by decide +kernel
theorem dX11_bedOf_243 : decode cX11_bedOf 243 = .ok (.ireturn, 1) := by decide +kernel
theorem dX11_roofOf_0 : decode cX11_roofOf 0 = .ok (.iload_n 1, 1) := by decide +kernel
theorem dX11_roofOf_1 : decode cX11_roofOf 1 = .ok (.iconst 0, 1) := by decide +kernel
theorem dX11_roofOf_2 : decode cX11_roofOf 2 = .ok (.aload_n 0, 1) := by decide +kernel
theorem dX11_roofOf_3 : decode cX11_roofOf 3 = .ok (.getfield 202, 3) := by decide +kernel
theorem dX11_roofOf_6 : decode cX11_roofOf 6 = .ok (.iconst 1, 1) := by decide +kernel
theorem dX11_roofOf_7 : decode cX11_roofOf 7 = .ok (.isub, 1) := by decide +kernel
theorem dX11_roofOf_8 : decode cX11_roofOf 8 = .ok (.invokestatic 194, 3) := by decide +kernel
theorem dX11_roofOf_11 : decode cX11_roofOf 11 = .ok (.ifCond .ne 5, 3) := by decide +kernel
theorem dX11_roofOf_14 : decode cX11_roofOf 14 = .ok (.iconst (-1), 1) := by decide +kernel
theorem dX11_roofOf_15 : decode cX11_roofOf 15 = .ok (.ireturn, 1) := by decide +kernel
theorem dX11_roofOf_16 : decode cX11_roofOf 16 = .ok (.iload_n 2, 1) := by decide +kernel
theorem dX11_roofOf_17 : decode cX11_roofOf 17 = .ok (.tableswitch 112 0 5 #[39, 46, 53, 60, 67, 74], 39) := by decide +kernel
theorem dX11_roofOf_56 : decode cX11_roofOf 56 = .ok (.aload_n 0, 1) := by decide +kernel
theorem dX11_roofOf_57 : decode cX11_roofOf 57 = .ok (.getfield 65, 3) := by decide +kernel
theorem dX11_roofOf_60 : decode cX11_roofOf 60 = .ok (.iload_n 1, 1) := by decide +kernel
theorem dX11_roofOf_61 : decode cX11_roofOf 61 = .ok (.iaload, 1) := by decide +kernel
theorem dX11_roofOf_62 : decode cX11_roofOf 62 = .ok (.ireturn, 1) := by decide +kernel
theorem dX11_roofOf_63 : decode cX11_roofOf 63 = .ok (.aload_n 0, 1) := by decide +kernel
theorem dX11_roofOf_64 : decode cX11_roofOf 64 = .ok (.getfield 68, 3) := by decide +kernel
theorem dX11_roofOf_67 : decode cX11_roofOf 67 = .ok (.iload_n 1, 1) := by decide +kernel
theorem dX11_roofOf_68 : decode cX11_roofOf 68 = .ok (.iaload, 1) := by decide +kernel
theorem dX11_roofOf_69 : decode cX11_roofOf 69 = .ok (.ireturn, 1) := by decide +kernel
theorem dX11_roofOf_70 : decode cX11_roofOf 70 = .ok (.aload_n 0, 1) := by decide +kernel
theorem dX11_roofOf_71 : decode cX11_roofOf 71 = .ok (.getfield 71, 3) := by decide +kernel
theorem dX11_roofOf_74 : decode cX11_roofOf 74 = .ok (.iload_n 1, 1) := by decide +kernel
theorem dX11_roofOf_75 : decode cX11_roofOf 75 = .ok (.iaload, 1) := by decide +kernel
theorem dX11_roofOf_76 : decode cX11_roofOf 76 = .ok (.ireturn, 1) := by decide +kernel
theorem dX11_roofOf_77 : decode cX11_roofOf 77 = .ok (.aload_n 0, 1) := by decide +kernel
theorem dX11_roofOf_78 : decode cX11_roofOf 78 = .ok (.getfield 74, 3) := by decide +kernel
theorem dX11_roofOf_81 : decode cX11_roofOf 81 = .ok (.iload_n 1, 1) := by decide +kernel
theorem dX11_roofOf_82 : decode cX11_roofOf 82 = .ok (.iaload, 1) := by decide +kernel
theorem dX11_roofOf_83 : decode cX11_roofOf 83 = .ok (.ireturn, 1) := by decide +kernel
theorem dX11_roofOf_84 : decode cX11_roofOf 84 = .ok (.aload_n 0, 1) := by decide +kernel
theorem dX11_roofOf_85 : decode cX11_roofOf 85 = .ok (.getfield 77, 3) := by decide +kernel
theorem dX11_roofOf_88 : decode cX11_roofOf 88 = .ok (.iload_n 1, 1) := by decide +kernel
theorem dX11_roofOf_89 : decode cX11_roofOf 89 = .ok (.iaload, 1) := by decide +kernel
theorem dX11_roofOf_90 : decode cX11_roofOf 90 = .ok (.ireturn, 1) := by decide +kernel
theorem dX11_roofOf_91 : decode cX11_roofOf 91 = .ok (.iconst (-1), 1) := by decide +kernel
theorem dX11_roofOf_92 : decode cX11_roofOf 92 = .ok (.istore_n 3, 1) := by decide +kernel
theorem dX11_roofOf_93 : decode cX11_roofOf 93 = .ok (.iconst 0, 1) := by decide +kernel
theorem dX11_roofOf_94 : decode cX11_roofOf 94 = .ok (.istore 4, 2) := by decide +kernel
theorem dX11_roofOf_96 : decode cX11_roofOf 96 = .ok (.iload 4, 2) := by decide +kernel
theorem dX11_roofOf_98 : decode cX11_roofOf 98 = .ok (.bipush 10, 2) := by decide +kernel
theorem dX11_roofOf_100 : decode cX11_roofOf 100 = .ok (.if_icmp .ge 27, 3) := by decide +kernel
theorem dX11_roofOf_103 : decode cX11_roofOf 103 = .ok (.aload_n 0, 1) := by decide +kernel
theorem dX11_roofOf_104 : decode cX11_roofOf 104 = .ok (.getfield 80, 3) := by decide +kernel
theorem dX11_roofOf_107 : decode cX11_roofOf 107 = .ok (.iload_n 1, 1) := by decide +kernel
theorem dX11_roofOf_108 : decode cX11_roofOf 108 = .ok (.iaload, 1) := by decide +kernel
theorem dX11_roofOf_109 : decode cX11_roofOf 109 = .ok (.iload 4, 2) := by decide +kernel
theorem dX11_roofOf_111 : decode cX11_roofOf 111 = .ok (.ishr, 1) := by decide +kernel
theorem dX11_roofOf_112 : decode cX11_roofOf 112 = .ok (.iconst 1, 1) := by decide +kernel
theorem dX11_roofOf_113 : decode cX11_roofOf 113 = .ok (.iand, 1) := by decide +kernel
theorem dX11_roofOf_114 : decode cX11_roofOf 114 = .ok (.iconst 1, 1) := by decide +kernel
theorem dX11_roofOf_115 : decode cX11_roofOf 115 = .ok (.if_icmp .ne 6, 3) := by decide +kernel
theorem dX11_roofOf_118 : decode cX11_roofOf 118 = .ok (.iload 4, 2) := by decide +kernel
theorem dX11_roofOf_120 : decode cX11_roofOf 120 = .ok (.istore_n 3, 1) := by decide +kernel
theorem dX11_roofOf_121 : decode cX11_roofOf 121 = .ok (.iinc 4 1, 3) := by decide +kernel
theorem dX11_roofOf_124 : decode cX11_roofOf 124 = .ok (.goto (-28), 3) := by decide +kernel
theorem dX11_roofOf_127 : decode cX11_roofOf 127 = .ok (.iload_n 3, 1) := by decide +kernel
theorem dX11_roofOf_128 : decode cX11_roofOf 128 = .ok (.ireturn, 1) := by decide +kernel
theorem dX11_roofOf_129 : decode cX11_roofOf 129 = .ok (.iconst (-1), 1) := by decide +kernel
theorem dX11_roofOf_130 : decode cX11_roofOf 130 = .ok (.ireturn, 1) := by decide +kernel
theorem dX11_prove_0 : decode cX11_prove 0 = .ok (.iload_n 1, 1) := by decide +kernel
theorem dX11_prove_1 : decode cX11_prove 1 = .ok (.iconst 0, 1) := by decide +kernel
theorem dX11_prove_2 : decode cX11_prove 2 = .ok (.aload_n 0, 1) := by decide +kernel
theorem dX11_prove_3 : decode cX11_prove 3 = .ok (.getfield 202, 3) := by decide +kernel
theorem dX11_prove_6 : decode cX11_prove 6 = .ok (.iconst 1, 1) := by decide +kernel
theorem dX11_prove_7 : decode cX11_prove 7 = .ok (.isub, 1) := by decide +kernel
theorem dX11_prove_8 : decode cX11_prove 8 = .ok (.invokestatic 194, 3) := by decide +kernel
theorem dX11_prove_11 : decode cX11_prove 11 = .ok (.ifCond .eq 12, 3) := by decide +kernel
theorem dX11_prove_14 : decode cX11_prove 14 = .ok (.aload_n 0, 1) := by decide +kernel
theorem dX11_prove_15 : decode cX11_prove 15 = .ok (.getfield 74, 3) := by decide +kernel
theorem dX11_prove_18 : decode cX11_prove 18 = .ok (.iload_n 1, 1) := by decide +kernel
theorem dX11_prove_19 : decode cX11_prove 19 = .ok (.iaload, 1) := by decide +kernel
theorem dX11_prove_20 : decode cX11_prove 20 = .ok (.ifCond .ne 5, 3) := by decide +kernel
theorem dX11_prove_23 : decode cX11_prove 23 = .ok (.iconst 0, 1) := by decide +kernel
theorem dX11_prove_24 : decode cX11_prove 24 = .ok (.ireturn, 1) := by decide +kernel
theorem dX11_prove_25 : decode cX11_prove 25 = .ok (.aload_n 0, 1) := by decide +kernel
theorem dX11_prove_26 : decode cX11_prove 26 = .ok (.getfield 80, 3) := by decide +kernel
theorem dX11_prove_29 : decode cX11_prove 29 = .ok (.iload_n 1, 1) := by decide +kernel
theorem dX11_prove_30 : decode cX11_prove 30 = .ok (.dup2, 1) := by decide +kernel
theorem dX11_prove_31 : decode cX11_prove 31 = .ok (.iaload, 1) := by decide +kernel
theorem dX11_prove_32 : decode cX11_prove 32 = .ok (.iconst 1, 1) := by decide +kernel
theorem dX11_prove_33 : decode cX11_prove 33 = .ok (.aload_n 0, 1) := by decide +kernel
theorem dX11_prove_34 : decode cX11_prove 34 = .ok (.getfield 212, 3) := by decide +kernel
theorem dX11_prove_37 : decode cX11_prove 37 = .ok (.sipush 365, 3) := by decide +kernel
theorem dX11_prove_40 : decode cX11_prove 40 = .ok (.idiv, 1) := by decide +kernel
theorem dX11_prove_41 : decode cX11_prove 41 = .ok (.ishl, 1) := by decide +kernel
theorem dX11_prove_42 : decode cX11_prove 42 = .ok (.ior, 1) := by decide +kernel
theorem dX11_prove_43 : decode cX11_prove 43 = .ok (.iastore, 1) := by decide +kernel
theorem dX11_prove_44 : decode cX11_prove 44 = .ok (.iconst 1, 1) := by decide +kernel
theorem dX11_prove_45 : decode cX11_prove 45 = .ok (.ireturn, 1) := by decide +kernel
theorem dX11_stormOf_0 : decode cX11_stormOf 0 = .ok (.iload_n 1, 1) := by decide +kernel
theorem dX11_stormOf_1 : decode cX11_stormOf 1 = .ok (.iconst 0, 1) := by decide +kernel
theorem dX11_stormOf_2 : decode cX11_stormOf 2 = .ok (.aload_n 0, 1) := by decide +kernel
theorem dX11_stormOf_3 : decode cX11_stormOf 3 = .ok (.getfield 295, 3) := by decide +kernel
theorem dX11_stormOf_6 : decode cX11_stormOf 6 = .ok (.iconst 1, 1) := by decide +kernel
theorem dX11_stormOf_7 : decode cX11_stormOf 7 = .ok (.isub, 1) := by decide +kernel
theorem dX11_stormOf_8 : decode cX11_stormOf 8 = .ok (.invokestatic 194, 3) := by decide +kernel
theorem dX11_stormOf_11 : decode cX11_stormOf 11 = .ok (.ifCond .ne 7, 3) := by decide +kernel
theorem dX11_stormOf_14 : decode cX11_stormOf 14 = .ok (.ldc2_w 313, 3) := by decide +kernel
theorem dX11_stormOf_17 : decode cX11_stormOf 17 = .ok (.lreturn, 1) := by decide +kernel
theorem dX11_stormOf_18 : decode cX11_stormOf 18 = .ok (.iload_n 2, 1) := by decide +kernel
theorem dX11_stormOf_19 : decode cX11_stormOf 19 = .ok (.tableswitch 70 0 4 #[33, 41, 48, 55, 63], 33) := by decide +kernel
theorem dX11_stormOf_52 : decode cX11_stormOf 52 = .ok (.aload_n 0, 1) := by decide +kernel
theorem dX11_stormOf_53 : decode cX11_stormOf 53 = .ok (.getfield 132, 3) := by decide +kernel
theorem dX11_stormOf_56 : decode cX11_stormOf 56 = .ok (.iload_n 1, 1) := by decide +kernel
theorem dX11_stormOf_57 : decode cX11_stormOf 57 = .ok (.iaload, 1) := by decide +kernel
theorem dX11_stormOf_58 : decode cX11_stormOf 58 = .ok (.i2l, 1) := by decide +kernel
theorem dX11_stormOf_59 : decode cX11_stormOf 59 = .ok (.lreturn, 1) := by decide +kernel
theorem dX11_stormOf_60 : decode cX11_stormOf 60 = .ok (.aload_n 0, 1) := by decide +kernel
theorem dX11_stormOf_61 : decode cX11_stormOf 61 = .ok (.getfield 117, 3) := by decide +kernel
theorem dX11_stormOf_64 : decode cX11_stormOf 64 = .ok (.iload_n 1, 1) := by decide +kernel
theorem dX11_stormOf_65 : decode cX11_stormOf 65 = .ok (.laload, 1) := by decide +kernel
theorem dX11_stormOf_66 : decode cX11_stormOf 66 = .ok (.lreturn, 1) := by decide +kernel
theorem dX11_stormOf_67 : decode cX11_stormOf 67 = .ok (.aload_n 0, 1) := by decide +kernel
theorem dX11_stormOf_68 : decode cX11_stormOf 68 = .ok (.getfield 120, 3) := by decide +kernel
theorem dX11_stormOf_71 : decode cX11_stormOf 71 = .ok (.iload_n 1, 1) := by decide +kernel
theorem dX11_stormOf_72 : decode cX11_stormOf 72 = .ok (.laload, 1) := by decide +kernel
theorem dX11_stormOf_73 : decode cX11_stormOf 73 = .ok (.lreturn, 1) := by decide +kernel
theorem dX11_stormOf_74 : decode cX11_stormOf 74 = .ok (.aload_n 0, 1) := by decide +kernel
theorem dX11_stormOf_75 : decode cX11_stormOf 75 = .ok (.getfield 135, 3) := by decide +kernel
theorem dX11_stormOf_78 : decode cX11_stormOf 78 = .ok (.iload_n 1, 1) := by decide +kernel
theorem dX11_stormOf_79 : decode cX11_stormOf 79 = .ok (.iaload, 1) := by decide +kernel
theorem dX11_stormOf_80 : decode cX11_stormOf 80 = .ok (.i2l, 1) := by decide +kernel
theorem dX11_stormOf_81 : decode cX11_stormOf 81 = .ok (.lreturn, 1) := by decide +kernel
theorem dX11_stormOf_82 : decode cX11_stormOf 82 = .ok (.aload_n 0, 1) := by decide +kernel
theorem dX11_stormOf_83 : decode cX11_stormOf 83 = .ok (.getfield 123, 3) := by decide +kernel
theorem dX11_stormOf_86 : decode cX11_stormOf 86 = .ok (.iload_n 1, 1) := by decide +kernel
theorem dX11_stormOf_87 : decode cX11_stormOf 87 = .ok (.laload, 1) := by decide +kernel
theorem dX11_stormOf_88 : decode cX11_stormOf 88 = .ok (.lreturn, 1) := by decide +kernel
theorem dX11_stormOf_89 : decode cX11_stormOf 89 = .ok (.ldc2_w 313, 3) := by decide +kernel
theorem dX11_stormOf_92 : decode cX11_stormOf 92 = .ok (.lreturn, 1) := by decide +kernel
theorem dX11_like_0 : decode cX11_like 0 = .ok (.iconst (-1), 1) := by decide +kernel
theorem dX11_like_1 : decode cX11_like 1 = .ok (.istore_n 3, 1) := by decide +kernel
theorem dX11_like_2 : decode cX11_like 2 = .ok (.lconst 0, 1) := by decide +kernel
theorem dX11_like_3 : decode cX11_like 3 = .ok (.lstore 4, 2) := by decide +kernel
theorem dX11_like_5 : decode cX11_like 5 = .ok (.iconst 0, 1) := by decide +kernel
theorem dX11_like_6 : decode cX11_like 6 = .ok (.istore 6, 2) := by decide +kernel
theorem dX11_like_8 : decode cX11_like 8 = .ok (.iload 6, 2) := by decide +kernel
theorem dX11_like_10 : decode cX11_like 10 = .ok (.aload_n 0, 1) := by decide +kernel
theorem dX11_like_11 : decode cX11_like 11 = .ok (.getfield 295, 3) := by decide +kernel
theorem dX11_like_14 : decode cX11_like 14 = .ok (.if_icmp .ge 86, 3) := by decide +kernel
theorem dX11_like_17 : decode cX11_like 17 = .ok (.aload_n 0, 1) := by decide +kernel
theorem dX11_like_18 : decode cX11_like 18 = .ok (.getfield 117, 3) := by decide +kernel
theorem dX11_like_21 : decode cX11_like 21 = .ok (.iload 6, 2) := by decide +kernel
theorem dX11_like_23 : decode cX11_like 23 = .ok (.laload, 1) := by decide +kernel
theorem dX11_like_24 : decode cX11_like 24 = .ok (.aload_n 0, 1) := by decide +kernel
theorem dX11_like_25 : decode cX11_like 25 = .ok (.getfield 117, 3) := by decide +kernel
theorem dX11_like_28 : decode cX11_like 28 = .ok (.iload_n 1, 1) := by decide +kernel
theorem dX11_like_29 : decode cX11_like 29 = .ok (.laload, 1) := by decide +kernel
theorem dX11_like_30 : decode cX11_like 30 = .ok (.lsub, 1) := by decide +kernel
theorem dX11_like_31 : decode cX11_like 31 = .ok (.invokestatic 323, 3) := by decide +kernel
theorem dX11_like_34 : decode cX11_like 34 = .ok (.lstore 7, 2) := by decide +kernel
theorem dX11_like_36 : decode cX11_like 36 = .ok (.aload_n 0, 1) := by decide +kernel
theorem dX11_like_37 : decode cX11_like 37 = .ok (.getfield 132, 3) := by decide +kernel
theorem dX11_like_40 : decode cX11_like 40 = .ok (.iload 6, 2) := by decide +kernel
theorem dX11_like_42 : decode cX11_like 42 = .ok (.iaload, 1) := by decide +kernel
theorem dX11_like_43 : decode cX11_like 43 = .ok (.iload_n 2, 1) := by decide +kernel
theorem dX11_like_44 : decode cX11_like 44 = .ok (.if_icmp .ge 50, 3) := by decide +kernel
theorem dX11_like_47 : decode cX11_like 47 = .ok (.lload 7, 2) := by decide +kernel
theorem dX11_like_49 : decode cX11_like 49 = .ok (.ldc2_w 327, 3) := by decide +kernel
theorem dX11_like_52 : decode cX11_like 52 = .ok (.lmul, 1) := by decide +kernel
theorem dX11_like_53 : decode cX11_like 53 = .ok (.aload_n 0, 1) := by decide +kernel
theorem dX11_like_54 : decode cX11_like 54 = .ok (.bipush 12, 2) := by decide +kernel
theorem dX11_like_56 : decode cX11_like 56 = .ok (.invokevirtual 209, 3) := by decide +kernel
theorem dX11_like_59 : decode cX11_like 59 = .ok (.i2l, 1) := by decide +kernel
theorem dX11_like_60 : decode cX11_like 60 = .ok (.aload_n 0, 1) := by decide +kernel
theorem dX11_like_61 : decode cX11_like 61 = .ok (.getfield 117, 3) := by decide +kernel
theorem dX11_like_64 : decode cX11_like 64 = .ok (.iload_n 1, 1) := by decide +kernel
theorem dX11_like_65 : decode cX11_like 65 = .ok (.laload, 1) := by decide +kernel
theorem dX11_like_66 : decode cX11_like 66 = .ok (.lmul, 1) := by decide +kernel
theorem dX11_like_67 : decode cX11_like 67 = .ok (.lcmp, 1) := by decide +kernel
theorem dX11_like_68 : decode cX11_like 68 = .ok (.ifCond .gt 26, 3) := by decide +kernel
theorem dX11_like_71 : decode cX11_like 71 = .ok (.iload_n 3, 1) := by decide +kernel
theorem dX11_like_72 : decode cX11_like 72 = .ok (.iconst (-1), 1) := by decide +kernel
theorem dX11_like_73 : decode cX11_like 73 = .ok (.if_icmp .eq 14, 3) := by decide +kernel
theorem dX11_like_76 : decode cX11_like 76 = .ok (.lload 7, 2) := by decide +kernel
theorem dX11_like_78 : decode cX11_like 78 = .ok (.lload 4, 2) := by decide +kernel
theorem dX11_like_80 : decode cX11_like 80 = .ok (.lcmp, 1) := by decide +kernel
theorem dX11_like_81 : decode cX11_like 81 = .ok (.ifCond .le 6, 3) := by decide +kernel
theorem dX11_like_84 : decode cX11_like 84 = .ok (.goto 10, 3) := by decide +kernel
theorem dX11_like_87 : decode cX11_like 87 = .ok (.iload 6, 2) := by decide +kernel
theorem dX11_like_89 : decode cX11_like 89 = .ok (.istore_n 3, 1) := by decide +kernel
theorem dX11_like_90 : decode cX11_like 90 = .ok (.lload 7, 2) := by decide +kernel
theorem dX11_like_92 : decode cX11_like 92 = .ok (.lstore 4, 2) := by decide +kernel
theorem dX11_like_94 : decode cX11_like 94 = .ok (.iinc 6 1, 3) := by decide +kernel
theorem dX11_like_97 : decode cX11_like 97 = .ok (.goto (-89), 3) := by decide +kernel
theorem dX11_like_100 : decode cX11_like 100 = .ok (.iload_n 3, 1) := by decide +kernel
theorem dX11_like_101 : decode cX11_like 101 = .ok (.ireturn, 1) := by decide +kernel
theorem dX11_compare_0 : decode cX11_compare 0 = .ok (.iload_n 1, 1) := by decide +kernel
theorem dX11_compare_1 : decode cX11_compare 1 = .ok (.iconst 0, 1) := by decide +kernel
theorem dX11_compare_2 : decode cX11_compare 2 = .ok (.sipush 3649, 3) := by decide +kernel
theorem dX11_compare_5 : decode cX11_compare 5 = .ok (.invokestatic 194, 3) := by decide +kernel
theorem dX11_compare_8 : decode cX11_compare 8 = .ok (.ifCond .eq 12, 3) := by decide +kernel
theorem dX11_compare_11 : decode cX11_compare 11 = .ok (.iload_n 2, 1) := by decide +kernel
theorem dX11_compare_12 : decode cX11_compare 12 = .ok (.iconst 0, 1) := by decide +kernel
theorem dX11_compare_13 : decode cX11_compare 13 = .ok (.iconst 3, 1) := by decide +kernel
theorem dX11_compare_14 : decode cX11_compare 14 = .ok (.invokestatic 194, 3) := by decide +kernel
theorem dX11_compare_17 : decode cX11_compare 17 = .ok (.ifCond .ne 7, 3) := by decide +kernel
theorem dX11_compare_20 : decode cX11_compare 20 = .ok (.ldc2_w 313, 3) := by decide +kernel
theorem dX11_compare_23 : decode cX11_compare 23 = .ok (.lreturn, 1) := by decide +kernel
theorem dX11_compare_24 : decode cX11_compare 24 = .ok (.iconst 0, 1) := by decide +kernel
theorem dX11_compare_25 : decode cX11_compare 25 = .ok (.istore_n 3, 1) := by decide +kernel
theorem dX11_compare_26 : decode cX11_compare 26 = .ok (.lconst 0, 1) := by decide +kernel
theorem dX11_compare_27 : decode cX11_compare 27 = .ok (.lstore 4, 2) := by decide +kernel
theorem dX11_compare_29 : decode cX11_compare 29 = .ok (.lconst 0, 1) := by decide +kernel
theorem dX11_compare_30 : decode cX11_compare 30 = .ok (.lstore 6, 2) := by decide +kernel
theorem dX11_compare_32 : decode cX11_compare 32 = .ok (.iconst 0, 1) := by decide +kernel
theorem dX11_compare_33 : decode cX11_compare 33 = .ok (.istore 8, 2) := by decide +kernel
theorem dX11_compare_35 : decode cX11_compare 35 = .ok (.iload 8, 2) := by decide +kernel
theorem dX11_compare_37 : decode cX11_compare 37 = .ok (.aload_n 0, 1) := by decide +kernel
theorem dX11_compare_38 : decode cX11_compare 38 = .ok (.getfield 295, 3) := by decide +kernel
theorem dX11_compare_41 : decode cX11_compare 41 = .ok (.if_icmp .ge 69, 3) := by decide +kernel
theorem dX11_compare_44 : decode cX11_compare 44 = .ok (.aload_n 0, 1) := by decide +kernel
theorem dX11_compare_45 : decode cX11_compare 45 = .ok (.getfield 132, 3) := by decide +kernel
theorem dX11_compare_48 : decode cX11_compare 48 = .ok (.iload 8, 2) := by decide +kernel
theorem dX11_compare_50 : decode cX11_compare 50 = .ok (.iaload, 1) := by decide +kernel
theorem dX11_compare_51 : decode cX11_compare 51 = .ok (.iload_n 1, 1) := by decide +kernel
theorem dX11_compare_52 : decode cX11_compare 52 = .ok (.if_icmp .ge 7, 3) := by decide +kernel
theorem dX11_compare_55 : decode cX11_compare 55 = .ok (.iconst (-1), 1) := by decide +kernel
theorem dX11_compare_56 : decode cX11_compare 56 = .ok (.goto 10, 3) := by decide +kernel
theorem dX11_compare_59 : decode cX11_compare 59 = .ok (.aload_n 0, 1) := by decide +kernel
theorem dX11_compare_60 : decode cX11_compare 60 = .ok (.iload 8, 2) := by decide +kernel
theorem dX11_compare_62 : decode cX11_compare 62 = .ok (.iload_n 1, 1) := by decide +kernel
theorem dX11_compare_63 : decode cX11_compare 63 = .ok (.invokevirtual 329, 3) := by decide +kernel
theorem dX11_compare_66 : decode cX11_compare 66 = .ok (.istore 9, 2) := by decide +kernel
theorem dX11_compare_68 : decode cX11_compare 68 = .ok (.iload 9, 2) := by decide +kernel
theorem dX11_compare_70 : decode cX11_compare 70 = .ok (.iconst (-1), 1) := by decide +kernel
theorem dX11_compare_71 : decode cX11_compare 71 = .ok (.if_icmp .ne 6, 3) := by decide +kernel
theorem dX11_compare_74 : decode cX11_compare 74 = .ok (.goto 30, 3) := by decide +kernel
theorem dX11_compare_77 : decode cX11_compare 77 = .ok (.iinc 3 1, 3) := by decide +kernel
theorem dX11_compare_80 : decode cX11_compare 80 = .ok (.lload 4, 2) := by decide +kernel
theorem dX11_compare_82 : decode cX11_compare 82 = .ok (.aload_n 0, 1) := by decide +kernel
theorem dX11_compare_83 : decode cX11_compare 83 = .ok (.getfield 120, 3) := by decide +kernel
theorem dX11_compare_86 : decode cX11_compare 86 = .ok (.iload 9, 2) := by decide +kernel
theorem dX11_compare_88 : decode cX11_compare 88 = .ok (.laload, 1) := by decide +kernel
theorem dX11_compare_89 : decode cX11_compare 89 = .ok (.ladd, 1) := by decide +kernel
theorem dX11_compare_90 : decode cX11_compare 90 = .ok (.lstore 4, 2) := by decide +kernel
theorem dX11_compare_92 : decode cX11_compare 92 = .ok (.lload 6, 2) := by decide +kernel
theorem dX11_compare_94 : decode cX11_compare 94 = .ok (.aload_n 0, 1) := by decide +kernel
theorem dX11_compare_95 : decode cX11_compare 95 = .ok (.getfield 120, 3) := by decide +kernel
theorem dX11_compare_98 : decode cX11_compare 98 = .ok (.iload 8, 2) := by decide +kernel
theorem dX11_compare_100 : decode cX11_compare 100 = .ok (.laload, 1) := by decide +kernel
theorem dX11_compare_101 : decode cX11_compare 101 = .ok (.ladd, 1) := by decide +kernel
theorem dX11_compare_102 : decode cX11_compare 102 = .ok (.lstore 6, 2) := by decide +kernel
theorem dX11_compare_104 : decode cX11_compare 104 = .ok (.iinc 8 1, 3) := by decide +kernel
theorem dX11_compare_107 : decode cX11_compare 107 = .ok (.goto (-72), 3) := by decide +kernel
theorem dX11_compare_110 : decode cX11_compare 110 = .ok (.iload_n 2, 1) := by decide +kernel
theorem dX11_compare_111 : decode cX11_compare 111 = .ok (.ifCond .ne 8, 3) := by decide +kernel
theorem dX11_compare_114 : decode cX11_compare 114 = .ok (.iload_n 3, 1) := by decide +kernel
theorem dX11_compare_115 : decode cX11_compare 115 = .ok (.i2l, 1) := by decide +kernel
theorem dX11_compare_116 : decode cX11_compare 116 = .ok (.goto 55, 3) := by decide +kernel
theorem dX11_compare_119 : decode cX11_compare 119 = .ok (.iload_n 2, 1) := by decide +kernel
theorem dX11_compare_120 : decode cX11_compare 120 = .ok (.iconst 1, 1) := by decide +kernel
theorem dX11_compare_121 : decode cX11_compare 121 = .ok (.if_icmp .ne 8, 3) := by decide +kernel
theorem dX11_compare_124 : decode cX11_compare 124 = .ok (.lload 4, 2) := by decide +kernel
theorem dX11_compare_126 : decode cX11_compare 126 = .ok (.goto 45, 3) := by decide +kernel
theorem dX11_compare_129 : decode cX11_compare 129 = .ok (.iload_n 2, 1) := by decide +kernel
theorem dX11_compare_130 : decode cX11_compare 130 = .ok (.iconst 2, 1) := by decide +kernel
theorem dX11_compare_131 : decode cX11_compare 131 = .ok (.if_icmp .ne 8, 3) := by decide +kernel
theorem dX11_compare_134 : decode cX11_compare 134 = .ok (.lload 6, 2) := by decide +kernel
theorem dX11_compare_136 : decode cX11_compare 136 = .ok (.goto 35, 3) := by decide +kernel
theorem dX11_compare_139 : decode cX11_compare 139 = .ok (.lload 4, 2) := by decide +kernel
theorem dX11_compare_141 : decode cX11_compare 141 = .ok (.lload 6, 2) := by decide +kernel
theorem dX11_compare_143 : decode cX11_compare 143 = .ok (.lsub, 1) := by decide +kernel
theorem dX11_compare_144 : decode cX11_compare 144 = .ok (.ldc2_w 327, 3) := by decide +kernel
theorem dX11_compare_147 : decode cX11_compare 147 = .ok (.lmul, 1) := by decide +kernel
theorem dX11_compare_148 : decode cX11_compare 148 = .ok (.aload_n 0, 1) := by decide +kernel
theorem dX11_compare_149 : decode cX11_compare 149 = .ok (.bipush 12, 2) := by decide +kernel
theorem dX11_compare_151 : decode cX11_compare 151 = .ok (.invokevirtual 209, 3) := by decide +kernel
theorem dX11_compare_154 : decode cX11_compare 154 = .ok (.i2l, 1) := by decide +kernel
theorem dX11_compare_155 : decode cX11_compare 155 = .ok (.lload 4, 2) := by decide +kernel
theorem dX11_compare_157 : decode cX11_compare 157 = .ok (.lmul, 1) := by decide +kernel
theorem dX11_compare_158 : decode cX11_compare 158 = .ok (.lcmp, 1) := by decide +kernel
theorem dX11_compare_159 : decode cX11_compare 159 = .ok (.ifCond .le 7, 3) := by decide +kernel
theorem dX11_compare_162 : decode cX11_compare 162 = .ok (.iconst 1, 1) := by decide +kernel
theorem dX11_compare_163 : decode cX11_compare 163 = .ok (.goto 4, 3) := by decide +kernel
theorem dX11_compare_166 : decode cX11_compare 166 = .ok (.iconst 0, 1) := by decide +kernel
theorem dX11_compare_167 : decode cX11_compare 167 = .ok (.invokestatic 319, 3) := by decide +kernel
theorem dX11_compare_170 : decode cX11_compare 170 = .ok (.i2l, 1) := by decide +kernel
theorem dX11_compare_171 : decode cX11_compare 171 = .ok (.lreturn, 1) := by decide +kernel
theorem dX11_crew_0 : decode cX11_crew 0 = .ok (.iload_n 1, 1) := by decide +kernel
theorem dX11_crew_1 : decode cX11_crew 1 = .ok (.iconst 0, 1) := by decide +kernel
theorem dX11_crew_2 : decode cX11_crew 2 = .ok (.bipush 60, 2) := by decide +kernel
theorem dX11_crew_4 : decode cX11_crew 4 = .ok (.invokestatic 194, 3) := by decide +kernel
theorem dX11_crew_7 : decode cX11_crew 7 = .ok (.ifCond .eq 12, 3) := by decide +kernel
theorem dX11_crew_10 : decode cX11_crew 10 = .ok (.iload_n 2, 1) := by decide +kernel
theorem dX11_crew_11 : decode cX11_crew 11 = .ok (.iconst 0, 1) := by decide +kernel
theorem dX11_crew_12 : decode cX11_crew 12 = .ok (.iconst 2, 1) := by decide +kernel
theorem dX11_crew_13 : decode cX11_crew 13 = .ok (.invokestatic 194, 3) := by decide +kernel
theorem dX11_crew_16 : decode cX11_crew 16 = .ok (.ifCond .ne 5, 3) := by decide +kernel
theorem dX11_crew_19 : decode cX11_crew 19 = .ok (.iconst (-1), 1) := by decide +kernel
theorem dX11_crew_20 : decode cX11_crew 20 = .ok (.ireturn, 1) := by decide +kernel
theorem dX11_crew_21 : decode cX11_crew 21 = .ok (.iconst 0, 1) := by decide +kernel
theorem dX11_crew_22 : decode cX11_crew 22 = .ok (.istore_n 3, 1) := by decide +kernel
theorem dX11_crew_23 : decode cX11_crew 23 = .ok (.iconst 0, 1) := by decide +kernel
theorem dX11_crew_24 : decode cX11_crew 24 = .ok (.istore 4, 2) := by decide +kernel
theorem dX11_crew_26 : decode cX11_crew 26 = .ok (.iconst 0, 1) := by decide +kernel
theorem dX11_crew_27 : decode cX11_crew 27 = .ok (.istore 5, 2) := by decide +kernel
theorem dX11_crew_29 : decode cX11_crew 29 = .ok (.iconst 1, 1) := by decide +kernel
theorem dX11_crew_30 : decode cX11_crew 30 = .ok (.istore 6, 2) := by decide +kernel
theorem dX11_crew_32 : decode cX11_crew 32 = .ok (.iload 6, 2) := by decide +kernel
theorem dX11_crew_34 : decode cX11_crew 34 = .ok (.iconst 1, 1) := by decide +kernel
theorem dX11_crew_35 : decode cX11_crew 35 = .ok (.aload_n 0, 1) := by decide +kernel
theorem dX11_crew_36 : decode cX11_crew 36 = .ok (.getfield 191, 3) := by decide +kernel
theorem dX11_crew_39 : decode cX11_crew 39 = .ok (.ishl, 1) := by decide +kernel
theorem dX11_crew_40 : decode cX11_crew 40 = .ok (.if_icmp .ge 168, 3) := by decide +kernel
theorem dX11_crew_43 : decode cX11_crew 43 = .ok (.iconst 0, 1) := by decide +kernel
theorem dX11_crew_44 : decode cX11_crew 44 = .ok (.istore 7, 2) := by decide +kernel
theorem dX11_crew_46 : decode cX11_crew 46 = .ok (.iconst 0, 1) := by decide +kernel
theorem dX11_crew_47 : decode cX11_crew 47 = .ok (.istore 8, 2) := by decide +kernel
theorem dX11_crew_49 : decode cX11_crew 49 = .ok (.iconst 1, 1) := by decide +kernel
theorem dX11_crew_50 : decode cX11_crew 50 = .ok (.istore 9, 2) := by decide +kernel
theorem dX11_crew_52 : decode cX11_crew 52 = .ok (.iconst 0, 1) := by decide +kernel
theorem dX11_crew_53 : decode cX11_crew 53 = .ok (.istore 10, 2) := by decide +kernel
theorem dX11_crew_55 : decode cX11_crew 55 = .ok (.iload 10, 2) := by decide +kernel
theorem dX11_crew_57 : decode cX11_crew 57 = .ok (.aload_n 0, 1) := by decide +kernel
theorem dX11_crew_58 : decode cX11_crew 58 = .ok (.getfield 191, 3) := by decide +kernel
theorem dX11_crew_61 : decode cX11_crew 61 = .ok (.if_icmp .ge 93, 3) := by decide +kernel
theorem dX11_crew_64 : decode cX11_crew 64 = .ok (.iload 6, 2) := by decide +kernel
theorem dX11_crew_66 : decode cX11_crew 66 = .ok (.iload 10, 2) := by decide +kernel
theorem dX11_crew_68 : decode cX11_crew 68 = .ok (.ishr, 1) := by decide +kernel
theorem dX11_crew_69 : decode cX11_crew 69 = .ok (.iconst 1, 1) := by decide +kernel
theorem dX11_crew_70 : decode cX11_crew 70 = .ok (.iand, 1) := by decide +kernel
theorem dX11_crew_71 : decode cX11_crew 71 = .ok (.ifCond .ne 6, 3) := by decide +kernel
theorem dX11_crew_74 : decode cX11_crew 74 = .ok (.goto 74, 3) := by decide +kernel
theorem dX11_crew_77 : decode cX11_crew 77 = .ok (.iload 9, 2) := by decide +kernel
theorem dX11_crew_79 : decode cX11_crew 79 = .ok (.ifCond .eq 17, 3) := by decide +kernel
theorem dX11_crew_82 : decode cX11_crew 82 = .ok (.aload_n 0, 1) := by decide +kernel
theorem dX11_crew_83 : decode cX11_crew 83 = .ok (.getfield 25, 3) := by decide +kernel
theorem dX11_crew_86 : decode cX11_crew 86 = .ok (.iload 10, 2) := by decide +kernel
theorem dX11_crew_88 : decode cX11_crew 88 = .ok (.baload, 1) := by decide +kernel
theorem dX11_crew_89 : decode cX11_crew 89 = .ok (.ifCond .eq 7, 3) := by decide +kernel
theorem dX11_crew_92 : decode cX11_crew 92 = .ok (.iconst 1, 1) := by decide +kernel
theorem dX11_crew_93 : decode cX11_crew 93 = .ok (.goto 4, 3) := by decide +kernel
theorem dX11_crew_96 : decode cX11_crew 96 = .ok (.iconst 0, 1) := by decide +kernel
theorem dX11_crew_97 : decode cX11_crew 97 = .ok (.istore 9, 2) := by decide +kernel
theorem dX11_crew_99 : decode cX11_crew 99 = .ok (.aload_n 0, 1) := by decide +kernel
theorem dX11_crew_100 : decode cX11_crew 100 = .ok (.getfield 25, 3) := by decide +kernel
theorem dX11_crew_103 : decode cX11_crew 103 = .ok (.iload 10, 2) := by decide +kernel
theorem dX11_crew_105 : decode cX11_crew 105 = .ok (.baload, 1) := by decide +kernel
theorem dX11_crew_106 : decode cX11_crew 106 = .ok (.ifCond .ne 6, 3) := by decide +kernel
theorem dX11_crew_109 : decode cX11_crew 109 = .ok (.goto 39, 3) := by decide +kernel
theorem dX11_crew_112 : decode cX11_crew 112 = .ok (.iload 10, 2) := by decide +kernel
theorem dX11_crew_114 : decode cX11_crew 114 = .ok (.istore 8, 2) := by decide +kernel
theorem dX11_crew_116 : decode cX11_crew 116 = .ok (.iload 7, 2) := by decide +kernel
theorem dX11_crew_118 : decode cX11_crew 118 = .ok (.aload_n 0, 1) := by decide +kernel
theorem dX11_crew_119 : decode cX11_crew 119 = .ok (.iload 10, 2) := by decide +kernel
theorem dX11_crew_121 : decode cX11_crew 121 = .ok (.iconst 0, 1) := by decide +kernel
theorem dX11_crew_122 : decode cX11_crew 122 = .ok (.aload_n 0, 1) := by decide +kernel
theorem dX11_crew_123 : decode cX11_crew 123 = .ok (.getfield 44, 3) := by decide +kernel
theorem dX11_crew_126 : decode cX11_crew 126 = .ok (.iload 10, 2) := by decide +kernel
theorem dX11_crew_128 : decode cX11_crew 128 = .ok (.iaload, 1) := by decide +kernel
theorem dX11_crew_129 : decode cX11_crew 129 = .ok (.bipush 30, 2) := by decide +kernel
theorem dX11_crew_131 : decode cX11_crew 131 = .ok (.isub, 1) := by decide +kernel
theorem dX11_crew_132 : decode cX11_crew 132 = .ok (.invokestatic 222, 3) := by decide +kernel
theorem dX11_crew_135 : decode cX11_crew 135 = .ok (.invokevirtual 215, 3) := by decide +kernel
theorem dX11_crew_138 : decode cX11_crew 138 = .ok (.aload_n 0, 1) := by decide +kernel
theorem dX11_crew_139 : decode cX11_crew 139 = .ok (.iload 10, 2) := by decide +kernel
theorem dX11_crew_141 : decode cX11_crew 141 = .ok (.invokevirtual 230, 3) := by decide +kernel
theorem dX11_crew_144 : decode cX11_crew 144 = .ok (.isub, 1) := by decide +kernel
theorem dX11_crew_145 : decode cX11_crew 145 = .ok (.iadd, 1) := by decide +kernel
theorem dX11_crew_146 : decode cX11_crew 146 = .ok (.istore 7, 2) := by decide +kernel
theorem dX11_crew_148 : decode cX11_crew 148 = .ok (.iinc 10 1, 3) := by decide +kernel
theorem dX11_crew_151 : decode cX11_crew 151 = .ok (.goto (-96), 3) := by decide +kernel
theorem dX11_crew_154 : decode cX11_crew 154 = .ok (.iload 9, 2) := by decide +kernel
theorem dX11_crew_156 : decode cX11_crew 156 = .ok (.ifCond .eq 46, 3) := by decide +kernel
theorem dX11_crew_159 : decode cX11_crew 159 = .ok (.iload 8, 2) := by decide +kernel
theorem dX11_crew_161 : decode cX11_crew 161 = .ok (.iconst 2, 1) := by decide +kernel
theorem dX11_crew_162 : decode cX11_crew 162 = .ok (.iload 6, 2) := by decide +kernel
theorem dX11_crew_164 : decode cX11_crew 164 = .ok (.invokestatic 316, 3) := by decide +kernel
theorem dX11_crew_167 : decode cX11_crew 167 = .ok (.imul, 1) := by decide +kernel
theorem dX11_crew_168 : decode cX11_crew 168 = .ok (.iadd, 1) := by decide +kernel
theorem dX11_crew_169 : decode cX11_crew 169 = .ok (.iload_n 1, 1) := by decide +kernel
theorem dX11_crew_170 : decode cX11_crew 170 = .ok (.if_icmp .gt 32, 3) := by decide +kernel
theorem dX11_crew_173 : decode cX11_crew 173 = .ok (.iload 7, 2) := by decide +kernel
theorem dX11_crew_175 : decode cX11_crew 175 = .ok (.iload 4, 2) := by decide +kernel
theorem dX11_crew_177 : decode cX11_crew 177 = .ok (.if_icmp .gt 6, 3) := by decide +kernel
theorem dX11_crew_180 : decode cX11_crew 180 = .ok (.goto 22, 3) := by decide +kernel
theorem dX11_crew_183 : decode cX11_crew 183 = .ok (.iload 6, 2) := by decide +kernel
theorem dX11_crew_185 : decode cX11_crew 185 = .ok (.istore_n 3, 1) := by decide +kernel
theorem dX11_crew_186 : decode cX11_crew 186 = .ok (.iload 7, 2) := by decide +kernel
theorem dX11_crew_188 : decode cX11_crew 188 = .ok (.istore 4, 2) := by decide +kernel
theorem dX11_crew_190 : decode cX11_crew 190 = .ok (.iload 8, 2) := by decide +kernel
theorem dX11_crew_192 : decode cX11_crew 192 = .ok (.iconst 2, 1) := by decide +kernel
theorem dX11_crew_193 : decode cX11_crew 193 = .ok (.iload 6, 2) := by decide +kernel
theorem dX11_crew_195 : decode cX11_crew 195 = .ok (.invokestatic 316, 3) := by decide +kernel
theorem dX11_crew_198 : decode cX11_crew 198 = .ok (.imul, 1) := by decide +kernel
theorem dX11_crew_199 : decode cX11_crew 199 = .ok (.iadd, 1) := by decide +kernel
theorem dX11_crew_200 : decode cX11_crew 200 = .ok (.istore 5, 2) := by decide +kernel
theorem dX11_crew_202 : decode cX11_crew 202 = .ok (.iinc 6 1, 3) := by decide +kernel
theorem dX11_crew_205 : decode cX11_crew 205 = .ok (.goto (-173), 3) := by decide +kernel
theorem dX11_crew_208 : decode cX11_crew 208 = .ok (.iload_n 2, 1) := by decide +kernel
theorem dX11_crew_209 : decode cX11_crew 209 = .ok (.ifCond .ne 8, 3) := by decide +kernel
theorem dX11_crew_212 : decode cX11_crew 212 = .ok (.iload 4, 2) := by decide +kernel
theorem dX11_crew_214 : decode cX11_crew 214 = .ok (.goto 14, 3) := by decide +kernel
theorem dX11_crew_217 : decode cX11_crew 217 = .ok (.iload_n 2, 1) := by decide +kernel
theorem dX11_crew_218 : decode cX11_crew 218 = .ok (.iconst 1, 1) := by decide +kernel
theorem dX11_crew_219 : decode cX11_crew 219 = .ok (.if_icmp .ne 7, 3) := by decide +kernel
theorem dX11_crew_222 : decode cX11_crew 222 = .ok (.iload_n 3, 1) := by decide +kernel
theorem dX11_crew_223 : decode cX11_crew 223 = .ok (.goto 5, 3) := by decide +kernel
theorem dX11_crew_226 : decode cX11_crew 226 = .ok (.iload 5, 2) := by decide +kernel
theorem dX11_crew_228 : decode cX11_crew 228 = .ok (.ireturn, 1) := by decide +kernel
theorem dX11_neighbour_0 : decode cX11_neighbour 0 = .ok (.iload_n 1, 1) := by decide +kernel
theorem dX11_neighbour_1 : decode cX11_neighbour 1 = .ok (.iconst 0, 1) := by decide +kernel
theorem dX11_neighbour_2 : decode cX11_neighbour 2 = .ok (.bipush 9, 2) := by decide +kernel
theorem dX11_neighbour_4 : decode cX11_neighbour 4 = .ok (.invokestatic 194, 3) := by decide +kernel
theorem dX11_neighbour_7 : decode cX11_neighbour 7 = .ok (.ifCond .eq 12, 3) := by decide +kernel
theorem dX11_neighbour_10 : decode cX11_neighbour 10 = .ok (.iload_n 2, 1) := by decide +kernel
theorem dX11_neighbour_11 : decode cX11_neighbour 11 = .ok (.iconst 0, 1) := by decide +kernel
theorem dX11_neighbour_12 : decode cX11_neighbour 12 = .ok (.iconst 1, 1) := by decide +kernel
theorem dX11_neighbour_13 : decode cX11_neighbour 13 = .ok (.invokestatic 194, 3) := by decide +kernel
theorem dX11_neighbour_16 : decode cX11_neighbour 16 = .ok (.ifCond .ne 5, 3) := by decide +kernel
theorem dX11_neighbour_19 : decode cX11_neighbour 19 = .ok (.iconst (-1), 1) := by decide +kernel
theorem dX11_neighbour_20 : decode cX11_neighbour 20 = .ok (.ireturn, 1) := by decide +kernel
theorem dX11_neighbour_21 : decode cX11_neighbour 21 = .ok (.iconst 0, 1) := by decide +kernel
theorem dX11_neighbour_22 : decode cX11_neighbour 22 = .ok (.istore_n 3, 1) := by decide +kernel
theorem dX11_neighbour_23 : decode cX11_neighbour 23 = .ok (.iconst 0, 1) := by decide +kernel
theorem dX11_neighbour_24 : decode cX11_neighbour 24 = .ok (.istore 4, 2) := by decide +kernel
theorem dX11_neighbour_26 : decode cX11_neighbour 26 = .ok (.iload 4, 2) := by decide +kernel
theorem dX11_neighbour_28 : decode cX11_neighbour 28 = .ok (.bipush 10, 2) := by decide +kernel
theorem dX11_neighbour_30 : decode cX11_neighbour 30 = .ok (.if_icmp .ge 24, 3) := by decide +kernel
theorem dX11_neighbour_33 : decode cX11_neighbour 33 = .ok (.iload_n 3, 1) := by decide +kernel
theorem dX11_neighbour_34 : decode cX11_neighbour 34 = .ok (.aload_n 0, 1) := by decide +kernel
theorem dX11_neighbour_35 : decode cX11_neighbour 35 = .ok (.getfield 92, 3) := by decide +kernel
theorem dX11_neighbour_38 : decode cX11_neighbour 38 = .ok (.bipush 10, 2) := by decide +kernel
theorem dX11_neighbour_40 : decode cX11_neighbour 40 = .ok (.iload 4, 2) := by decide +kernel
theorem dX11_neighbour_42 : decode cX11_neighbour 42 = .ok (.imul, 1) := by decide +kernel
theorem dX11_neighbour_43 : decode cX11_neighbour 43 = .ok (.iload_n 1, 1) := by decide +kernel
theorem dX11_neighbour_44 : decode cX11_neighbour 44 = .ok (.iadd, 1) := by decide +kernel
theorem dX11_neighbour_45 : decode cX11_neighbour 45 = .ok (.iaload, 1) := by decide +kernel
theorem dX11_neighbour_46 : decode cX11_neighbour 46 = .ok (.iadd, 1) := by decide +kernel
theorem dX11_neighbour_47 : decode cX11_neighbour 47 = .ok (.istore_n 3, 1) := by decide +kernel
theorem dX11_neighbour_48 : decode cX11_neighbour 48 = .ok (.iinc 4 1, 3) := by decide +kernel
theorem dX11_neighbour_51 : decode cX11_neighbour 51 = .ok (.goto (-25), 3) := by decide +kernel
theorem dX11_neighbour_54 : decode cX11_neighbour 54 = .ok (.iload_n 2, 1) := by decide +kernel
theorem dX11_neighbour_55 : decode cX11_neighbour 55 = .ok (.ifCond .ne 12, 3) := by decide +kernel
theorem dX11_neighbour_58 : decode cX11_neighbour 58 = .ok (.aload_n 0, 1) := by decide +kernel
theorem dX11_neighbour_59 : decode cX11_neighbour 59 = .ok (.getfield 89, 3) := by decide +kernel
theorem dX11_neighbour_62 : decode cX11_neighbour 62 = .ok (.iload_n 1, 1) := by decide +kernel
theorem dX11_neighbour_63 : decode cX11_neighbour 63 = .ok (.iaload, 1) := by decide +kernel
theorem dX11_neighbour_64 : decode cX11_neighbour 64 = .ok (.goto 4, 3) := by decide +kernel
theorem dX11_neighbour_67 : decode cX11_neighbour 67 = .ok (.iload_n 3, 1) := by decide +kernel
theorem dX11_neighbour_68 : decode cX11_neighbour 68 = .ok (.ireturn, 1) := by decide +kernel
theorem dX11_fee_0 : decode cX11_fee 0 = .ok (.iload_n 1, 1) := by decide +kernel
theorem dX11_fee_1 : decode cX11_fee 1 = .ok (.iconst 0, 1) := by decide +kernel
theorem dX11_fee_2 : decode cX11_fee 2 = .ok (.bipush 19, 2) := by decide +kernel
theorem dX11_fee_4 : decode cX11_fee 4 = .ok (.invokestatic 194, 3) := by decide +kernel
theorem dX11_fee_7 : decode cX11_fee 7 = .ok (.ifCond .eq 13, 3) := by decide +kernel
theorem dX11_fee_10 : decode cX11_fee 10 = .ok (.iload_n 2, 1) := by decide +kernel
theorem dX11_fee_11 : decode cX11_fee 11 = .ok (.iconst 0, 1) := by decide +kernel
theorem dX11_fee_12 : decode cX11_fee 12 = .ok (.bipush 9, 2) := by decide +kernel
theorem dX11_fee_14 : decode cX11_fee 14 = .ok (.invokestatic 194, 3) := by decide +kernel
theorem dX11_fee_17 : decode cX11_fee 17 = .ok (.ifCond .ne 5, 3) := by decide +kernel
theorem dX11_fee_20 : decode cX11_fee 20 = .ok (.iconst (-1), 1) := by decide +kernel
theorem dX11_fee_21 : decode cX11_fee 21 = .ok (.ireturn, 1) := by decide +kernel
theorem dX11_fee_22 : decode cX11_fee 22 = .ok (.sipush 365, 3) := by decide +kernel
theorem dX11_fee_25 : decode cX11_fee 25 = .ok (.iload_n 2, 1) := by decide +kernel
theorem dX11_fee_26 : decode cX11_fee 26 = .ok (.imul, 1) := by decide +kernel
theorem dX11_fee_27 : decode cX11_fee 27 = .ok (.sipush 365, 3) := by decide +kernel
theorem dX11_fee_30 : decode cX11_fee 30 = .ok (.iadd, 1) := by decide +kernel
theorem dX11_fee_31 : decode cX11_fee 31 = .ok (.iconst 1, 1) := by decide +kernel
theorem dX11_fee_32 : decode cX11_fee 32 = .ok (.isub, 1) := by decide +kernel
theorem dX11_fee_33 : decode cX11_fee 33 = .ok (.istore_n 3, 1) := by decide +kernel
theorem dX11_fee_34 : decode cX11_fee 34 = .ok (.iconst 0, 1) := by decide +kernel
theorem dX11_fee_35 : decode cX11_fee 35 = .ok (.istore 4, 2) := by decide +kernel
theorem dX11_fee_37 : decode cX11_fee 37 = .ok (.iconst 0, 1) := by decide +kernel
theorem dX11_fee_38 : decode cX11_fee 38 = .ok (.istore 5, 2) := by decide +kernel
theorem dX11_fee_40 : decode cX11_fee 40 = .ok (.iload 5, 2) := by decide +kernel
theorem dX11_fee_42 : decode cX11_fee 42 = .ok (.aload_n 0, 1) := by decide +kernel
theorem dX11_fee_43 : decode cX11_fee 43 = .ok (.getfield 202, 3) := by decide +kernel
theorem dX11_fee_46 : decode cX11_fee 46 = .ok (.if_icmp .ge 78, 3) := by decide +kernel
theorem dX11_fee_49 : decode cX11_fee 49 = .ok (.aload_n 0, 1) := by decide +kernel
theorem dX11_fee_50 : decode cX11_fee 50 = .ok (.getfield 68, 3) := by decide +kernel
theorem dX11_fee_53 : decode cX11_fee 53 = .ok (.iload 5, 2) := by decide +kernel
theorem dX11_fee_55 : decode cX11_fee 55 = .ok (.iaload, 1) := by decide +kernel
theorem dX11_fee_56 : decode cX11_fee 56 = .ok (.iload_n 1, 1) := by decide +kernel
theorem dX11_fee_57 : decode cX11_fee 57 = .ok (.if_icmp .eq 6, 3) := by decide +kernel
theorem dX11_fee_60 : decode cX11_fee 60 = .ok (.goto 58, 3) := by decide +kernel
theorem dX11_fee_63 : decode cX11_fee 63 = .ok (.iload 4, 2) := by decide +kernel
theorem dX11_fee_65 : decode cX11_fee 65 = .ok (.aload_n 0, 1) := by decide +kernel
theorem dX11_fee_66 : decode cX11_fee 66 = .ok (.iload_n 3, 1) := by decide +kernel
theorem dX11_fee_67 : decode cX11_fee 67 = .ok (.bipush 7, 2) := by decide +kernel
theorem dX11_fee_69 : decode cX11_fee 69 = .ok (.invokevirtual 332, 3) := by decide +kernel
theorem dX11_fee_72 : decode cX11_fee 72 = .ok (.aload_n 0, 1) := by decide +kernel
theorem dX11_fee_73 : decode cX11_fee 73 = .ok (.getfield 71, 3) := by decide +kernel
theorem dX11_fee_76 : decode cX11_fee 76 = .ok (.iload 5, 2) := by decide +kernel
theorem dX11_fee_78 : decode cX11_fee 78 = .ok (.iaload, 1) := by decide +kernel
theorem dX11_fee_79 : decode cX11_fee 79 = .ok (.imul, 1) := by decide +kernel
theorem dX11_fee_80 : decode cX11_fee 80 = .ok (.aload_n 0, 1) := by decide +kernel
theorem dX11_fee_81 : decode cX11_fee 81 = .ok (.getfield 80, 3) := by decide +kernel
theorem dX11_fee_84 : decode cX11_fee 84 = .ok (.iload 5, 2) := by decide +kernel
theorem dX11_fee_86 : decode cX11_fee 86 = .ok (.iaload, 1) := by decide +kernel
theorem dX11_fee_87 : decode cX11_fee 87 = .ok (.iload_n 2, 1) := by decide +kernel
theorem dX11_fee_88 : decode cX11_fee 88 = .ok (.ishr, 1) := by decide +kernel
theorem dX11_fee_89 : decode cX11_fee 89 = .ok (.iconst 1, 1) := by decide +kernel
theorem dX11_fee_90 : decode cX11_fee 90 = .ok (.iand, 1) := by decide +kernel
theorem dX11_fee_91 : decode cX11_fee 91 = .ok (.iconst 1, 1) := by decide +kernel
theorem dX11_fee_92 : decode cX11_fee 92 = .ok (.if_icmp .ne 21, 3) := by decide +kernel
theorem dX11_fee_95 : decode cX11_fee 95 = .ok (.aload_n 0, 1) := by decide +kernel
theorem dX11_fee_96 : decode cX11_fee 96 = .ok (.iload_n 3, 1) := by decide +kernel
theorem dX11_fee_97 : decode cX11_fee 97 = .ok (.bipush 8, 2) := by decide +kernel
theorem dX11_fee_99 : decode cX11_fee 99 = .ok (.invokevirtual 332, 3) := by decide +kernel
theorem dX11_fee_102 : decode cX11_fee 102 = .ok (.aload_n 0, 1) := by decide +kernel
theorem dX11_fee_103 : decode cX11_fee 103 = .ok (.getfield 74, 3) := by decide +kernel
theorem dX11_fee_106 : decode cX11_fee 106 = .ok (.iload 5, 2) := by decide +kernel
theorem dX11_fee_108 : decode cX11_fee 108 = .ok (.iaload, 1) := by decide +kernel
theorem dX11_fee_109 : decode cX11_fee 109 = .ok (.imul, 1) := by decide +kernel
theorem dX11_fee_110 : decode cX11_fee 110 = .ok (.goto 4, 3) := by decide +kernel
theorem dX11_fee_113 : decode cX11_fee 113 = .ok (.iconst 0, 1) := by decide +kernel
theorem dX11_fee_114 : decode cX11_fee 114 = .ok (.isub, 1) := by decide +kernel
theorem dX11_fee_115 : decode cX11_fee 115 = .ok (.iadd, 1) := by decide +kernel
theorem dX11_fee_116 : decode cX11_fee 116 = .ok (.istore 4, 2) := by decide +kernel
theorem dX11_fee_118 : decode cX11_fee 118 = .ok (.iinc 5 1, 3) := by decide +kernel
theorem dX11_fee_121 : decode cX11_fee 121 = .ok (.goto (-81), 3) := by decide +kernel
theorem dX11_fee_124 : decode cX11_fee 124 = .ok (.iload_n 1, 1) := by decide +kernel
theorem dX11_fee_125 : decode cX11_fee 125 = .ok (.bipush 10, 2) := by decide +kernel
theorem dX11_fee_127 : decode cX11_fee 127 = .ok (.if_icmp .ge 27, 3) := by decide +kernel
theorem dX11_fee_130 : decode cX11_fee 130 = .ok (.iload 4, 2) := by decide +kernel
theorem dX11_fee_132 : decode cX11_fee 132 = .ok (.aload_n 0, 1) := by decide +kernel
theorem dX11_fee_133 : decode cX11_fee 133 = .ok (.iload_n 3, 1) := by decide +kernel
theorem dX11_fee_134 : decode cX11_fee 134 = .ok (.bipush 9, 2) := by decide +kernel
theorem dX11_fee_136 : decode cX11_fee 136 = .ok (.invokevirtual 332, 3) := by decide +kernel
theorem dX11_fee_139 : decode cX11_fee 139 = .ok (.aload_n 0, 1) := by decide +kernel
theorem dX11_fee_140 : decode cX11_fee 140 = .ok (.getfield 92, 3) := by decide +kernel
theorem dX11_fee_143 : decode cX11_fee 143 = .ok (.bipush 10, 2) := by decide +kernel
theorem dX11_fee_145 : decode cX11_fee 145 = .ok (.iload_n 2, 1) := by decide +kernel
theorem dX11_fee_146 : decode cX11_fee 146 = .ok (.imul, 1) := by decide +kernel
theorem dX11_fee_147 : decode cX11_fee 147 = .ok (.iload_n 1, 1) := by decide +kernel
theorem dX11_fee_148 : decode cX11_fee 148 = .ok (.iadd, 1) := by decide +kernel
theorem dX11_fee_149 : decode cX11_fee 149 = .ok (.iaload, 1) := by decide +kernel
theorem dX11_fee_150 : decode cX11_fee 150 = .ok (.imul, 1) := by decide +kernel
theorem dX11_fee_151 : decode cX11_fee 151 = .ok (.isub, 1) := by decide +kernel
theorem dX11_fee_152 : decode cX11_fee 152 = .ok (.istore 4, 2) := by decide +kernel
theorem dX11_fee_154 : decode cX11_fee 154 = .ok (.iconst 0, 1) := by decide +kernel
theorem dX11_fee_155 : decode cX11_fee 155 = .ok (.iload 4, 2) := by decide +kernel
theorem dX11_fee_157 : decode cX11_fee 157 = .ok (.invokestatic 222, 3) := by decide +kernel
theorem dX11_fee_160 : decode cX11_fee 160 = .ok (.ireturn, 1) := by decide +kernel
theorem dX11_look_0 : decode cX11_look 0 = .ok (.aload_n 0, 1) := by decide +kernel
theorem dX11_look_1 : decode cX11_look 1 = .ok (.iload_n 1, 1) := by decide +kernel
theorem dX11_look_2 : decode cX11_look 2 = .ok (.invokevirtual 219, 3) := by decide +kernel
theorem dX11_look_5 : decode cX11_look 5 = .ok (.ifCond .eq 12, 3) := by decide +kernel
theorem dX11_look_8 : decode cX11_look 8 = .ok (.iload_n 2, 1) := by decide +kernel
theorem dX11_look_9 : decode cX11_look 9 = .ok (.iconst 0, 1) := by decide +kernel
theorem dX11_look_10 : decode cX11_look 10 = .ok (.iconst 3, 1) := by decide +kernel
theorem dX11_look_11 : decode cX11_look 11 = .ok (.invokestatic 194, 3) := by decide +kernel
theorem dX11_look_14 : decode cX11_look 14 = .ok (.ifCond .ne 5, 3) := by decide +kernel
theorem dX11_look_17 : decode cX11_look 17 = .ok (.iconst (-1), 1) := by decide +kernel
theorem dX11_look_18 : decode cX11_look 18 = .ok (.ireturn, 1) := by decide +kernel
theorem dX11_look_19 : decode cX11_look 19 = .ok (.aload_n 0, 1) := by decide +kernel
theorem dX11_look_20 : decode cX11_look 20 = .ok (.getfield 59, 3) := by decide +kernel
theorem dX11_look_23 : decode cX11_look 23 = .ok (.iload_n 1, 1) := by decide +kernel
theorem dX11_look_24 : decode cX11_look 24 = .ok (.iload_n 2, 1) := by decide +kernel
theorem dX11_look_25 : decode cX11_look 25 = .ok (.iastore, 1) := by decide +kernel
theorem dX11_look_26 : decode cX11_look 26 = .ok (.aload_n 0, 1) := by decide +kernel
theorem dX11_look_27 : decode cX11_look 27 = .ok (.dup, 1) := by decide +kernel
theorem dX11_look_28 : decode cX11_look 28 = .ok (.getfield 335, 3) := by decide +kernel
theorem dX11_look_31 : decode cX11_look 31 = .ok (.iconst 1, 1) := by decide +kernel
theorem dX11_look_32 : decode cX11_look 32 = .ok (.iadd, 1) := by decide +kernel
theorem dX11_look_33 : decode cX11_look 33 = .ok (.putfield 335, 3) := by decide +kernel
theorem dX11_look_36 : decode cX11_look 36 = .ok (.aload_n 0, 1) := by decide +kernel
theorem dX11_look_37 : decode cX11_look 37 = .ok (.getfield 335, 3) := by decide +kernel
theorem dX11_look_40 : decode cX11_look 40 = .ok (.ireturn, 1) := by decide +kernel
theorem dX11_worst_0 : decode cX11_worst 0 = .ok (.iconst (-1), 1) := by decide +kernel
theorem dX11_worst_1 : decode cX11_worst 1 = .ok (.istore_n 2, 1) := by decide +kernel
theorem dX11_worst_2 : decode cX11_worst 2 = .ok (.iconst 0, 1) := by decide +kernel
theorem dX11_worst_3 : decode cX11_worst 3 = .ok (.istore_n 3, 1) := by decide +kernel
theorem dX11_worst_4 : decode cX11_worst 4 = .ok (.iconst 0, 1) := by decide +kernel
theorem dX11_worst_5 : decode cX11_worst 5 = .ok (.istore 4, 2) := by decide +kernel
theorem dX11_worst_7 : decode cX11_worst 7 = .ok (.iconst 0, 1) := by decide +kernel
theorem dX11_worst_8 : decode cX11_worst 8 = .ok (.istore 5, 2) := by decide +kernel
theorem dX11_worst_10 : decode cX11_worst 10 = .ok (.iload 5, 2) := by decide +kernel
theorem dX11_worst_12 : decode cX11_worst 12 = .ok (.bipush 10, 2) := by decide +kernel
theorem dX11_worst_14 : decode cX11_worst 14 = .ok (.if_icmp .ge 120, 3) := by decide +kernel
theorem dX11_worst_17 : decode cX11_worst 17 = .ok (.iconst 0, 1) := by decide +kernel
theorem dX11_worst_18 : decode cX11_worst 18 = .ok (.istore 6, 2) := by decide +kernel
theorem dX11_worst_20 : decode cX11_worst 20 = .ok (.iconst 0, 1) := by decide +kernel
theorem dX11_worst_21 : decode cX11_worst 21 = .ok (.istore 7, 2) := by decide +kernel
theorem dX11_worst_23 : decode cX11_worst 23 = .ok (.iconst 0, 1) := by decide +kernel
theorem dX11_worst_24 : decode cX11_worst 24 = .ok (.istore 8, 2) := by decide +kernel
theorem dX11_worst_26 : decode cX11_worst 26 = .ok (.iload 8, 2) := by decide +kernel
theorem dX11_worst_28 : decode cX11_worst 28 = .ok (.aload_n 0, 1) := by decide +kernel
theorem dX11_worst_29 : decode cX11_worst 29 = .ok (.getfield 191, 3) := by decide +kernel
theorem dX11_worst_32 : decode cX11_worst 32 = .ok (.if_icmp .ge 60, 3) := by decide +kernel
theorem dX11_worst_35 : decode cX11_worst 35 = .ok (.aload_n 0, 1) := by decide +kernel
theorem dX11_worst_36 : decode cX11_worst 36 = .ok (.getfield 25, 3) := by decide +kernel
theorem dX11_worst_39 : decode cX11_worst 39 = .ok (.iload 8, 2) := by decide +kernel
theorem dX11_worst_41 : decode cX11_worst 41 = .ok (.baload, 1) := by decide +kernel
theorem dX11_worst_42 : decode cX11_worst 42 = .ok (.ifCond .eq 44, 3) := by decide +kernel
theorem dX11_worst_45 : decode cX11_worst 45 = .ok (.aload_n 0, 1) := by decide +kernel
theorem dX11_worst_46 : decode cX11_worst 46 = .ok (.getfield 35, 3) := by decide +kernel
theorem dX11_worst_49 : decode cX11_worst 49 = .ok (.iload 8, 2) := by decide +kernel
theorem dX11_worst_51 : decode cX11_worst 51 = .ok (.iaload, 1) := by decide +kernel
theorem dX11_worst_52 : decode cX11_worst 52 = .ok (.iload 5, 2) := by decide +kernel
theorem dX11_worst_54 : decode cX11_worst 54 = .ok (.if_icmp .ne 32, 3) := by decide +kernel
theorem dX11_worst_57 : decode cX11_worst 57 = .ok (.aload_n 0, 1) := by decide +kernel
theorem dX11_worst_58 : decode cX11_worst 58 = .ok (.getfield 59, 3) := by decide +kernel
theorem dX11_worst_61 : decode cX11_worst 61 = .ok (.iload 8, 2) := by decide +kernel
theorem dX11_worst_63 : decode cX11_worst 63 = .ok (.iaload, 1) := by decide +kernel
theorem dX11_worst_64 : decode cX11_worst 64 = .ok (.iconst (-1), 1) := by decide +kernel
theorem dX11_worst_65 : decode cX11_worst 65 = .ok (.if_icmp .ne 6, 3) := by decide +kernel
theorem dX11_worst_68 : decode cX11_worst 68 = .ok (.goto 18, 3) := by decide +kernel
theorem dX11_worst_71 : decode cX11_worst 71 = .ok (.iload 6, 2) := by decide +kernel
theorem dX11_worst_73 : decode cX11_worst 73 = .ok (.aload_n 0, 1) := by decide +kernel
theorem dX11_worst_74 : decode cX11_worst 74 = .ok (.getfield 59, 3) := by decide +kernel
theorem dX11_worst_77 : decode cX11_worst 77 = .ok (.iload 8, 2) := by decide +kernel
theorem dX11_worst_79 : decode cX11_worst 79 = .ok (.iaload, 1) := by decide +kernel
theorem dX11_worst_80 : decode cX11_worst 80 = .ok (.iadd, 1) := by decide +kernel
theorem dX11_worst_81 : decode cX11_worst 81 = .ok (.istore 6, 2) := by decide +kernel
theorem dX11_worst_83 : decode cX11_worst 83 = .ok (.iinc 7 1, 3) := by decide +kernel
theorem dX11_worst_86 : decode cX11_worst 86 = .ok (.iinc 8 1, 3) := by decide +kernel
theorem dX11_worst_89 : decode cX11_worst 89 = .ok (.goto (-63), 3) := by decide +kernel
theorem dX11_worst_92 : decode cX11_worst 92 = .ok (.iload 7, 2) := by decide +kernel
theorem dX11_worst_94 : decode cX11_worst 94 = .ok (.iconst 2, 1) := by decide +kernel
theorem dX11_worst_95 : decode cX11_worst 95 = .ok (.if_icmp .lt 33, 3) := by decide +kernel
theorem dX11_worst_98 : decode cX11_worst 98 = .ok (.iload_n 2, 1) := by decide +kernel
theorem dX11_worst_99 : decode cX11_worst 99 = .ok (.iconst (-1), 1) := by decide +kernel
theorem dX11_worst_100 : decode cX11_worst 100 = .ok (.if_icmp .eq 18, 3) := by decide +kernel
theorem dX11_worst_103 : decode cX11_worst 103 = .ok (.iload 6, 2) := by decide +kernel
theorem dX11_worst_105 : decode cX11_worst 105 = .ok (.iload 4, 2) := by decide +kernel
theorem dX11_worst_107 : decode cX11_worst 107 = .ok (.imul, 1) := by decide +kernel
theorem dX11_worst_108 : decode cX11_worst 108 = .ok (.iload_n 3, 1) := by decide +kernel
theorem dX11_worst_109 : decode cX11_worst 109 = .ok (.iload 7, 2) := by decide +kernel
theorem dX11_worst_111 : decode cX11_worst 111 = .ok (.imul, 1) := by decide +kernel
theorem dX11_worst_112 : decode cX11_worst 112 = .ok (.if_icmp .gt 6, 3) := by decide +kernel
theorem dX11_worst_115 : decode cX11_worst 115 = .ok (.goto 13, 3) := by decide +kernel
theorem dX11_worst_118 : decode cX11_worst 118 = .ok (.iload 5, 2) := by decide +kernel
theorem dX11_worst_120 : decode cX11_worst 120 = .ok (.istore_n 2, 1) := by decide +kernel
theorem dX11_worst_121 : decode cX11_worst 121 = .ok (.iload 6, 2) := by decide +kernel
theorem dX11_worst_123 : decode cX11_worst 123 = .ok (.istore_n 3, 1) := by decide +kernel
theorem dX11_worst_124 : decode cX11_worst 124 = .ok (.iload 7, 2) := by decide +kernel
theorem dX11_worst_126 : decode cX11_worst 126 = .ok (.istore 4, 2) := by decide +kernel
theorem dX11_worst_128 : decode cX11_worst 128 = .ok (.iinc 5 1, 3) := by decide +kernel
theorem dX11_worst_131 : decode cX11_worst 131 = .ok (.goto (-121), 3) := by decide +kernel
theorem dX11_worst_134 : decode cX11_worst 134 = .ok (.iload_n 2, 1) := by decide +kernel
theorem dX11_worst_135 : decode cX11_worst 135 = .ok (.iconst (-1), 1) := by decide +kernel
theorem dX11_worst_136 : decode cX11_worst 136 = .ok (.if_icmp .ne 7, 3) := by decide +kernel
theorem dX11_worst_139 : decode cX11_worst 139 = .ok (.iconst (-1), 1) := by decide +kernel
theorem dX11_worst_140 : decode cX11_worst 140 = .ok (.goto 31, 3) := by decide +kernel
theorem dX11_worst_143 : decode cX11_worst 143 = .ok (.iload_n 1, 1) := by decide +kernel
theorem dX11_worst_144 : decode cX11_worst 144 = .ok (.ifCond .ne 7, 3) := by decide +kernel
theorem dX11_worst_147 : decode cX11_worst 147 = .ok (.iload_n 2, 1) := by decide +kernel
theorem dX11_worst_148 : decode cX11_worst 148 = .ok (.goto 23, 3) := by decide +kernel
theorem dX11_worst_151 : decode cX11_worst 151 = .ok (.iload_n 1, 1) := by decide +kernel
theorem dX11_worst_152 : decode cX11_worst 152 = .ok (.iconst 1, 1) := by decide +kernel
theorem dX11_worst_153 : decode cX11_worst 153 = .ok (.if_icmp .ne 7, 3) := by decide +kernel
theorem dX11_worst_156 : decode cX11_worst 156 = .ok (.iload_n 3, 1) := by decide +kernel
theorem dX11_worst_157 : decode cX11_worst 157 = .ok (.goto 14, 3) := by decide +kernel
theorem dX11_worst_160 : decode cX11_worst 160 = .ok (.iload_n 1, 1) := by decide +kernel
theorem dX11_worst_161 : decode cX11_worst 161 = .ok (.iconst 2, 1) := by decide +kernel
theorem dX11_worst_162 : decode cX11_worst 162 = .ok (.if_icmp .ne 8, 3) := by decide +kernel
theorem dX11_worst_165 : decode cX11_worst 165 = .ok (.iload 4, 2) := by decide +kernel
theorem dX11_worst_167 : decode cX11_worst 167 = .ok (.goto 4, 3) := by decide +kernel
theorem dX11_worst_170 : decode cX11_worst 170 = .ok (.iconst (-1), 1) := by decide +kernel
theorem dX11_worst_171 : decode cX11_worst 171 = .ok (.ireturn, 1) := by decide +kernel
theorem dX11_complain_0 : decode cX11_complain 0 = .ok (.aload_n 0, 1) := by decide +kernel
theorem dX11_complain_1 : decode cX11_complain 1 = .ok (.iload_n 1, 1) := by decide +kernel
theorem dX11_complain_2 : decode cX11_complain 2 = .ok (.invokevirtual 198, 3) := by decide +kernel
theorem dX11_complain_5 : decode cX11_complain 5 = .ok (.ifCond .eq 12, 3) := by decide +kernel
theorem dX11_complain_8 : decode cX11_complain 8 = .ok (.iload_n 2, 1) := by decide +kernel
theorem dX11_complain_9 : decode cX11_complain 9 = .ok (.iconst 0, 1) := by decide +kernel
theorem dX11_complain_10 : decode cX11_complain 10 = .ok (.iconst 3, 1) := by decide +kernel
theorem dX11_complain_11 : decode cX11_complain 11 = .ok (.invokestatic 194, 3) := by decide +kernel
theorem dX11_complain_14 : decode cX11_complain 14 = .ok (.ifCond .ne 5, 3) := by decide +kernel
theorem dX11_complain_17 : decode cX11_complain 17 = .ok (.iconst (-1), 1) := by decide +kernel
theorem dX11_complain_18 : decode cX11_complain 18 = .ok (.ireturn, 1) := by decide +kernel
theorem dX11_complain_19 : decode cX11_complain 19 = .ok (.aload_n 0, 1) := by decide +kernel
theorem dX11_complain_20 : decode cX11_complain 20 = .ok (.getfield 338, 3) := by decide +kernel
theorem dX11_complain_23 : decode cX11_complain 23 = .ok (.iconst 1, 1) := by decide +kernel
theorem dX11_complain_24 : decode cX11_complain 24 = .ok (.isub, 1) := by decide +kernel
theorem dX11_complain_25 : decode cX11_complain 25 = .ok (.istore_n 3, 1) := by decide +kernel
theorem dX11_complain_26 : decode cX11_complain 26 = .ok (.iload_n 3, 1) := by decide +kernel
theorem dX11_complain_27 : decode cX11_complain 27 = .ok (.ifCond .lt 79, 3) := by decide +kernel
theorem dX11_complain_30 : decode cX11_complain 30 = .ok (.aload_n 0, 1) := by decide +kernel
theorem dX11_complain_31 : decode cX11_complain 31 = .ok (.getfield 156, 3) := by decide +kernel
theorem dX11_complain_34 : decode cX11_complain 34 = .ok (.iload_n 3, 1) := by decide +kernel
theorem dX11_complain_35 : decode cX11_complain 35 = .ok (.baload, 1) := by decide +kernel
theorem dX11_complain_36 : decode cX11_complain 36 = .ok (.ifCond .eq 64, 3) := by decide +kernel
theorem dX11_complain_39 : decode cX11_complain 39 = .ok (.aload_n 0, 1) := by decide +kernel
theorem dX11_complain_40 : decode cX11_complain 40 = .ok (.getfield 141, 3) := by decide +kernel
theorem dX11_complain_43 : decode cX11_complain 43 = .ok (.iload_n 3, 1) := by decide +kernel
theorem dX11_complain_44 : decode cX11_complain 44 = .ok (.iaload, 1) := by decide +kernel
theorem dX11_complain_45 : decode cX11_complain 45 = .ok (.iload_n 1, 1) := by decide +kernel
theorem dX11_complain_46 : decode cX11_complain 46 = .ok (.if_icmp .ne 54, 3) := by decide +kernel
theorem dX11_complain_49 : decode cX11_complain 49 = .ok (.aload_n 0, 1) := by decide +kernel
theorem dX11_complain_50 : decode cX11_complain 50 = .ok (.getfield 144, 3) := by decide +kernel
theorem dX11_complain_53 : decode cX11_complain 53 = .ok (.iload_n 3, 1) := by decide +kernel
theorem dX11_complain_54 : decode cX11_complain 54 = .ok (.iaload, 1) := by decide +kernel
theorem dX11_complain_55 : decode cX11_complain 55 = .ok (.iload_n 2, 1) := by decide +kernel
theorem dX11_complain_56 : decode cX11_complain 56 = .ok (.if_icmp .ne 44, 3) := by decide +kernel
theorem dX11_complain_59 : decode cX11_complain 59 = .ok (.aload_n 0, 1) := by decide +kernel
theorem dX11_complain_60 : decode cX11_complain 60 = .ok (.getfield 212, 3) := by decide +kernel
theorem dX11_complain_63 : decode cX11_complain 63 = .ok (.aload_n 0, 1) := by decide +kernel
theorem dX11_complain_64 : decode cX11_complain 64 = .ok (.getfield 150, 3) := by decide +kernel
theorem dX11_complain_67 : decode cX11_complain 67 = .ok (.iload_n 3, 1) := by decide +kernel
theorem dX11_complain_68 : decode cX11_complain 68 = .ok (.iaload, 1) := by decide +kernel
theorem dX11_complain_69 : decode cX11_complain 69 = .ok (.isub, 1) := by decide +kernel
theorem dX11_complain_70 : decode cX11_complain 70 = .ok (.bipush 7, 2) := by decide +kernel
theorem dX11_complain_72 : decode cX11_complain 72 = .ok (.if_icmp .le 6, 3) := by decide +kernel
theorem dX11_complain_75 : decode cX11_complain 75 = .ok (.goto 25, 3) := by decide +kernel
theorem dX11_complain_78 : decode cX11_complain 78 = .ok (.aload_n 0, 1) := by decide +kernel
theorem dX11_complain_79 : decode cX11_complain 79 = .ok (.getfield 150, 3) := by decide +kernel
theorem dX11_complain_82 : decode cX11_complain 82 = .ok (.iload_n 3, 1) := by decide +kernel
theorem dX11_complain_83 : decode cX11_complain 83 = .ok (.aload_n 0, 1) := by decide +kernel
theorem dX11_complain_84 : decode cX11_complain 84 = .ok (.getfield 212, 3) := by decide +kernel
theorem dX11_complain_87 : decode cX11_complain 87 = .ok (.iastore, 1) := by decide +kernel
theorem dX11_complain_88 : decode cX11_complain 88 = .ok (.aload_n 0, 1) := by decide +kernel
theorem dX11_complain_89 : decode cX11_complain 89 = .ok (.getfield 153, 3) := by decide +kernel
theorem dX11_complain_92 : decode cX11_complain 92 = .ok (.iload_n 3, 1) := by decide +kernel
theorem dX11_complain_93 : decode cX11_complain 93 = .ok (.dup2, 1) := by decide +kernel
theorem dX11_complain_94 : decode cX11_complain 94 = .ok (.iaload, 1) := by decide +kernel
theorem dX11_complain_95 : decode cX11_complain 95 = .ok (.iconst 1, 1) := by decide +kernel
theorem dX11_complain_96 : decode cX11_complain 96 = .ok (.iadd, 1) := by decide +kernel
theorem dX11_complain_97 : decode cX11_complain 97 = .ok (.iastore, 1) := by decide +kernel
theorem dX11_complain_98 : decode cX11_complain 98 = .ok (.iload_n 3, 1) := by decide +kernel
theorem dX11_complain_99 : decode cX11_complain 99 = .ok (.ireturn, 1) := by decide +kernel
theorem dX11_complain_100 : decode cX11_complain 100 = .ok (.iinc 3 (-1), 3) := by decide +kernel
theorem dX11_complain_103 : decode cX11_complain 103 = .ok (.goto (-77), 3) := by decide +kernel
theorem dX11_complain_106 : decode cX11_complain 106 = .ok (.aload_n 0, 1) := by decide +kernel
theorem dX11_complain_107 : decode cX11_complain 107 = .ok (.getfield 338, 3) := by decide +kernel
theorem dX11_complain_110 : decode cX11_complain 110 = .ok (.bipush 60, 2) := by decide +kernel
theorem dX11_complain_112 : decode cX11_complain 112 = .ok (.if_icmp .ne 5, 3) := by decide +kernel
theorem dX11_complain_115 : decode cX11_complain 115 = .ok (.iconst (-1), 1) := by decide +kernel
theorem dX11_complain_116 : decode cX11_complain 116 = .ok (.ireturn, 1) := by decide +kernel
theorem dX11_complain_117 : decode cX11_complain 117 = .ok (.aload_n 0, 1) := by decide +kernel
theorem dX11_complain_118 : decode cX11_complain 118 = .ok (.getfield 141, 3) := by decide +kernel
theorem dX11_complain_121 : decode cX11_complain 121 = .ok (.aload_n 0, 1) := by decide +kernel
theorem dX11_complain_122 : decode cX11_complain 122 = .ok (.getfield 338, 3) := by decide +kernel
theorem dX11_complain_125 : decode cX11_complain 125 = .ok (.iload_n 1, 1) := by decide +kernel
theorem dX11_complain_126 : decode cX11_complain 126 = .ok (.iastore, 1) := by decide +kernel
theorem dX11_complain_127 : decode cX11_complain 127 = .ok (.aload_n 0, 1) := by decide +kernel
theorem dX11_complain_128 : decode cX11_complain 128 = .ok (.getfield 144, 3) := by decide +kernel
theorem dX11_complain_131 : decode cX11_complain 131 = .ok (.aload_n 0, 1) := by decide +kernel
theorem dX11_complain_132 : decode cX11_complain 132 = .ok (.getfield 338, 3) := by decide +kernel
theorem dX11_complain_135 : decode cX11_complain 135 = .ok (.iload_n 2, 1) := by decide +kernel
theorem dX11_complain_136 : decode cX11_complain 136 = .ok (.iastore, 1) := by decide +kernel
theorem dX11_complain_137 : decode cX11_complain 137 = .ok (.aload_n 0, 1) := by decide +kernel
theorem dX11_complain_138 : decode cX11_complain 138 = .ok (.getfield 147, 3) := by decide +kernel
theorem dX11_complain_141 : decode cX11_complain 141 = .ok (.aload_n 0, 1) := by decide +kernel
theorem dX11_complain_142 : decode cX11_complain 142 = .ok (.getfield 338, 3) := by decide +kernel
theorem dX11_complain_145 : decode cX11_complain 145 = .ok (.aload_n 0, 1) := by decide +kernel
theorem dX11_complain_146 : decode cX11_complain 146 = .ok (.getfield 212, 3) := by decide +kernel
theorem dX11_complain_149 : decode cX11_complain 149 = .ok (.iastore, 1) := by decide +kernel
theorem dX11_complain_150 : decode cX11_complain 150 = .ok (.aload_n 0, 1) := by decide +kernel
theorem dX11_complain_151 : decode cX11_complain 151 = .ok (.getfield 150, 3) := by decide +kernel
theorem dX11_complain_154 : decode cX11_complain 154 = .ok (.aload_n 0, 1) := by decide +kernel
theorem dX11_complain_155 : decode cX11_complain 155 = .ok (.getfield 338, 3) := by decide +kernel
theorem dX11_complain_158 : decode cX11_complain 158 = .ok (.aload_n 0, 1) := by decide +kernel
theorem dX11_complain_159 : decode cX11_complain 159 = .ok (.getfield 212, 3) := by decide +kernel
theorem dX11_complain_162 : decode cX11_complain 162 = .ok (.iastore, 1) := by decide +kernel
theorem dX11_complain_163 : decode cX11_complain 163 = .ok (.aload_n 0, 1) := by decide +kernel
theorem dX11_complain_164 : decode cX11_complain 164 = .ok (.getfield 153, 3) := by decide +kernel
theorem dX11_complain_167 : decode cX11_complain 167 = .ok (.aload_n 0, 1) := by decide +kernel
theorem dX11_complain_168 : decode cX11_complain 168 = .ok (.getfield 338, 3) := by decide +kernel
theorem dX11_complain_171 : decode cX11_complain 171 = .ok (.iconst 1, 1) := by decide +kernel
theorem dX11_complain_172 : decode cX11_complain 172 = .ok (.iastore, 1) := by decide +kernel
theorem dX11_complain_173 : decode cX11_complain 173 = .ok (.aload_n 0, 1) := by decide +kernel
theorem dX11_complain_174 : decode cX11_complain 174 = .ok (.getfield 156, 3) := by decide +kernel
theorem dX11_complain_177 : decode cX11_complain 177 = .ok (.aload_n 0, 1) := by decide +kernel
theorem dX11_complain_178 : decode cX11_complain 178 = .ok (.getfield 338, 3) := by decide +kernel
theorem dX11_complain_181 : decode cX11_complain 181 = .ok (.iconst 1, 1) := by decide +kernel
theorem dX11_complain_182 : decode cX11_complain 182 = .ok (.bastore, 1) := by decide +kernel
theorem dX11_complain_183 : decode cX11_complain 183 = .ok (.aload_n 0, 1) := by decide +kernel
theorem dX11_complain_184 : decode cX11_complain 184 = .ok (.dup, 1) := by decide +kernel
theorem dX11_complain_185 : decode cX11_complain 185 = .ok (.getfield 338, 3) := by decide +kernel
theorem dX11_complain_188 : decode cX11_complain 188 = .ok (.iconst 1, 1) := by decide +kernel
theorem dX11_complain_189 : decode cX11_complain 189 = .ok (.iadd, 1) := by decide +kernel
theorem dX11_complain_190 : decode cX11_complain 190 = .ok (.putfield 338, 3) := by decide +kernel
theorem dX11_complain_193 : decode cX11_complain 193 = .ok (.aload_n 0, 1) := by decide +kernel
theorem dX11_complain_194 : decode cX11_complain 194 = .ok (.getfield 338, 3) := by decide +kernel
theorem dX11_complain_197 : decode cX11_complain 197 = .ok (.iconst 1, 1) := by decide +kernel
theorem dX11_complain_198 : decode cX11_complain 198 = .ok (.isub, 1) := by decide +kernel
theorem dX11_complain_199 : decode cX11_complain 199 = .ok (.ireturn, 1) := by decide +kernel
theorem dX11_close_0 : decode cX11_close 0 = .ok (.iload_n 1, 1) := by decide +kernel
theorem dX11_close_1 : decode cX11_close 1 = .ok (.iconst 0, 1) := by decide +kernel
theorem dX11_close_2 : decode cX11_close 2 = .ok (.aload_n 0, 1) := by decide +kernel
theorem dX11_close_3 : decode cX11_close 3 = .ok (.getfield 338, 3) := by decide +kernel
theorem dX11_close_6 : decode cX11_close 6 = .ok (.iconst 1, 1) := by decide +kernel
theorem dX11_close_7 : decode cX11_close 7 = .ok (.isub, 1) := by decide +kernel
theorem dX11_close_8 : decode cX11_close 8 = .ok (.invokestatic 194, 3) := by decide +kernel
theorem dX11_close_11 : decode cX11_close 11 = .ok (.ifCond .eq 12, 3) := by decide +kernel
theorem dX11_close_14 : decode cX11_close 14 = .ok (.aload_n 0, 1) := by decide +kernel
theorem dX11_close_15 : decode cX11_close 15 = .ok (.getfield 156, 3) := by decide +kernel
theorem dX11_close_18 : decode cX11_close 18 = .ok (.iload_n 1, 1) := by decide +kernel
theorem dX11_close_19 : decode cX11_close 19 = .ok (.baload, 1) := by decide +kernel
theorem dX11_close_20 : decode cX11_close 20 = .ok (.ifCond .ne 5, 3) := by decide +kernel
theorem dX11_close_23 : decode cX11_close 23 = .ok (.iconst 0, 1) := by decide +kernel
theorem dX11_close_24 : decode cX11_close 24 = .ok (.ireturn, 1) := by decide +kernel
theorem dX11_close_25 : decode cX11_close 25 = .ok (.aload_n 0, 1) := by decide +kernel
theorem dX11_close_26 : decode cX11_close 26 = .ok (.getfield 156, 3) := by decide +kernel
theorem dX11_close_29 : decode cX11_close 29 = .ok (.iload_n 1, 1) := by decide +kernel
theorem dX11_close_30 : decode cX11_close 30 = .ok (.iconst 0, 1) := by decide +kernel
theorem dX11_close_31 : decode cX11_close 31 = .ok (.bastore, 1) := by decide +kernel
theorem dX11_close_32 : decode cX11_close 32 = .ok (.iconst 1, 1) := by decide +kernel
theorem dX11_close_33 : decode cX11_close 33 = .ok (.ireturn, 1) := by decide +kernel
theorem dX11_complaint_0 : decode cX11_complaint 0 = .ok (.iload_n 1, 1) := by decide +kernel
theorem dX11_complaint_1 : decode cX11_complaint 1 = .ok (.iconst 0, 1) := by decide +kernel
theorem dX11_complaint_2 : decode cX11_complaint 2 = .ok (.aload_n 0, 1) := by decide +kernel
theorem dX11_complaint_3 : decode cX11_complaint 3 = .ok (.getfield 338, 3) := by decide +kernel
theorem dX11_complaint_6 : decode cX11_complaint 6 = .ok (.iconst 1, 1) := by decide +kernel
theorem dX11_complaint_7 : decode cX11_complaint 7 = .ok (.isub, 1) := by decide +kernel
theorem dX11_complaint_8 : decode cX11_complaint 8 = .ok (.invokestatic 194, 3) := by decide +kernel
theorem dX11_complaint_11 : decode cX11_complaint 11 = .ok (.ifCond .ne 5, 3) := by decide +kernel
theorem dX11_complaint_14 : decode cX11_complaint 14 = .ok (.iconst (-1), 1) := by decide +kernel
theorem dX11_complaint_15 : decode cX11_complaint 15 = .ok (.ireturn, 1) := by decide +kernel
theorem dX11_complaint_16 : decode cX11_complaint 16 = .ok (.iload_n 2, 1) := by decide +kernel
theorem dX11_complaint_17 : decode cX11_complaint 17 = .ok (.tableswitch 84 0 5 #[39, 46, 53, 60, 67, 74], 39) := by decide +kernel
theorem dX11_complaint_56 : decode cX11_complaint 56 = .ok (.aload_n 0, 1) := by decide +kernel
theorem dX11_complaint_57 : decode cX11_complaint 57 = .ok (.getfield 141, 3) := by decide +kernel
theorem dX11_complaint_60 : decode cX11_complaint 60 = .ok (.iload_n 1, 1) := by decide +kernel
theorem dX11_complaint_61 : decode cX11_complaint 61 = .ok (.iaload, 1) := by decide +kernel
theorem dX11_complaint_62 : decode cX11_complaint 62 = .ok (.ireturn, 1) := by decide +kernel
theorem dX11_complaint_63 : decode cX11_complaint 63 = .ok (.aload_n 0, 1) := by decide +kernel
theorem dX11_complaint_64 : decode cX11_complaint 64 = .ok (.getfield 144, 3) := by decide +kernel
theorem dX11_complaint_67 : decode cX11_complaint 67 = .ok (.iload_n 1, 1) := by decide +kernel
theorem dX11_complaint_68 : decode cX11_complaint 68 = .ok (.iaload, 1) := by decide +kernel
theorem dX11_complaint_69 : decode cX11_complaint 69 = .ok (.ireturn, 1) := by decide +kernel
theorem dX11_complaint_70 : decode cX11_complaint 70 = .ok (.aload_n 0, 1) := by decide +kernel
theorem dX11_complaint_71 : decode cX11_complaint 71 = .ok (.getfield 147, 3) := by decide +kernel
theorem dX11_complaint_74 : decode cX11_complaint 74 = .ok (.iload_n 1, 1) := by decide +kernel
theorem dX11_complaint_75 : decode cX11_complaint 75 = .ok (.iaload, 1) := by decide +kernel
theorem dX11_complaint_76 : decode cX11_complaint 76 = .ok (.ireturn, 1) := by decide +kernel
theorem dX11_complaint_77 : decode cX11_complaint 77 = .ok (.aload_n 0, 1) := by decide +kernel
theorem dX11_complaint_78 : decode cX11_complaint 78 = .ok (.getfield 150, 3) := by decide +kernel
theorem dX11_complaint_81 : decode cX11_complaint 81 = .ok (.iload_n 1, 1) := by decide +kernel
theorem dX11_complaint_82 : decode cX11_complaint 82 = .ok (.iaload, 1) := by decide +kernel
theorem dX11_complaint_83 : decode cX11_complaint 83 = .ok (.ireturn, 1) := by decide +kernel
theorem dX11_complaint_84 : decode cX11_complaint 84 = .ok (.aload_n 0, 1) := by decide +kernel
theorem dX11_complaint_85 : decode cX11_complaint 85 = .ok (.getfield 153, 3) := by decide +kernel
theorem dX11_complaint_88 : decode cX11_complaint 88 = .ok (.iload_n 1, 1) := by decide +kernel
theorem dX11_complaint_89 : decode cX11_complaint 89 = .ok (.iaload, 1) := by decide +kernel
theorem dX11_complaint_90 : decode cX11_complaint 90 = .ok (.ireturn, 1) := by decide +kernel
theorem dX11_complaint_91 : decode cX11_complaint 91 = .ok (.aload_n 0, 1) := by decide +kernel
theorem dX11_complaint_92 : decode cX11_complaint 92 = .ok (.getfield 156, 3) := by decide +kernel
theorem dX11_complaint_95 : decode cX11_complaint 95 = .ok (.iload_n 1, 1) := by decide +kernel
theorem dX11_complaint_96 : decode cX11_complaint 96 = .ok (.baload, 1) := by decide +kernel
theorem dX11_complaint_97 : decode cX11_complaint 97 = .ok (.invokestatic 319, 3) := by decide +kernel
theorem dX11_complaint_100 : decode cX11_complaint 100 = .ok (.ireturn, 1) := by decide +kernel
theorem dX11_complaint_101 : decode cX11_complaint 101 = .ok (.iconst (-1), 1) := by decide +kernel
theorem dX11_complaint_102 : decode cX11_complaint 102 = .ok (.ireturn, 1) := by decide +kernel
theorem dX11_feed_0 : decode cX11_feed 0 = .ok (.aload_n 0, 1) := by decide +kernel
theorem dX11_feed_1 : decode cX11_feed 1 = .ok (.getfield 341, 3) := by decide +kernel
theorem dX11_feed_4 : decode cX11_feed 4 = .ok (.bipush 20, 2) := by decide +kernel
theorem dX11_feed_6 : decode cX11_feed 6 = .ok (.iadd, 1) := by decide +kernel
theorem dX11_feed_7 : decode cX11_feed 7 = .ok (.sipush 700, 3) := by decide +kernel
theorem dX11_feed_10 : decode cX11_feed 10 = .ok (.if_icmp .le 5, 3) := by decide +kernel
theorem dX11_feed_13 : decode cX11_feed 13 = .ok (.iconst (-1), 1) := by decide +kernel
theorem dX11_feed_14 : decode cX11_feed 14 = .ok (.ireturn, 1) := by decide +kernel
theorem dX11_feed_15 : decode cX11_feed 15 = .ok (.aload_n 0, 1) := by decide +kernel
theorem dX11_feed_16 : decode cX11_feed 16 = .ok (.iload_n 1, 1) := by decide +kernel
theorem dX11_feed_17 : decode cX11_feed 17 = .ok (.invokevirtual 344, 3) := by decide +kernel
theorem dX11_feed_20 : decode cX11_feed 20 = .ok (.aload_n 0, 1) := by decide +kernel
theorem dX11_feed_21 : decode cX11_feed 21 = .ok (.iload_n 2, 1) := by decide +kernel
theorem dX11_feed_22 : decode cX11_feed 22 = .ok (.invokevirtual 344, 3) := by decide +kernel
theorem dX11_feed_25 : decode cX11_feed 25 = .ok (.aload_n 0, 1) := by decide +kernel
theorem dX11_feed_26 : decode cX11_feed 26 = .ok (.iload_n 3, 1) := by decide +kernel
theorem dX11_feed_27 : decode cX11_feed 27 = .ok (.invokevirtual 344, 3) := by decide +kernel
theorem dX11_feed_30 : decode cX11_feed 30 = .ok (.aload_n 0, 1) := by decide +kernel
theorem dX11_feed_31 : decode cX11_feed 31 = .ok (.iload 4, 2) := by decide +kernel
theorem dX11_feed_33 : decode cX11_feed 33 = .ok (.invokevirtual 344, 3) := by decide +kernel
theorem dX11_feed_36 : decode cX11_feed 36 = .ok (.aload_n 0, 1) := by decide +kernel
theorem dX11_feed_37 : decode cX11_feed 37 = .ok (.iload 5, 2) := by decide +kernel
theorem dX11_feed_39 : decode cX11_feed 39 = .ok (.invokevirtual 344, 3) := by decide +kernel
theorem dX11_feed_42 : decode cX11_feed 42 = .ok (.aload_n 0, 1) := by decide +kernel
theorem dX11_feed_43 : decode cX11_feed 43 = .ok (.getfield 341, 3) := by decide +kernel
theorem dX11_feed_46 : decode cX11_feed 46 = .ok (.ireturn, 1) := by decide +kernel
theorem dX11_four_0 : decode cX11_four 0 = .ok (.bipush 24, 2) := by decide +kernel
theorem dX11_four_2 : decode cX11_four 2 = .ok (.istore_n 2, 1) := by decide +kernel
theorem dX11_four_3 : decode cX11_four 3 = .ok (.iload_n 2, 1) := by decide +kernel
theorem dX11_four_4 : decode cX11_four 4 = .ok (.ifCond .lt 32, 3) := by decide +kernel
theorem dX11_four_7 : decode cX11_four 7 = .ok (.aload_n 0, 1) := by decide +kernel
theorem dX11_four_8 : decode cX11_four 8 = .ok (.getfield 180, 3) := by decide +kernel
theorem dX11_four_11 : decode cX11_four 11 = .ok (.aload_n 0, 1) := by decide +kernel
theorem dX11_four_12 : decode cX11_four 12 = .ok (.getfield 341, 3) := by decide +kernel
theorem dX11_four_15 : decode cX11_four 15 = .ok (.iload_n 1, 1) := by decide +kernel
theorem dX11_four_16 : decode cX11_four 16 = .ok (.iload_n 2, 1) := by decide +kernel
theorem dX11_four_17 : decode cX11_four 17 = .ok (.ishr, 1) := by decide +kernel
theorem dX11_four_18 : decode cX11_four 18 = .ok (.i2b, 1) := by decide +kernel
theorem dX11_four_19 : decode cX11_four 19 = .ok (.bastore, 1) := by decide +kernel
theorem dX11_four_20 : decode cX11_four 20 = .ok (.aload_n 0, 1) := by decide +kernel
theorem dX11_four_21 : decode cX11_four 21 = .ok (.dup, 1) := by decide +kernel
theorem dX11_four_22 : decode cX11_four 22 = .ok (.getfield 341, 3) := by decide +kernel
theorem dX11_four_25 : decode cX11_four 25 = .ok (.iconst 1, 1) := by decide +kernel
theorem dX11_four_26 : decode cX11_four 26 = .ok (.iadd, 1) := by decide +kernel
theorem dX11_four_27 : decode cX11_four 27 = .ok (.putfield 341, 3) := by decide +kernel
theorem dX11_four_30 : decode cX11_four 30 = .ok (.iinc 2 (-8), 3) := by decide +kernel
theorem dX11_four_33 : decode cX11_four 33 = .ok (.goto (-30), 3) := by decide +kernel
theorem dX11_four_36 : decode cX11_four 36 = .ok (.return_, 1) := by decide +kernel
theorem dX11_blanks_0 : decode cX11_blanks 0 = .ok (.aload_n 0, 1) := by decide +kernel
theorem dX11_blanks_1 : decode cX11_blanks 1 = .ok (.getfield 347, 3) := by decide +kernel
theorem dX11_blanks_4 : decode cX11_blanks 4 = .ok (.aload_n 0, 1) := by decide +kernel
theorem dX11_blanks_5 : decode cX11_blanks 5 = .ok (.getfield 350, 3) := by decide +kernel
theorem dX11_blanks_8 : decode cX11_blanks 8 = .ok (.if_icmp .ge 44, 3) := by decide +kernel
theorem dX11_blanks_11 : decode cX11_blanks 11 = .ok (.aload_n 0, 1) := by decide +kernel
theorem dX11_blanks_12 : decode cX11_blanks 12 = .ok (.getfield 184, 3) := by decide +kernel
theorem dX11_blanks_15 : decode cX11_blanks 15 = .ok (.aload_n 0, 1) := by decide +kernel
theorem dX11_blanks_16 : decode cX11_blanks 16 = .ok (.getfield 347, 3) := by decide +kernel
theorem dX11_blanks_19 : decode cX11_blanks 19 = .ok (.baload, 1) := by decide +kernel
theorem dX11_blanks_20 : decode cX11_blanks 20 = .ok (.bipush 32, 2) := by decide +kernel
theorem dX11_blanks_22 : decode cX11_blanks 22 = .ok (.if_icmp .eq 17, 3) := by decide +kernel
theorem dX11_blanks_25 : decode cX11_blanks 25 = .ok (.aload_n 0, 1) := by decide +kernel
theorem dX11_blanks_26 : decode cX11_blanks 26 = .ok (.getfield 184, 3) := by decide +kernel
theorem dX11_blanks_29 : decode cX11_blanks 29 = .ok (.aload_n 0, 1) := by decide +kernel
theorem dX11_blanks_30 : decode cX11_blanks 30 = .ok (.getfield 347, 3) := by decide +kernel
theorem dX11_blanks_33 : decode cX11_blanks 33 = .ok (.baload, 1) := by decide +kernel
theorem dX11_blanks_34 : decode cX11_blanks 34 = .ok (.bipush 10, 2) := by decide +kernel
theorem dX11_blanks_36 : decode cX11_blanks 36 = .ok (.if_icmp .ne 16, 3) := by decide +kernel
theorem dX11_blanks_39 : decode cX11_blanks 39 = .ok (.aload_n 0, 1) := by decide +kernel
theorem dX11_blanks_40 : decode cX11_blanks 40 = .ok (.dup, 1) := by decide +kernel
theorem dX11_blanks_41 : decode cX11_blanks 41 = .ok (.getfield 347, 3) := by decide +kernel
theorem dX11_blanks_44 : decode cX11_blanks 44 = .ok (.iconst 1, 1) := by decide +kernel
theorem dX11_blanks_45 : decode cX11_blanks 45 = .ok (.iadd, 1) := by decide +kernel
theorem dX11_blanks_46 : decode cX11_blanks 46 = .ok (.putfield 347, 3) := by decide +kernel
theorem dX11_blanks_49 : decode cX11_blanks 49 = .ok (.goto (-49), 3) := by decide +kernel
theorem dX11_blanks_52 : decode cX11_blanks 52 = .ok (.return_, 1) := by decide +kernel
theorem dX11_takes_0 : decode cX11_takes 0 = .ok (.aload_n 0, 1) := by decide +kernel
theorem dX11_takes_1 : decode cX11_takes 1 = .ok (.invokevirtual 353, 3) := by decide +kernel
theorem dX11_takes_4 : decode cX11_takes 4 = .ok (.aload_n 0, 1) := by decide +kernel
theorem dX11_takes_5 : decode cX11_takes 5 = .ok (.getfield 347, 3) := by decide +kernel
theorem dX11_takes_8 : decode cX11_takes 8 = .ok (.istore_n 3, 1) := by decide +kernel
theorem dX11_takes_9 : decode cX11_takes 9 = .ok (.lconst 0, 1) := by decide +kernel
theorem dX11_takes_10 : decode cX11_takes 10 = .ok (.lstore 4, 2) := by decide +kernel
theorem dX11_takes_12 : decode cX11_takes 12 = .ok (.iload_n 3, 1) := by decide +kernel
theorem dX11_takes_13 : decode cX11_takes 13 = .ok (.aload_n 0, 1) := by decide +kernel
theorem dX11_takes_14 : decode cX11_takes 14 = .ok (.getfield 350, 3) := by decide +kernel
theorem dX11_takes_17 : decode cX11_takes 17 = .ok (.if_icmp .ge 61, 3) := by decide +kernel
theorem dX11_takes_20 : decode cX11_takes 20 = .ok (.aload_n 0, 1) := by decide +kernel
theorem dX11_takes_21 : decode cX11_takes 21 = .ok (.getfield 184, 3) := by decide +kernel
theorem dX11_takes_24 : decode cX11_takes 24 = .ok (.iload_n 3, 1) := by decide +kernel
theorem dX11_takes_25 : decode cX11_takes 25 = .ok (.baload, 1) := by decide +kernel
theorem dX11_takes_26 : decode cX11_takes 26 = .ok (.bipush 97, 2) := by decide +kernel
theorem dX11_takes_28 : decode cX11_takes 28 = .ok (.if_icmp .lt 50, 3) := by decide +kernel
theorem dX11_takes_31 : decode cX11_takes 31 = .ok (.aload_n 0, 1) := by decide +kernel
theorem dX11_takes_32 : decode cX11_takes 32 = .ok (.getfield 184, 3) := by decide +kernel
theorem dX11_takes_35 : decode cX11_takes 35 = .ok (.iload_n 3, 1) := by decide +kernel
theorem dX11_takes_36 : decode cX11_takes 36 = .ok (.baload, 1) := by decide +kernel
theorem dX11_takes_37 : decode cX11_takes 37 = .ok (.bipush 122, 2) := by decide +kernel
theorem dX11_takes_39 : decode cX11_takes 39 = .ok (.if_icmp .gt 39, 3) := by decide +kernel
theorem dX11_takes_42 : decode cX11_takes 42 = .ok (.iload_n 3, 1) := by decide +kernel
theorem dX11_takes_43 : decode cX11_takes 43 = .ok (.aload_n 0, 1) := by decide +kernel
theorem dX11_takes_44 : decode cX11_takes 44 = .ok (.getfield 347, 3) := by decide +kernel
theorem dX11_takes_47 : decode cX11_takes 47 = .ok (.isub, 1) := by decide +kernel
theorem dX11_takes_48 : decode cX11_takes 48 = .ok (.bipush 7, 2) := by decide +kernel
theorem dX11_takes_50 : decode cX11_takes 50 = .ok (.if_icmp .ge 19, 3) := by decide +kernel
theorem dX11_takes_53 : decode cX11_takes 53 = .ok (.lload 4, 2) := by decide +kernel
theorem dX11_takes_55 : decode cX11_takes 55 = .ok (.bipush 8, 2) := by decide +kernel
theorem dX11_takes_57 : decode cX11_takes 57 = .ok (.lshl, 1) := by decide +kernel
theorem dX11_takes_58 : decode cX11_takes 58 = .ok (.aload_n 0, 1) := by decide +kernel
theorem dX11_takes_59 : decode cX11_takes 59 = .ok (.getfield 184, 3) := by decide +kernel
theorem dX11_takes_62 : decode cX11_takes 62 = .ok (.iload_n 3, 1) := by decide +kernel
theorem dX11_takes_63 : decode cX11_takes 63 = .ok (.baload, 1) := by decide +kernel
theorem dX11_takes_64 : decode cX11_takes 64 = .ok (.i2l, 1) := by decide +kernel
theorem dX11_takes_65 : decode cX11_takes 65 = .ok (.lor, 1) := by decide +kernel
theorem dX11_takes_66 : decode cX11_takes 66 = .ok (.goto 4, 3) := by decide +kernel
theorem dX11_takes_69 : decode cX11_takes 69 = .ok (.lconst 0, 1) := by decide +kernel
theorem dX11_takes_70 : decode cX11_takes 70 = .ok (.lstore 4, 2) := by decide +kernel
theorem dX11_takes_72 : decode cX11_takes 72 = .ok (.iinc 3 1, 3) := by decide +kernel
theorem dX11_takes_75 : decode cX11_takes 75 = .ok (.goto (-63), 3) := by decide +kernel
theorem dX11_takes_78 : decode cX11_takes 78 = .ok (.iload_n 3, 1) := by decide +kernel
theorem dX11_takes_79 : decode cX11_takes 79 = .ok (.aload_n 0, 1) := by decide +kernel
theorem dX11_takes_80 : decode cX11_takes 80 = .ok (.getfield 347, 3) := by decide +kernel
theorem dX11_takes_83 : decode cX11_takes 83 = .ok (.isub, 1) := by decide +kernel
theorem dX11_takes_84 : decode cX11_takes 84 = .ok (.bipush 7, 2) := by decide +kernel
theorem dX11_takes_86 : decode cX11_takes 86 = .ok (.if_icmp .gt 10, 3) := by decide +kernel
theorem dX11_takes_89 : decode cX11_takes 89 = .ok (.lload 4, 2) := by decide +kernel
theorem dX11_takes_91 : decode cX11_takes 91 = .ok (.lload_n 1, 1) := by decide +kernel
theorem dX11_takes_92 : decode cX11_takes 92 = .ok (.lcmp, 1) := by decide +kernel
theorem dX11_takes_93 : decode cX11_takes 93 = .ok (.ifCond .eq 5, 3) := by decide +kernel
theorem dX11_takes_96 : decode cX11_takes 96 = .ok (.iconst 0, 1) := by decide +kernel
theorem dX11_takes_97 : decode cX11_takes 97 = .ok (.ireturn, 1) := by decide +kernel
theorem dX11_takes_98 : decode cX11_takes 98 = .ok (.aload_n 0, 1) := by decide +kernel
theorem dX11_takes_99 : decode cX11_takes 99 = .ok (.iload_n 3, 1) := by decide +kernel
theorem dX11_takes_100 : decode cX11_takes 100 = .ok (.putfield 347, 3) := by decide +kernel
theorem dX11_takes_103 : decode cX11_takes 103 = .ok (.iconst 1, 1) := by decide +kernel
theorem dX11_takes_104 : decode cX11_takes 104 = .ok (.ireturn, 1) := by decide +kernel
theorem dX11_takesNumber_0 : decode cX11_takesNumber 0 = .ok (.aload_n 0, 1) := by decide +kernel
theorem dX11_takesNumber_1 : decode cX11_takesNumber 1 = .ok (.invokevirtual 353, 3) := by decide +kernel
theorem dX11_takesNumber_4 : decode cX11_takesNumber 4 = .ok (.aload_n 0, 1) := by decide +kernel
theorem dX11_takesNumber_5 : decode cX11_takesNumber 5 = .ok (.getfield 347, 3) := by decide +kernel
theorem dX11_takesNumber_8 : decode cX11_takesNumber 8 = .ok (.istore_n 3, 1) := by decide +kernel
theorem dX11_takesNumber_9 : decode cX11_takesNumber 9 = .ok (.aload_n 0, 1) := by decide +kernel
theorem dX11_takesNumber_10 : decode cX11_takesNumber 10 = .ok (.iconst 0, 1) := by decide +kernel
theorem dX11_takesNumber_11 : decode cX11_takesNumber 11 = .ok (.putfield 356, 3) := by decide +kernel
theorem dX11_takesNumber_14 : decode cX11_takesNumber 14 = .ok (.iload_n 3, 1) := by decide +kernel
theorem dX11_takesNumber_15 : decode cX11_takesNumber 15 = .ok (.aload_n 0, 1) := by decide +kernel
theorem dX11_takesNumber_16 : decode cX11_takesNumber 16 = .ok (.getfield 350, 3) := by decide +kernel
theorem dX11_takesNumber_19 : decode cX11_takesNumber 19 = .ok (.if_icmp .ge 62, 3) := by decide +kernel
theorem dX11_takesNumber_22 : decode cX11_takesNumber 22 = .ok (.aload_n 0, 1) := by decide +kernel
theorem dX11_takesNumber_23 : decode cX11_takesNumber 23 = .ok (.getfield 184, 3) := by decide +kernel
theorem dX11_takesNumber_26 : decode cX11_takesNumber 26 = .ok (.iload_n 3, 1) := by decide +kernel
theorem dX11_takesNumber_27 : decode cX11_takesNumber 27 = .ok (.baload, 1) := by decide +kernel
theorem dX11_takesNumber_28 : decode cX11_takesNumber 28 = .ok (.bipush 48, 2) := by decide +kernel
theorem dX11_takesNumber_30 : decode cX11_takesNumber 30 = .ok (.if_icmp .lt 51, 3) := by decide +kernel
theorem dX11_takesNumber_33 : decode cX11_takesNumber 33 = .ok (.aload_n 0, 1) := by decide +kernel
theorem dX11_takesNumber_34 : decode cX11_takesNumber 34 = .ok (.getfield 184, 3) := by decide +kernel
theorem dX11_takesNumber_37 : decode cX11_takesNumber 37 = .ok (.iload_n 3, 1) := by decide +kernel
theorem dX11_takesNumber_38 : decode cX11_takesNumber 38 = .ok (.baload, 1) := by decide +kernel
theorem dX11_takesNumber_39 : decode cX11_takesNumber 39 = .ok (.bipush 57, 2) := by decide +kernel
theorem dX11_takesNumber_41 : decode cX11_takesNumber 41 = .ok (.if_icmp .gt 40, 3) := by decide +kernel
theorem dX11_takesNumber_44 : decode cX11_takesNumber 44 = .ok (.iload_n 3, 1) := by decide +kernel
theorem dX11_takesNumber_45 : decode cX11_takesNumber 45 = .ok (.aload_n 0, 1) := by decide +kernel
theorem dX11_takesNumber_46 : decode cX11_takesNumber 46 = .ok (.getfield 347, 3) := by decide +kernel
theorem dX11_takesNumber_49 : decode cX11_takesNumber 49 = .ok (.isub, 1) := by decide +kernel
theorem dX11_takesNumber_50 : decode cX11_takesNumber 50 = .ok (.iconst 4, 1) := by decide +kernel
theorem dX11_takesNumber_51 : decode cX11_takesNumber 51 = .ok (.if_icmp .ge 24, 3) := by decide +kernel
theorem dX11_takesNumber_54 : decode cX11_takesNumber 54 = .ok (.aload_n 0, 1) := by decide +kernel
theorem dX11_takesNumber_55 : decode cX11_takesNumber 55 = .ok (.bipush 10, 2) := by decide +kernel
theorem dX11_takesNumber_57 : decode cX11_takesNumber 57 = .ok (.aload_n 0, 1) := by decide +kernel
theorem dX11_takesNumber_58 : decode cX11_takesNumber 58 = .ok (.getfield 356, 3) := by decide +kernel
theorem dX11_takesNumber_61 : decode cX11_takesNumber 61 = .ok (.imul, 1) := by decide +kernel
theorem dX11_takesNumber_62 : decode cX11_takesNumber 62 = .ok (.aload_n 0, 1) := by decide +kernel
theorem dX11_takesNumber_63 : decode cX11_takesNumber 63 = .ok (.getfield 184, 3) := by decide +kernel
theorem dX11_takesNumber_66 : decode cX11_takesNumber 66 = .ok (.iload_n 3, 1) := by decide +kernel
theorem dX11_takesNumber_67 : decode cX11_takesNumber 67 = .ok (.baload, 1) := by decide +kernel
theorem dX11_takesNumber_68 : decode cX11_takesNumber 68 = .ok (.iadd, 1) := by decide +kernel
theorem dX11_takesNumber_69 : decode cX11_takesNumber 69 = .ok (.bipush 48, 2) := by decide +kernel
theorem dX11_takesNumber_71 : decode cX11_takesNumber 71 = .ok (.isub, 1) := by decide +kernel
theorem dX11_takesNumber_72 : decode cX11_takesNumber 72 = .ok (.putfield 356, 3) := by decide +kernel
theorem dX11_takesNumber_75 : decode cX11_takesNumber 75 = .ok (.iinc 3 1, 3) := by decide +kernel
theorem dX11_takesNumber_78 : decode cX11_takesNumber 78 = .ok (.goto (-64), 3) := by decide +kernel
theorem dX11_takesNumber_81 : decode cX11_takesNumber 81 = .ok (.iload_n 3, 1) := by decide +kernel
theorem dX11_takesNumber_82 : decode cX11_takesNumber 82 = .ok (.aload_n 0, 1) := by decide +kernel
theorem dX11_takesNumber_83 : decode cX11_takesNumber 83 = .ok (.getfield 347, 3) := by decide +kernel
theorem dX11_takesNumber_86 : decode cX11_takesNumber 86 = .ok (.if_icmp .eq 25, 3) := by decide +kernel
theorem dX11_takesNumber_89 : decode cX11_takesNumber 89 = .ok (.iload_n 3, 1) := by decide +kernel
theorem dX11_takesNumber_90 : decode cX11_takesNumber 90 = .ok (.aload_n 0, 1) := by decide +kernel
theorem dX11_takesNumber_91 : decode cX11_takesNumber 91 = .ok (.getfield 347, 3) := by decide +kernel
theorem dX11_takesNumber_94 : decode cX11_takesNumber 94 = .ok (.isub, 1) := by decide +kernel
theorem dX11_takesNumber_95 : decode cX11_takesNumber 95 = .ok (.iconst 4, 1) := by decide +kernel
theorem dX11_takesNumber_96 : decode cX11_takesNumber 96 = .ok (.if_icmp .gt 15, 3) := by decide +kernel
theorem dX11_takesNumber_99 : decode cX11_takesNumber 99 = .ok (.aload_n 0, 1) := by decide +kernel
theorem dX11_takesNumber_100 : decode cX11_takesNumber 100 = .ok (.getfield 356, 3) := by decide +kernel
theorem dX11_takesNumber_103 : decode cX11_takesNumber 103 = .ok (.iload_n 1, 1) := by decide +kernel
theorem dX11_takesNumber_104 : decode cX11_takesNumber 104 = .ok (.iload_n 2, 1) := by decide +kernel
theorem dX11_takesNumber_105 : decode cX11_takesNumber 105 = .ok (.invokestatic 194, 3) := by decide +kernel
theorem dX11_takesNumber_108 : decode cX11_takesNumber 108 = .ok (.ifCond .ne 5, 3) := by decide +kernel
theorem dX11_takesNumber_111 : decode cX11_takesNumber 111 = .ok (.iconst 0, 1) := by decide +kernel
theorem dX11_takesNumber_112 : decode cX11_takesNumber 112 = .ok (.ireturn, 1) := by decide +kernel
theorem dX11_takesNumber_113 : decode cX11_takesNumber 113 = .ok (.aload_n 0, 1) := by decide +kernel
theorem dX11_takesNumber_114 : decode cX11_takesNumber 114 = .ok (.iload_n 3, 1) := by decide +kernel
theorem dX11_takesNumber_115 : decode cX11_takesNumber 115 = .ok (.putfield 347, 3) := by decide +kernel
theorem dX11_takesNumber_118 : decode cX11_takesNumber 118 = .ok (.iconst 1, 1) := by decide +kernel
theorem dX11_takesNumber_119 : decode cX11_takesNumber 119 = .ok (.ireturn, 1) := by decide +kernel
theorem dX11_takesPlain_0 : decode cX11_takesPlain 0 = .ok (.aload_n 0, 1) := by decide +kernel
theorem dX11_takesPlain_1 : decode cX11_takesPlain 1 = .ok (.iconst 0, 1) := by decide +kernel
theorem dX11_takesPlain_2 : decode cX11_takesPlain 2 = .ok (.sipush 9999, 3) := by decide +kernel
theorem dX11_takesPlain_5 : decode cX11_takesPlain 5 = .ok (.invokevirtual 359, 3) := by decide +kernel
theorem dX11_takesPlain_8 : decode cX11_takesPlain 8 = .ok (.ireturn, 1) := by decide +kernel
theorem dX11_turnsIn_0 : decode cX11_turnsIn 0 = .ok (.aload_n 0, 1) := by decide +kernel
theorem dX11_turnsIn_1 : decode cX11_turnsIn 1 = .ok (.getfield 165, 3) := by decide +kernel
theorem dX11_turnsIn_4 : decode cX11_turnsIn 4 = .ok (.iload_n 1, 1) := by decide +kernel
theorem dX11_turnsIn_5 : decode cX11_turnsIn 5 = .ok (.bipush 30, 2) := by decide +kernel
theorem dX11_turnsIn_7 : decode cX11_turnsIn 7 = .ok (.iastore, 1) := by decide +kernel
theorem dX11_turnsIn_8 : decode cX11_turnsIn 8 = .ok (.aload_n 0, 1) := by decide +kernel
theorem dX11_turnsIn_9 : decode cX11_turnsIn 9 = .ok (.invokevirtual 362, 3) := by decide +kernel
theorem dX11_turnsIn_12 : decode cX11_turnsIn 12 = .ok (.ifCond .ne 5, 3) := by decide +kernel
theorem dX11_turnsIn_15 : decode cX11_turnsIn 15 = .ok (.iconst 0, 1) := by decide +kernel
theorem dX11_turnsIn_16 : decode cX11_turnsIn 16 = .ok (.ireturn, 1) := by decide +kernel
theorem dX11_turnsIn_17 : decode cX11_turnsIn 17 = .ok (.aload_n 0, 1) := by decide +kernel
theorem dX11_turnsIn_18 : decode cX11_turnsIn 18 = .ok (.getfield 168, 3) := by decide +kernel
theorem dX11_turnsIn_21 : decode cX11_turnsIn 21 = .ok (.iload_n 1, 1) := by decide +kernel
theorem dX11_turnsIn_22 : decode cX11_turnsIn 22 = .ok (.aload_n 0, 1) := by decide +kernel
theorem dX11_turnsIn_23 : decode cX11_turnsIn 23 = .ok (.getfield 356, 3) := by decide +kernel
theorem dX11_turnsIn_26 : decode cX11_turnsIn 26 = .ok (.iastore, 1) := by decide +kernel
theorem dX11_turnsIn_27 : decode cX11_turnsIn 27 = .ok (.aload_n 0, 1) := by decide +kernel
theorem dX11_turnsIn_28 : decode cX11_turnsIn 28 = .ok (.ldc2_w 366, 3) := by decide +kernel
theorem dX11_turnsIn_31 : decode cX11_turnsIn 31 = .ok (.invokevirtual 368, 3) := by decide +kernel
theorem dX11_turnsIn_34 : decode cX11_turnsIn 34 = .ok (.ifCond .eq 10, 3) := by decide +kernel
theorem dX11_turnsIn_37 : decode cX11_turnsIn 37 = .ok (.aload_n 0, 1) := by decide +kernel
theorem dX11_turnsIn_38 : decode cX11_turnsIn 38 = .ok (.invokevirtual 362, 3) := by decide +kernel
theorem dX11_turnsIn_41 : decode cX11_turnsIn 41 = .ok (.ifCond .ne 5, 3) := by decide +kernel
theorem dX11_turnsIn_44 : decode cX11_turnsIn 44 = .ok (.iconst 0, 1) := by decide +kernel
theorem dX11_turnsIn_45 : decode cX11_turnsIn 45 = .ok (.ireturn, 1) := by decide +kernel
theorem dX11_turnsIn_46 : decode cX11_turnsIn 46 = .ok (.aload_n 0, 1) := by decide +kernel
theorem dX11_turnsIn_47 : decode cX11_turnsIn 47 = .ok (.getfield 171, 3) := by decide +kernel
theorem dX11_turnsIn_50 : decode cX11_turnsIn 50 = .ok (.iload_n 1, 1) := by decide +kernel
theorem dX11_turnsIn_51 : decode cX11_turnsIn 51 = .ok (.aload_n 0, 1) := by decide +kernel
theorem dX11_turnsIn_52 : decode cX11_turnsIn 52 = .ok (.getfield 356, 3) := by decide +kernel
theorem dX11_turnsIn_55 : decode cX11_turnsIn 55 = .ok (.iastore, 1) := by decide +kernel
theorem dX11_turnsIn_56 : decode cX11_turnsIn 56 = .ok (.aload_n 0, 1) := by decide +kernel
theorem dX11_turnsIn_57 : decode cX11_turnsIn 57 = .ok (.ldc2_w 372, 3) := by decide +kernel
theorem dX11_turnsIn_60 : decode cX11_turnsIn 60 = .ok (.invokevirtual 368, 3) := by decide +kernel
theorem dX11_turnsIn_63 : decode cX11_turnsIn 63 = .ok (.ifCond .eq 14, 3) := by decide +kernel
theorem dX11_turnsIn_66 : decode cX11_turnsIn 66 = .ok (.aload_n 0, 1) := by decide +kernel
theorem dX11_turnsIn_67 : decode cX11_turnsIn 67 = .ok (.iconst 1, 1) := by decide +kernel
theorem dX11_turnsIn_68 : decode cX11_turnsIn 68 = .ok (.sipush 9999, 3) := by decide +kernel
theorem dX11_turnsIn_71 : decode cX11_turnsIn 71 = .ok (.invokevirtual 359, 3) := by decide +kernel
theorem dX11_turnsIn_74 : decode cX11_turnsIn 74 = .ok (.ifCond .ne 5, 3) := by decide +kernel
theorem dX11_turnsIn_77 : decode cX11_turnsIn 77 = .ok (.iconst 0, 1) := by decide +kernel
theorem dX11_turnsIn_78 : decode cX11_turnsIn 78 = .ok (.ireturn, 1) := by decide +kernel
theorem dX11_turnsIn_79 : decode cX11_turnsIn 79 = .ok (.aload_n 0, 1) := by decide +kernel
theorem dX11_turnsIn_80 : decode cX11_turnsIn 80 = .ok (.getfield 174, 3) := by decide +kernel
theorem dX11_turnsIn_83 : decode cX11_turnsIn 83 = .ok (.iload_n 1, 1) := by decide +kernel
theorem dX11_turnsIn_84 : decode cX11_turnsIn 84 = .ok (.aload_n 0, 1) := by decide +kernel
theorem dX11_turnsIn_85 : decode cX11_turnsIn 85 = .ok (.getfield 356, 3) := by decide +kernel
theorem dX11_turnsIn_88 : decode cX11_turnsIn 88 = .ok (.iastore, 1) := by decide +kernel
theorem dX11_turnsIn_89 : decode cX11_turnsIn 89 = .ok (.aload_n 0, 1) := by decide +kernel
theorem dX11_turnsIn_90 : decode cX11_turnsIn 90 = .ok (.ldc2_w 374, 3) := by decide +kernel
theorem dX11_turnsIn_93 : decode cX11_turnsIn 93 = .ok (.invokevirtual 368, 3) := by decide +kernel
theorem dX11_turnsIn_96 : decode cX11_turnsIn 96 = .ok (.ifCond .eq 10, 3) := by decide +kernel
theorem dX11_turnsIn_99 : decode cX11_turnsIn 99 = .ok (.aload_n 0, 1) := by decide +kernel
theorem dX11_turnsIn_100 : decode cX11_turnsIn 100 = .ok (.invokevirtual 362, 3) := by decide +kernel
theorem dX11_turnsIn_103 : decode cX11_turnsIn 103 = .ok (.ifCond .ne 5, 3) := by decide +kernel
theorem dX11_turnsIn_106 : decode cX11_turnsIn 106 = .ok (.iconst 0, 1) := by decide +kernel
theorem dX11_turnsIn_107 : decode cX11_turnsIn 107 = .ok (.ireturn, 1) := by decide +kernel
theorem dX11_turnsIn_108 : decode cX11_turnsIn 108 = .ok (.aload_n 0, 1) := by decide +kernel
theorem dX11_turnsIn_109 : decode cX11_turnsIn 109 = .ok (.getfield 177, 3) := by decide +kernel
theorem dX11_turnsIn_112 : decode cX11_turnsIn 112 = .ok (.iload_n 1, 1) := by decide +kernel
theorem dX11_turnsIn_113 : decode cX11_turnsIn 113 = .ok (.aload_n 0, 1) := by decide +kernel
theorem dX11_turnsIn_114 : decode cX11_turnsIn 114 = .ok (.getfield 356, 3) := by decide +kernel
theorem dX11_turnsIn_117 : decode cX11_turnsIn 117 = .ok (.iastore, 1) := by decide +kernel
theorem dX11_turnsIn_118 : decode cX11_turnsIn 118 = .ok (.iconst 1, 1) := by decide +kernel
theorem dX11_turnsIn_119 : decode cX11_turnsIn 119 = .ok (.ireturn, 1) := by decide +kernel
theorem dX11_grades_0 : decode cX11_grades 0 = .ok (.aload_n 0, 1) := by decide +kernel
theorem dX11_grades_1 : decode cX11_grades 1 = .ok (.getfield 165, 3) := by decide +kernel
theorem dX11_grades_4 : decode cX11_grades 4 = .ok (.iload_n 1, 1) := by decide +kernel
theorem dX11_grades_5 : decode cX11_grades 5 = .ok (.bipush 31, 2) := by decide +kernel
theorem dX11_grades_7 : decode cX11_grades 7 = .ok (.iastore, 1) := by decide +kernel
theorem dX11_grades_8 : decode cX11_grades 8 = .ok (.aload_n 0, 1) := by decide +kernel
theorem dX11_grades_9 : decode cX11_grades 9 = .ok (.iconst 0, 1) := by decide +kernel
theorem dX11_grades_10 : decode cX11_grades 10 = .ok (.iconst 3, 1) := by decide +kernel
theorem dX11_grades_11 : decode cX11_grades 11 = .ok (.invokevirtual 359, 3) := by decide +kernel
theorem dX11_grades_14 : decode cX11_grades 14 = .ok (.ifCond .ne 5, 3) := by decide +kernel
theorem dX11_grades_17 : decode cX11_grades 17 = .ok (.iconst 0, 1) := by decide +kernel
theorem dX11_grades_18 : decode cX11_grades 18 = .ok (.ireturn, 1) := by decide +kernel
theorem dX11_grades_19 : decode cX11_grades 19 = .ok (.aload_n 0, 1) := by decide +kernel
theorem dX11_grades_20 : decode cX11_grades 20 = .ok (.getfield 168, 3) := by decide +kernel
theorem dX11_grades_23 : decode cX11_grades 23 = .ok (.iload_n 1, 1) := by decide +kernel
theorem dX11_grades_24 : decode cX11_grades 24 = .ok (.aload_n 0, 1) := by decide +kernel
theorem dX11_grades_25 : decode cX11_grades 25 = .ok (.getfield 356, 3) := by decide +kernel
theorem dX11_grades_28 : decode cX11_grades 28 = .ok (.iastore, 1) := by decide +kernel
theorem dX11_grades_29 : decode cX11_grades 29 = .ok (.aload_n 0, 1) := by decide +kernel
theorem dX11_grades_30 : decode cX11_grades 30 = .ok (.ldc2_w 374, 3) := by decide +kernel
theorem dX11_grades_33 : decode cX11_grades 33 = .ok (.invokevirtual 368, 3) := by decide +kernel
theorem dX11_grades_36 : decode cX11_grades 36 = .ok (.ifCond .eq 10, 3) := by decide +kernel
theorem dX11_grades_39 : decode cX11_grades 39 = .ok (.aload_n 0, 1) := by decide +kernel
theorem dX11_grades_40 : decode cX11_grades 40 = .ok (.invokevirtual 362, 3) := by decide +kernel
theorem dX11_grades_43 : decode cX11_grades 43 = .ok (.ifCond .ne 5, 3) := by decide +kernel
theorem dX11_grades_46 : decode cX11_grades 46 = .ok (.iconst 0, 1) := by decide +kernel
theorem dX11_grades_47 : decode cX11_grades 47 = .ok (.ireturn, 1) := by decide +kernel
theorem dX11_grades_48 : decode cX11_grades 48 = .ok (.aload_n 0, 1) := by decide +kernel
theorem dX11_grades_49 : decode cX11_grades 49 = .ok (.getfield 171, 3) := by decide +kernel
theorem dX11_grades_52 : decode cX11_grades 52 = .ok (.iload_n 1, 1) := by decide +kernel
theorem dX11_grades_53 : decode cX11_grades 53 = .ok (.aload_n 0, 1) := by decide +kernel
theorem dX11_grades_54 : decode cX11_grades 54 = .ok (.getfield 356, 3) := by decide +kernel
theorem dX11_grades_57 : decode cX11_grades 57 = .ok (.iastore, 1) := by decide +kernel
theorem dX11_grades_58 : decode cX11_grades 58 = .ok (.aload_n 0, 1) := by decide +kernel
theorem dX11_grades_59 : decode cX11_grades 59 = .ok (.ldc2_w 376, 3) := by decide +kernel
theorem dX11_grades_62 : decode cX11_grades 62 = .ok (.invokevirtual 368, 3) := by decide +kernel
theorem dX11_grades_65 : decode cX11_grades 65 = .ok (.ifCond .eq 10, 3) := by decide +kernel
theorem dX11_grades_68 : decode cX11_grades 68 = .ok (.aload_n 0, 1) := by decide +kernel
theorem dX11_grades_69 : decode cX11_grades 69 = .ok (.invokevirtual 362, 3) := by decide +kernel
theorem dX11_grades_72 : decode cX11_grades 72 = .ok (.ifCond .ne 5, 3) := by decide +kernel
theorem dX11_grades_75 : decode cX11_grades 75 = .ok (.iconst 0, 1) := by decide +kernel
theorem dX11_grades_76 : decode cX11_grades 76 = .ok (.ireturn, 1) := by decide +kernel
theorem dX11_grades_77 : decode cX11_grades 77 = .ok (.aload_n 0, 1) := by decide +kernel
theorem dX11_grades_78 : decode cX11_grades 78 = .ok (.getfield 174, 3) := by decide +kernel
theorem dX11_grades_81 : decode cX11_grades 81 = .ok (.iload_n 1, 1) := by decide +kernel
theorem dX11_grades_82 : decode cX11_grades 82 = .ok (.aload_n 0, 1) := by decide +kernel
theorem dX11_grades_83 : decode cX11_grades 83 = .ok (.getfield 356, 3) := by decide +kernel
theorem dX11_grades_86 : decode cX11_grades 86 = .ok (.iastore, 1) := by decide +kernel
theorem dX11_grades_87 : decode cX11_grades 87 = .ok (.iconst 1, 1) := by decide +kernel
theorem dX11_grades_88 : decode cX11_grades 88 = .ok (.ireturn, 1) := by decide +kernel
theorem dX11_row_0 : decode cX11_row 0 = .ok (.aload_n 0, 1) := by decide +kernel
theorem dX11_row_1 : decode cX11_row 1 = .ok (.getfield 165, 3) := by decide +kernel
theorem dX11_row_4 : decode cX11_row 4 = .ok (.iload_n 1, 1) := by decide +kernel
theorem dX11_row_5 : decode cX11_row 5 = .ok (.iload_n 2, 1) := by decide +kernel
theorem dX11_row_6 : decode cX11_row 6 = .ok (.iastore, 1) := by decide +kernel
theorem dX11_row_7 : decode cX11_row 7 = .ok (.aload_n 0, 1) := by decide +kernel
theorem dX11_row_8 : decode cX11_row 8 = .ok (.invokevirtual 362, 3) := by decide +kernel
theorem dX11_row_11 : decode cX11_row 11 = .ok (.ifCond .ne 5, 3) := by decide +kernel
theorem dX11_row_14 : decode cX11_row 14 = .ok (.iconst 0, 1) := by decide +kernel
theorem dX11_row_15 : decode cX11_row 15 = .ok (.ireturn, 1) := by decide +kernel
theorem dX11_row_16 : decode cX11_row 16 = .ok (.aload_n 0, 1) := by decide +kernel
theorem dX11_row_17 : decode cX11_row 17 = .ok (.getfield 168, 3) := by decide +kernel
theorem dX11_row_20 : decode cX11_row 20 = .ok (.iload_n 1, 1) := by decide +kernel
theorem dX11_row_21 : decode cX11_row 21 = .ok (.aload_n 0, 1) := by decide +kernel
theorem dX11_row_22 : decode cX11_row 22 = .ok (.getfield 356, 3) := by decide +kernel
theorem dX11_row_25 : decode cX11_row 25 = .ok (.iastore, 1) := by decide +kernel
theorem dX11_row_26 : decode cX11_row 26 = .ok (.lload_n 3, 1) := by decide +kernel
theorem dX11_row_27 : decode cX11_row 27 = .ok (.lconst 0, 1) := by decide +kernel
theorem dX11_row_28 : decode cX11_row 28 = .ok (.lcmp, 1) := by decide +kernel
theorem dX11_row_29 : decode cX11_row 29 = .ok (.ifCond .eq 30, 3) := by decide +kernel
theorem dX11_row_32 : decode cX11_row 32 = .ok (.aload_n 0, 1) := by decide +kernel
theorem dX11_row_33 : decode cX11_row 33 = .ok (.lload_n 3, 1) := by decide +kernel
theorem dX11_row_34 : decode cX11_row 34 = .ok (.invokevirtual 368, 3) := by decide +kernel
theorem dX11_row_37 : decode cX11_row 37 = .ok (.ifCond .eq 10, 3) := by decide +kernel
theorem dX11_row_40 : decode cX11_row 40 = .ok (.aload_n 0, 1) := by decide +kernel
theorem dX11_row_41 : decode cX11_row 41 = .ok (.invokevirtual 362, 3) := by decide +kernel
theorem dX11_row_44 : decode cX11_row 44 = .ok (.ifCond .ne 5, 3) := by decide +kernel
theorem dX11_row_47 : decode cX11_row 47 = .ok (.iconst 0, 1) := by decide +kernel
theorem dX11_row_48 : decode cX11_row 48 = .ok (.ireturn, 1) := by decide +kernel
theorem dX11_row_49 : decode cX11_row 49 = .ok (.aload_n 0, 1) := by decide +kernel
theorem dX11_row_50 : decode cX11_row 50 = .ok (.getfield 171, 3) := by decide +kernel
theorem dX11_row_53 : decode cX11_row 53 = .ok (.iload_n 1, 1) := by decide +kernel
theorem dX11_row_54 : decode cX11_row 54 = .ok (.aload_n 0, 1) := by decide +kernel
theorem dX11_row_55 : decode cX11_row 55 = .ok (.getfield 356, 3) := by decide +kernel
theorem dX11_row_58 : decode cX11_row 58 = .ok (.iastore, 1) := by decide +kernel
theorem dX11_row_59 : decode cX11_row 59 = .ok (.lload 5, 2) := by decide +kernel
theorem dX11_row_61 : decode cX11_row 61 = .ok (.lconst 0, 1) := by decide +kernel
theorem dX11_row_62 : decode cX11_row 62 = .ok (.lcmp, 1) := by decide +kernel
theorem dX11_row_63 : decode cX11_row 63 = .ok (.ifCond .eq 31, 3) := by decide +kernel
theorem dX11_row_66 : decode cX11_row 66 = .ok (.aload_n 0, 1) := by decide +kernel
theorem dX11_row_67 : decode cX11_row 67 = .ok (.lload 5, 2) := by decide +kernel
theorem dX11_row_69 : decode cX11_row 69 = .ok (.invokevirtual 368, 3) := by decide +kernel
theorem dX11_row_72 : decode cX11_row 72 = .ok (.ifCond .eq 10, 3) := by decide +kernel
theorem dX11_row_75 : decode cX11_row 75 = .ok (.aload_n 0, 1) := by decide +kernel
theorem dX11_row_76 : decode cX11_row 76 = .ok (.invokevirtual 362, 3) := by decide +kernel
theorem dX11_row_79 : decode cX11_row 79 = .ok (.ifCond .ne 5, 3) := by decide +kernel
theorem dX11_row_82 : decode cX11_row 82 = .ok (.iconst 0, 1) := by decide +kernel
theorem dX11_row_83 : decode cX11_row 83 = .ok (.ireturn, 1) := by decide +kernel
theorem dX11_row_84 : decode cX11_row 84 = .ok (.aload_n 0, 1) := by decide +kernel
theorem dX11_row_85 : decode cX11_row 85 = .ok (.getfield 174, 3) := by decide +kernel
theorem dX11_row_88 : decode cX11_row 88 = .ok (.iload_n 1, 1) := by decide +kernel
theorem dX11_row_89 : decode cX11_row 89 = .ok (.aload_n 0, 1) := by decide +kernel
theorem dX11_row_90 : decode cX11_row 90 = .ok (.getfield 356, 3) := by decide +kernel
theorem dX11_row_93 : decode cX11_row 93 = .ok (.iastore, 1) := by decide +kernel
theorem dX11_row_94 : decode cX11_row 94 = .ok (.iconst 1, 1) := by decide +kernel
theorem dX11_row_95 : decode cX11_row 95 = .ok (.ireturn, 1) := by decide +kernel
theorem dX11_others_0 : decode cX11_others 0 = .ok (.aload_n 0, 1) := by decide +kernel
theorem dX11_others_1 : decode cX11_others 1 = .ok (.ldc2_w 378, 3) := by decide +kernel
theorem dX11_others_4 : decode cX11_others 4 = .ok (.invokevirtual 368, 3) := by decide +kernel
theorem dX11_others_7 : decode cX11_others 7 = .ok (.ifCond .eq 7, 3) := by decide +kernel
theorem dX11_others_10 : decode cX11_others 10 = .ok (.iconst 0, 1) := by decide +kernel
theorem dX11_others_11 : decode cX11_others 11 = .ok (.goto 76, 3) := by decide +kernel
theorem dX11_others_14 : decode cX11_others 14 = .ok (.aload_n 0, 1) := by decide +kernel
theorem dX11_others_15 : decode cX11_others 15 = .ok (.ldc2_w 380, 3) := by decide +kernel
theorem dX11_others_18 : decode cX11_others 18 = .ok (.invokevirtual 368, 3) := by decide +kernel
theorem dX11_others_21 : decode cX11_others 21 = .ok (.ifCond .eq 7, 3) := by decide +kernel
theorem dX11_others_24 : decode cX11_others 24 = .ok (.iconst 3, 1) := by decide +kernel
theorem dX11_others_25 : decode cX11_others 25 = .ok (.goto 62, 3) := by decide +kernel
theorem dX11_others_28 : decode cX11_others 28 = .ok (.aload_n 0, 1) := by decide +kernel
theorem dX11_others_29 : decode cX11_others 29 = .ok (.ldc2_w 382, 3) := by decide +kernel
theorem dX11_others_32 : decode cX11_others 32 = .ok (.invokevirtual 368, 3) := by decide +kernel
theorem dX11_others_35 : decode cX11_others 35 = .ok (.ifCond .eq 7, 3) := by decide +kernel
theorem dX11_others_38 : decode cX11_others 38 = .ok (.iconst 4, 1) := by decide +kernel
theorem dX11_others_39 : decode cX11_others 39 = .ok (.goto 48, 3) := by decide +kernel
theorem dX11_others_42 : decode cX11_others 42 = .ok (.aload_n 0, 1) := by decide +kernel
theorem dX11_others_43 : decode cX11_others 43 = .ok (.ldc2_w 384, 3) := by decide +kernel
theorem dX11_others_46 : decode cX11_others 46 = .ok (.invokevirtual 368, 3) := by decide +kernel
theorem dX11_others_49 : decode cX11_others 49 = .ok (.ifCond .eq 7, 3) := by decide +kernel
theorem dX11_others_52 : decode cX11_others 52 = .ok (.iconst 5, 1) := by decide +kernel
theorem dX11_others_53 : decode cX11_others 53 = .ok (.goto 34, 3) := by decide +kernel
theorem dX11_others_56 : decode cX11_others 56 = .ok (.aload_n 0, 1) := by decide +kernel
theorem dX11_others_57 : decode cX11_others 57 = .ok (.ldc2_w 386, 3) := by decide +kernel
theorem dX11_others_60 : decode cX11_others 60 = .ok (.invokevirtual 368, 3) := by decide +kernel
theorem dX11_others_63 : decode cX11_others 63 = .ok (.ifCond .eq 8, 3) := by decide +kernel
theorem dX11_others_66 : decode cX11_others 66 = .ok (.bipush 6, 2) := by decide +kernel
theorem dX11_others_68 : decode cX11_others 68 = .ok (.goto 19, 3) := by decide +kernel
theorem dX11_others_71 : decode cX11_others 71 = .ok (.aload_n 0, 1) := by decide +kernel
theorem dX11_others_72 : decode cX11_others 72 = .ok (.ldc2_w 388, 3) := by decide +kernel
theorem dX11_others_75 : decode cX11_others 75 = .ok (.invokevirtual 368, 3) := by decide +kernel
theorem dX11_others_78 : decode cX11_others 78 = .ok (.ifCond .eq 8, 3) := by decide +kernel
theorem dX11_others_81 : decode cX11_others 81 = .ok (.bipush 12, 2) := by decide +kernel
theorem dX11_others_83 : decode cX11_others 83 = .ok (.goto 4, 3) := by decide +kernel
theorem dX11_others_86 : decode cX11_others 86 = .ok (.iconst (-1), 1) := by decide +kernel
theorem dX11_others_87 : decode cX11_others 87 = .ok (.istore_n 2, 1) := by decide +kernel
theorem dX11_others_88 : decode cX11_others 88 = .ok (.iload_n 2, 1) := by decide +kernel
theorem dX11_others_89 : decode cX11_others 89 = .ok (.iconst (-1), 1) := by decide +kernel
theorem dX11_others_90 : decode cX11_others 90 = .ok (.if_icmp .eq 18, 3) := by decide +kernel
theorem dX11_others_93 : decode cX11_others 93 = .ok (.aload_n 0, 1) := by decide +kernel
theorem dX11_others_94 : decode cX11_others 94 = .ok (.iload_n 1, 1) := by decide +kernel
theorem dX11_others_95 : decode cX11_others 95 = .ok (.iload_n 2, 1) := by decide +kernel
theorem dX11_others_96 : decode cX11_others 96 = .ok (.lconst 0, 1) := by decide +kernel
theorem dX11_others_97 : decode cX11_others 97 = .ok (.lconst 0, 1) := by decide +kernel
theorem dX11_others_98 : decode cX11_others 98 = .ok (.invokevirtual 390, 3) := by decide +kernel
theorem dX11_others_101 : decode cX11_others 101 = .ok (.ifCond .eq 7, 3) := by decide +kernel
theorem dX11_others_104 : decode cX11_others 104 = .ok (.iconst 1, 1) := by decide +kernel
theorem dX11_others_105 : decode cX11_others 105 = .ok (.goto 4, 3) := by decide +kernel
theorem dX11_others_108 : decode cX11_others 108 = .ok (.iconst 0, 1) := by decide +kernel
theorem dX11_others_109 : decode cX11_others 109 = .ok (.ireturn, 1) := by decide +kernel
theorem dX11_statement_0 : decode cX11_statement 0 = .ok (.aload_n 0, 1) := by decide +kernel
theorem dX11_statement_1 : decode cX11_statement 1 = .ok (.ldc2_w 394, 3) := by decide +kernel
theorem dX11_statement_4 : decode cX11_statement 4 = .ok (.invokevirtual 368, 3) := by decide +kernel
theorem dX11_statement_7 : decode cX11_statement 7 = .ok (.ifCond .eq 11, 3) := by decide +kernel
theorem dX11_statement_10 : decode cX11_statement 10 = .ok (.aload_n 0, 1) := by decide +kernel
theorem dX11_statement_11 : decode cX11_statement 11 = .ok (.iload_n 1, 1) := by decide +kernel
theorem dX11_statement_12 : decode cX11_statement 12 = .ok (.invokevirtual 396, 3) := by decide +kernel
theorem dX11_statement_15 : decode cX11_statement 15 = .ok (.goto 99, 3) := by decide +kernel
theorem dX11_statement_18 : decode cX11_statement 18 = .ok (.aload_n 0, 1) := by decide +kernel
theorem dX11_statement_19 : decode cX11_statement 19 = .ok (.ldc2_w 399, 3) := by decide +kernel
theorem dX11_statement_22 : decode cX11_statement 22 = .ok (.invokevirtual 368, 3) := by decide +kernel
theorem dX11_statement_25 : decode cX11_statement 25 = .ok (.ifCond .eq 11, 3) := by decide +kernel
theorem dX11_statement_28 : decode cX11_statement 28 = .ok (.aload_n 0, 1) := by decide +kernel
theorem dX11_statement_29 : decode cX11_statement 29 = .ok (.iload_n 1, 1) := by decide +kernel
theorem dX11_statement_30 : decode cX11_statement 30 = .ok (.invokevirtual 401, 3) := by decide +kernel
theorem dX11_statement_33 : decode cX11_statement 33 = .ok (.goto 81, 3) := by decide +kernel
theorem dX11_statement_36 : decode cX11_statement 36 = .ok (.aload_n 0, 1) := by decide +kernel
theorem dX11_statement_37 : decode cX11_statement 37 = .ok (.ldc2_w 404, 3) := by decide +kernel
theorem dX11_statement_40 : decode cX11_statement 40 = .ok (.invokevirtual 368, 3) := by decide +kernel
theorem dX11_statement_43 : decode cX11_statement 43 = .ok (.ifCond .eq 16, 3) := by decide +kernel
theorem dX11_statement_46 : decode cX11_statement 46 = .ok (.aload_n 0, 1) := by decide +kernel
theorem dX11_statement_47 : decode cX11_statement 47 = .ok (.iload_n 1, 1) := by decide +kernel
theorem dX11_statement_48 : decode cX11_statement 48 = .ok (.iconst 1, 1) := by decide +kernel
theorem dX11_statement_49 : decode cX11_statement 49 = .ok (.ldc2_w 376, 3) := by decide +kernel
theorem dX11_statement_52 : decode cX11_statement 52 = .ok (.lconst 0, 1) := by decide +kernel
theorem dX11_statement_53 : decode cX11_statement 53 = .ok (.invokevirtual 390, 3) := by decide +kernel
theorem dX11_statement_56 : decode cX11_statement 56 = .ok (.goto 58, 3) := by decide +kernel
theorem dX11_statement_59 : decode cX11_statement 59 = .ok (.aload_n 0, 1) := by decide +kernel
theorem dX11_statement_60 : decode cX11_statement 60 = .ok (.ldc2_w 406, 3) := by decide +kernel
theorem dX11_statement_63 : decode cX11_statement 63 = .ok (.invokevirtual 368, 3) := by decide +kernel
theorem dX11_statement_66 : decode cX11_statement 66 = .ok (.ifCond .eq 19, 3) := by decide +kernel
theorem dX11_statement_69 : decode cX11_statement 69 = .ok (.aload_n 0, 1) := by decide +kernel
theorem dX11_statement_70 : decode cX11_statement 70 = .ok (.iload_n 1, 1) := by decide +kernel
theorem dX11_statement_71 : decode cX11_statement 71 = .ok (.bipush 7, 2) := by decide +kernel
theorem dX11_statement_73 : decode cX11_statement 73 = .ok (.ldc2_w 408, 3) := by decide +kernel
theorem dX11_statement_76 : decode cX11_statement 76 = .ok (.ldc2_w 410, 3) := by decide +kernel
theorem dX11_statement_79 : decode cX11_statement 79 = .ok (.invokevirtual 390, 3) := by decide +kernel
theorem dX11_statement_82 : decode cX11_statement 82 = .ok (.goto 32, 3) := by decide +kernel
theorem dX11_statement_85 : decode cX11_statement 85 = .ok (.aload_n 0, 1) := by decide +kernel
theorem dX11_statement_86 : decode cX11_statement 86 = .ok (.ldc2_w 412, 3) := by decide +kernel
theorem dX11_statement_89 : decode cX11_statement 89 = .ok (.invokevirtual 368, 3) := by decide +kernel
theorem dX11_statement_92 : decode cX11_statement 92 = .ok (.ifCond .eq 17, 3) := by decide +kernel
theorem dX11_statement_95 : decode cX11_statement 95 = .ok (.aload_n 0, 1) := by decide +kernel
theorem dX11_statement_96 : decode cX11_statement 96 = .ok (.iload_n 1, 1) := by decide +kernel
theorem dX11_statement_97 : decode cX11_statement 97 = .ok (.bipush 10, 2) := by decide +kernel
theorem dX11_statement_99 : decode cX11_statement 99 = .ok (.ldc2_w 414, 3) := by decide +kernel
theorem dX11_statement_102 : decode cX11_statement 102 = .ok (.lconst 0, 1) := by decide +kernel
theorem dX11_statement_103 : decode cX11_statement 103 = .ok (.invokevirtual 390, 3) := by decide +kernel
theorem dX11_statement_106 : decode cX11_statement 106 = .ok (.goto 8, 3) := by decide +kernel
theorem dX11_statement_109 : decode cX11_statement 109 = .ok (.aload_n 0, 1) := by decide +kernel
theorem dX11_statement_110 : decode cX11_statement 110 = .ok (.iload_n 1, 1) := by decide +kernel
theorem dX11_statement_111 : decode cX11_statement 111 = .ok (.invokevirtual 416, 3) := by decide +kernel
theorem dX11_statement_114 : decode cX11_statement 114 = .ok (.istore_n 2, 1) := by decide +kernel
theorem dX11_statement_115 : decode cX11_statement 115 = .ok (.iload_n 2, 1) := by decide +kernel
theorem dX11_statement_116 : decode cX11_statement 116 = .ok (.ifCond .ne 5, 3) := by decide +kernel
theorem dX11_statement_119 : decode cX11_statement 119 = .ok (.iconst 0, 1) := by decide +kernel
theorem dX11_statement_120 : decode cX11_statement 120 = .ok (.ireturn, 1) := by decide +kernel
theorem dX11_statement_121 : decode cX11_statement 121 = .ok (.aload_n 0, 1) := by decide +kernel
theorem dX11_statement_122 : decode cX11_statement 122 = .ok (.invokevirtual 353, 3) := by decide +kernel
theorem dX11_statement_125 : decode cX11_statement 125 = .ok (.aload_n 0, 1) := by decide +kernel
theorem dX11_statement_126 : decode cX11_statement 126 = .ok (.getfield 347, 3) := by decide +kernel
theorem dX11_statement_129 : decode cX11_statement 129 = .ok (.aload_n 0, 1) := by decide +kernel
theorem dX11_statement_130 : decode cX11_statement 130 = .ok (.getfield 350, 3) := by decide +kernel
theorem dX11_statement_133 : decode cX11_statement 133 = .ok (.if_icmp .eq 17, 3) := by decide +kernel
theorem dX11_statement_136 : decode cX11_statement 136 = .ok (.aload_n 0, 1) := by decide +kernel
theorem dX11_statement_137 : decode cX11_statement 137 = .ok (.getfield 184, 3) := by decide +kernel
theorem dX11_statement_140 : decode cX11_statement 140 = .ok (.aload_n 0, 1) := by decide +kernel
theorem dX11_statement_141 : decode cX11_statement 141 = .ok (.getfield 347, 3) := by decide +kernel
theorem dX11_statement_144 : decode cX11_statement 144 = .ok (.baload, 1) := by decide +kernel
theorem dX11_statement_145 : decode cX11_statement 145 = .ok (.bipush 59, 2) := by decide +kernel
theorem dX11_statement_147 : decode cX11_statement 147 = .ok (.if_icmp .eq 5, 3) := by decide +kernel
theorem dX11_statement_150 : decode cX11_statement 150 = .ok (.iconst 0, 1) := by decide +kernel
theorem dX11_statement_151 : decode cX11_statement 151 = .ok (.ireturn, 1) := by decide +kernel
theorem dX11_statement_152 : decode cX11_statement 152 = .ok (.aload_n 0, 1) := by decide +kernel
theorem dX11_statement_153 : decode cX11_statement 153 = .ok (.dup, 1) := by decide +kernel
theorem dX11_statement_154 : decode cX11_statement 154 = .ok (.getfield 347, 3) := by decide +kernel
theorem dX11_statement_157 : decode cX11_statement 157 = .ok (.iconst 1, 1) := by decide +kernel
theorem dX11_statement_158 : decode cX11_statement 158 = .ok (.iadd, 1) := by decide +kernel
theorem dX11_statement_159 : decode cX11_statement 159 = .ok (.putfield 347, 3) := by decide +kernel
theorem dX11_statement_162 : decode cX11_statement 162 = .ok (.iconst 1, 1) := by decide +kernel
theorem dX11_statement_163 : decode cX11_statement 163 = .ok (.ireturn, 1) := by decide +kernel
theorem dX11_rules_0 : decode cX11_rules 0 = .ok (.iload_n 1, 1) := by decide +kernel
theorem dX11_rules_1 : decode cX11_rules 1 = .ok (.iconst 0, 1) := by decide +kernel
theorem dX11_rules_2 : decode cX11_rules 2 = .ok (.aload_n 0, 1) := by decide +kernel
theorem dX11_rules_3 : decode cX11_rules 3 = .ok (.getfield 341, 3) := by decide +kernel
theorem dX11_rules_6 : decode cX11_rules 6 = .ok (.invokestatic 194, 3) := by decide +kernel
theorem dX11_rules_9 : decode cX11_rules 9 = .ok (.ifCond .ne 6, 3) := by decide +kernel
theorem dX11_rules_12 : decode cX11_rules 12 = .ok (.bipush (-2), 2) := by decide +kernel
theorem dX11_rules_14 : decode cX11_rules 14 = .ok (.ireturn, 1) := by decide +kernel
theorem dX11_rules_15 : decode cX11_rules 15 = .ok (.aload_n 0, 1) := by decide +kernel
theorem dX11_rules_16 : decode cX11_rules 16 = .ok (.getfield 419, 3) := by decide +kernel
theorem dX11_rules_19 : decode cX11_rules 19 = .ok (.bipush 10, 2) := by decide +kernel
theorem dX11_rules_21 : decode cX11_rules 21 = .ok (.if_icmp .ne 6, 3) := by decide +kernel
theorem dX11_rules_24 : decode cX11_rules 24 = .ok (.bipush (-3), 2) := by decide +kernel
theorem dX11_rules_26 : decode cX11_rules 26 = .ok (.ireturn, 1) := by decide +kernel
theorem dX11_rules_27 : decode cX11_rules 27 = .ok (.iconst 0, 1) := by decide +kernel
theorem dX11_rules_28 : decode cX11_rules 28 = .ok (.istore_n 2, 1) := by decide +kernel
theorem dX11_rules_29 : decode cX11_rules 29 = .ok (.iload_n 2, 1) := by decide +kernel
theorem dX11_rules_30 : decode cX11_rules 30 = .ok (.iload_n 1, 1) := by decide +kernel
theorem dX11_rules_31 : decode cX11_rules 31 = .ok (.if_icmp .ge 21, 3) := by decide +kernel
theorem dX11_rules_34 : decode cX11_rules 34 = .ok (.aload_n 0, 1) := by decide +kernel
theorem dX11_rules_35 : decode cX11_rules 35 = .ok (.getfield 184, 3) := by decide +kernel
theorem dX11_rules_38 : decode cX11_rules 38 = .ok (.iload_n 2, 1) := by decide +kernel
theorem dX11_rules_39 : decode cX11_rules 39 = .ok (.aload_n 0, 1) := by decide +kernel
theorem dX11_rules_40 : decode cX11_rules 40 = .ok (.getfield 180, 3) := by decide +kernel
theorem dX11_rules_43 : decode cX11_rules 43 = .ok (.iload_n 2, 1) := by decide +kernel
theorem dX11_rules_44 : decode cX11_rules 44 = .ok (.baload, 1) := by decide +kernel
theorem dX11_rules_45 : decode cX11_rules 45 = .ok (.bastore, 1) := by decide +kernel
theorem dX11_rules_46 : decode cX11_rules 46 = .ok (.iinc 2 1, 3) := by decide +kernel
theorem dX11_rules_49 : decode cX11_rules 49 = .ok (.goto (-20), 3) := by decide +kernel
theorem dX11_rules_52 : decode cX11_rules 52 = .ok (.aload_n 0, 1) := by decide +kernel
theorem dX11_rules_53 : decode cX11_rules 53 = .ok (.iload_n 1, 1) := by decide +kernel
theorem dX11_rules_54 : decode cX11_rules 54 = .ok (.putfield 350, 3) := by decide +kernel
theorem dX11_rules_57 : decode cX11_rules 57 = .ok (.aload_n 0, 1) := by decide +kernel
theorem dX11_rules_58 : decode cX11_rules 58 = .ok (.iconst 0, 1) := by decide +kernel
theorem dX11_rules_59 : decode cX11_rules 59 = .ok (.putfield 341, 3) := by decide +kernel
theorem dX11_rules_62 : decode cX11_rules 62 = .ok (.aload_n 0, 1) := by decide +kernel
theorem dX11_rules_63 : decode cX11_rules 63 = .ok (.iconst 0, 1) := by decide +kernel
theorem dX11_rules_64 : decode cX11_rules 64 = .ok (.putfield 347, 3) := by decide +kernel
theorem dX11_rules_67 : decode cX11_rules 67 = .ok (.aload_n 0, 1) := by decide +kernel
theorem dX11_rules_68 : decode cX11_rules 68 = .ok (.getfield 159, 3) := by decide +kernel
theorem dX11_rules_71 : decode cX11_rules 71 = .ok (.aload_n 0, 1) := by decide +kernel
theorem dX11_rules_72 : decode cX11_rules 72 = .ok (.getfield 419, 3) := by decide +kernel
theorem dX11_rules_75 : decode cX11_rules 75 = .ok (.iconst 0, 1) := by decide +kernel
theorem dX11_rules_76 : decode cX11_rules 76 = .ok (.iastore, 1) := by decide +kernel
theorem dX11_rules_77 : decode cX11_rules 77 = .ok (.iconst 1, 1) := by decide +kernel
theorem dX11_rules_78 : decode cX11_rules 78 = .ok (.istore_n 2, 1) := by decide +kernel
theorem dX11_rules_79 : decode cX11_rules 79 = .ok (.aload_n 0, 1) := by decide +kernel
theorem dX11_rules_80 : decode cX11_rules 80 = .ok (.invokevirtual 353, 3) := by decide +kernel
theorem dX11_rules_83 : decode cX11_rules 83 = .ok (.iload_n 2, 1) := by decide +kernel
theorem dX11_rules_84 : decode cX11_rules 84 = .ok (.ifCond .eq 85, 3) := by decide +kernel
theorem dX11_rules_87 : decode cX11_rules 87 = .ok (.aload_n 0, 1) := by decide +kernel
theorem dX11_rules_88 : decode cX11_rules 88 = .ok (.getfield 347, 3) := by decide +kernel
theorem dX11_rules_91 : decode cX11_rules 91 = .ok (.aload_n 0, 1) := by decide +kernel
theorem dX11_rules_92 : decode cX11_rules 92 = .ok (.getfield 350, 3) := by decide +kernel
theorem dX11_rules_95 : decode cX11_rules 95 = .ok (.if_icmp .ge 74, 3) := by decide +kernel
theorem dX11_rules_98 : decode cX11_rules 98 = .ok (.aload_n 0, 1) := by decide +kernel
theorem dX11_rules_99 : decode cX11_rules 99 = .ok (.getfield 159, 3) := by decide +kernel
theorem dX11_rules_102 : decode cX11_rules 102 = .ok (.aload_n 0, 1) := by decide +kernel
theorem dX11_rules_103 : decode cX11_rules 103 = .ok (.getfield 419, 3) := by decide +kernel
theorem dX11_rules_106 : decode cX11_rules 106 = .ok (.iaload, 1) := by decide +kernel
theorem dX11_rules_107 : decode cX11_rules 107 = .ok (.bipush 24, 2) := by decide +kernel
theorem dX11_rules_109 : decode cX11_rules 109 = .ok (.if_icmp .ge 31, 3) := by decide +kernel
theorem dX11_rules_112 : decode cX11_rules 112 = .ok (.aload_n 0, 1) := by decide +kernel
theorem dX11_rules_113 : decode cX11_rules 113 = .ok (.bipush 24, 2) := by decide +kernel
theorem dX11_rules_115 : decode cX11_rules 115 = .ok (.aload_n 0, 1) := by decide +kernel
theorem dX11_rules_116 : decode cX11_rules 116 = .ok (.getfield 419, 3) := by decide +kernel
theorem dX11_rules_119 : decode cX11_rules 119 = .ok (.imul, 1) := by decide +kernel
theorem dX11_rules_120 : decode cX11_rules 120 = .ok (.aload_n 0, 1) := by decide +kernel
theorem dX11_rules_121 : decode cX11_rules 121 = .ok (.getfield 159, 3) := by decide +kernel
theorem dX11_rules_124 : decode cX11_rules 124 = .ok (.aload_n 0, 1) := by decide +kernel
theorem dX11_rules_125 : decode cX11_rules 125 = .ok (.getfield 419, 3) := by decide +kernel
theorem dX11_rules_128 : decode cX11_rules 128 = .ok (.iaload, 1) := by decide +kernel
theorem dX11_rules_129 : decode cX11_rules 129 = .ok (.iadd, 1) := by decide +kernel
theorem dX11_rules_130 : decode cX11_rules 130 = .ok (.invokevirtual 422, 3) := by decide +kernel
theorem dX11_rules_133 : decode cX11_rules 133 = .ok (.ifCond .eq 7, 3) := by decide +kernel
theorem dX11_rules_136 : decode cX11_rules 136 = .ok (.iconst 1, 1) := by decide +kernel
theorem dX11_rules_137 : decode cX11_rules 137 = .ok (.goto 4, 3) := by decide +kernel
theorem dX11_rules_140 : decode cX11_rules 140 = .ok (.iconst 0, 1) := by decide +kernel
theorem dX11_rules_141 : decode cX11_rules 141 = .ok (.istore_n 2, 1) := by decide +kernel
theorem dX11_rules_142 : decode cX11_rules 142 = .ok (.iload_n 2, 1) := by decide +kernel
theorem dX11_rules_143 : decode cX11_rules 143 = .ok (.ifCond .ne 6, 3) := by decide +kernel
theorem dX11_rules_146 : decode cX11_rules 146 = .ok (.goto (-63), 3) := by decide +kernel
theorem dX11_rules_149 : decode cX11_rules 149 = .ok (.aload_n 0, 1) := by decide +kernel
theorem dX11_rules_150 : decode cX11_rules 150 = .ok (.getfield 159, 3) := by decide +kernel
theorem dX11_rules_153 : decode cX11_rules 153 = .ok (.aload_n 0, 1) := by decide +kernel
theorem dX11_rules_154 : decode cX11_rules 154 = .ok (.getfield 419, 3) := by decide +kernel
theorem dX11_rules_157 : decode cX11_rules 157 = .ok (.dup2, 1) := by decide +kernel
theorem dX11_rules_158 : decode cX11_rules 158 = .ok (.iaload, 1) := by decide +kernel
theorem dX11_rules_159 : decode cX11_rules 159 = .ok (.iconst 1, 1) := by decide +kernel
theorem dX11_rules_160 : decode cX11_rules 160 = .ok (.iadd, 1) := by decide +kernel
theorem dX11_rules_161 : decode cX11_rules 161 = .ok (.iastore, 1) := by decide +kernel
theorem dX11_rules_162 : decode cX11_rules 162 = .ok (.aload_n 0, 1) := by decide +kernel
theorem dX11_rules_163 : decode cX11_rules 163 = .ok (.invokevirtual 353, 3) := by decide +kernel
theorem dX11_rules_166 : decode cX11_rules 166 = .ok (.goto (-83), 3) := by decide +kernel
theorem dX11_rules_169 : decode cX11_rules 169 = .ok (.aload_n 0, 1) := by decide +kernel
theorem dX11_rules_170 : decode cX11_rules 170 = .ok (.iload_n 2, 1) := by decide +kernel
theorem dX11_rules_171 : decode cX11_rules 171 = .ok (.ifCond .eq 7, 3) := by decide +kernel
theorem dX11_rules_174 : decode cX11_rules 174 = .ok (.iconst (-1), 1) := by decide +kernel
theorem dX11_rules_175 : decode cX11_rules 175 = .ok (.goto 7, 3) := by decide +kernel
theorem dX11_rules_178 : decode cX11_rules 178 = .ok (.aload_n 0, 1) := by decide +kernel
theorem dX11_rules_179 : decode cX11_rules 179 = .ok (.getfield 347, 3) := by decide +kernel
theorem dX11_rules_182 : decode cX11_rules 182 = .ok (.putfield 187, 3) := by decide +kernel
theorem dX11_rules_185 : decode cX11_rules 185 = .ok (.iload_n 2, 1) := by decide +kernel
theorem dX11_rules_186 : decode cX11_rules 186 = .ok (.ifCond .ne 5, 3) := by decide +kernel
theorem dX11_rules_189 : decode cX11_rules 189 = .ok (.iconst (-1), 1) := by decide +kernel
theorem dX11_rules_190 : decode cX11_rules 190 = .ok (.ireturn, 1) := by decide +kernel
theorem dX11_rules_191 : decode cX11_rules 191 = .ok (.aload_n 0, 1) := by decide +kernel
theorem dX11_rules_192 : decode cX11_rules 192 = .ok (.getfield 162, 3) := by decide +kernel
theorem dX11_rules_195 : decode cX11_rules 195 = .ok (.aload_n 0, 1) := by decide +kernel
theorem dX11_rules_196 : decode cX11_rules 196 = .ok (.getfield 419, 3) := by decide +kernel
theorem dX11_rules_199 : decode cX11_rules 199 = .ok (.aload_n 0, 1) := by decide +kernel
theorem dX11_rules_200 : decode cX11_rules 200 = .ok (.getfield 212, 3) := by decide +kernel
theorem dX11_rules_203 : decode cX11_rules 203 = .ok (.iastore, 1) := by decide +kernel
theorem dX11_rules_204 : decode cX11_rules 204 = .ok (.aload_n 0, 1) := by decide +kernel
theorem dX11_rules_205 : decode cX11_rules 205 = .ok (.dup, 1) := by decide +kernel
theorem dX11_rules_206 : decode cX11_rules 206 = .ok (.getfield 419, 3) := by decide +kernel
theorem dX11_rules_209 : decode cX11_rules 209 = .ok (.iconst 1, 1) := by decide +kernel
theorem dX11_rules_210 : decode cX11_rules 210 = .ok (.iadd, 1) := by decide +kernel
theorem dX11_rules_211 : decode cX11_rules 211 = .ok (.putfield 419, 3) := by decide +kernel
theorem dX11_rules_214 : decode cX11_rules 214 = .ok (.aload_n 0, 1) := by decide +kernel
theorem dX11_rules_215 : decode cX11_rules 215 = .ok (.getfield 419, 3) := by decide +kernel
theorem dX11_rules_218 : decode cX11_rules 218 = .ok (.iconst 1, 1) := by decide +kernel
theorem dX11_rules_219 : decode cX11_rules 219 = .ok (.isub, 1) := by decide +kernel
theorem dX11_rules_220 : decode cX11_rules 220 = .ok (.ireturn, 1) := by decide +kernel
theorem dX11_fault_0 : decode cX11_fault 0 = .ok (.aload_n 0, 1) := by decide +kernel
theorem dX11_fault_1 : decode cX11_fault 1 = .ok (.getfield 187, 3) := by decide +kernel
theorem dX11_fault_4 : decode cX11_fault 4 = .ok (.ireturn, 1) := by decide +kernel
theorem dX11_inForce_0 : decode cX11_inForce 0 = .ok (.iconst (-1), 1) := by decide +kernel
theorem dX11_inForce_1 : decode cX11_inForce 1 = .ok (.istore_n 2, 1) := by decide +kernel
theorem dX11_inForce_2 : decode cX11_inForce 2 = .ok (.iconst 0, 1) := by decide +kernel
theorem dX11_inForce_3 : decode cX11_inForce 3 = .ok (.istore_n 3, 1) := by decide +kernel
theorem dX11_inForce_4 : decode cX11_inForce 4 = .ok (.iload_n 3, 1) := by decide +kernel
theorem dX11_inForce_5 : decode cX11_inForce 5 = .ok (.aload_n 0, 1) := by decide +kernel
theorem dX11_inForce_6 : decode cX11_inForce 6 = .ok (.getfield 419, 3) := by decide +kernel
theorem dX11_inForce_9 : decode cX11_inForce 9 = .ok (.if_icmp .ge 21, 3) := by decide +kernel
theorem dX11_inForce_12 : decode cX11_inForce 12 = .ok (.aload_n 0, 1) := by decide +kernel
theorem dX11_inForce_13 : decode cX11_inForce 13 = .ok (.getfield 162, 3) := by decide +kernel
theorem dX11_inForce_16 : decode cX11_inForce 16 = .ok (.iload_n 3, 1) := by decide +kernel
theorem dX11_inForce_17 : decode cX11_inForce 17 = .ok (.iaload, 1) := by decide +kernel
theorem dX11_inForce_18 : decode cX11_inForce 18 = .ok (.iload_n 1, 1) := by decide +kernel
theorem dX11_inForce_19 : decode cX11_inForce 19 = .ok (.if_icmp .gt 5, 3) := by decide +kernel
theorem dX11_inForce_22 : decode cX11_inForce 22 = .ok (.iload_n 3, 1) := by decide +kernel
theorem dX11_inForce_23 : decode cX11_inForce 23 = .ok (.istore_n 2, 1) := by decide +kernel
theorem dX11_inForce_24 : decode cX11_inForce 24 = .ok (.iinc 3 1, 3) := by decide +kernel
theorem dX11_inForce_27 : decode cX11_inForce 27 = .ok (.goto (-23), 3) := by decide +kernel
theorem dX11_inForce_30 : decode cX11_inForce 30 = .ok (.iload_n 2, 1) := by decide +kernel
theorem dX11_inForce_31 : decode cX11_inForce 31 = .ok (.ireturn, 1) := by decide +kernel
theorem dX11_plain_0 : decode cX11_plain 0 = .ok (.iload_n 0, 1) := by decide +kernel
theorem dX11_plain_1 : decode cX11_plain 1 = .ok (.tableswitch 150 0 19 #[95, 97, 101, 105, 107, 110, 113, 115, 117, 119, 122, 125, 127, 130, 133, 136, 139, 142, 145, 148], 95) := by decide +kernel
theorem dX11_plain_96 : decode cX11_plain 96 = .ok (.iconst 2, 1) := by decide +kernel
theorem dX11_plain_97 : decode cX11_plain 97 = .ok (.ireturn, 1) := by decide +kernel
theorem dX11_plain_98 : decode cX11_plain 98 = .ok (.sipush 250, 3) := by decide +kernel
theorem dX11_plain_101 : decode cX11_plain 101 = .ok (.ireturn, 1) := by decide +kernel
theorem dX11_plain_102 : decode cX11_plain 102 = .ok (.sipush 320, 3) := by decide +kernel
theorem dX11_plain_105 : decode cX11_plain 105 = .ok (.ireturn, 1) := by decide +kernel
theorem dX11_plain_106 : decode cX11_plain 106 = .ok (.iconst 3, 1) := by decide +kernel
theorem dX11_plain_107 : decode cX11_plain 107 = .ok (.ireturn, 1) := by decide +kernel
theorem dX11_plain_108 : decode cX11_plain 108 = .ok (.bipush 20, 2) := by decide +kernel
theorem dX11_plain_110 : decode cX11_plain 110 = .ok (.ireturn, 1) := by decide +kernel
theorem dX11_plain_111 : decode cX11_plain 111 = .ok (.bipush 30, 2) := by decide +kernel
theorem dX11_plain_113 : decode cX11_plain 113 = .ok (.ireturn, 1) := by decide +kernel
theorem dX11_plain_114 : decode cX11_plain 114 = .ok (.iconst 3, 1) := by decide +kernel
theorem dX11_plain_115 : decode cX11_plain 115 = .ok (.ireturn, 1) := by decide +kernel
theorem dX11_plain_116 : decode cX11_plain 116 = .ok (.iconst 5, 1) := by decide +kernel
theorem dX11_plain_117 : decode cX11_plain 117 = .ok (.ireturn, 1) := by decide +kernel
theorem dX11_plain_118 : decode cX11_plain 118 = .ok (.iconst 2, 1) := by decide +kernel
theorem dX11_plain_119 : decode cX11_plain 119 = .ok (.ireturn, 1) := by decide +kernel
theorem dX11_plain_120 : decode cX11_plain 120 = .ok (.bipush 10, 2) := by decide +kernel
theorem dX11_plain_122 : decode cX11_plain 122 = .ok (.ireturn, 1) := by decide +kernel
theorem dX11_plain_123 : decode cX11_plain 123 = .ok (.bipush 50, 2) := by decide +kernel
theorem dX11_plain_125 : decode cX11_plain 125 = .ok (.ireturn, 1) := by decide +kernel
theorem dX11_plain_126 : decode cX11_plain 126 = .ok (.iconst 1, 1) := by decide +kernel
theorem dX11_plain_127 : decode cX11_plain 127 = .ok (.ireturn, 1) := by decide +kernel
theorem dX11_plain_128 : decode cX11_plain 128 = .ok (.bipush 10, 2) := by decide +kernel
theorem dX11_plain_130 : decode cX11_plain 130 = .ok (.ireturn, 1) := by decide +kernel
theorem dX11_plain_131 : decode cX11_plain 131 = .ok (.bipush 80, 2) := by decide +kernel
theorem dX11_plain_133 : decode cX11_plain 133 = .ok (.ireturn, 1) := by decide +kernel
theorem dX11_plain_134 : decode cX11_plain 134 = .ok (.bipush 100, 2) := by decide +kernel
theorem dX11_plain_136 : decode cX11_plain 136 = .ok (.ireturn, 1) := by decide +kernel
theorem dX11_plain_137 : decode cX11_plain 137 = .ok (.bipush 50, 2) := by decide +kernel
theorem dX11_plain_139 : decode cX11_plain 139 = .ok (.ireturn, 1) := by decide +kernel
theorem dX11_plain_140 : decode cX11_plain 140 = .ok (.bipush 80, 2) := by decide +kernel
theorem dX11_plain_142 : decode cX11_plain 142 = .ok (.ireturn, 1) := by decide +kernel
theorem dX11_plain_143 : decode cX11_plain 143 = .ok (.bipush 20, 2) := by decide +kernel
theorem dX11_plain_145 : decode cX11_plain 145 = .ok (.ireturn, 1) := by decide +kernel
theorem dX11_plain_146 : decode cX11_plain 146 = .ok (.bipush 50, 2) := by decide +kernel
theorem dX11_plain_148 : decode cX11_plain 148 = .ok (.ireturn, 1) := by decide +kernel
theorem dX11_plain_149 : decode cX11_plain 149 = .ok (.iconst 0, 1) := by decide +kernel
theorem dX11_plain_150 : decode cX11_plain 150 = .ok (.ireturn, 1) := by decide +kernel
theorem dX11_plain_151 : decode cX11_plain 151 = .ok (.bipush 20, 2) := by decide +kernel
theorem dX11_plain_153 : decode cX11_plain 153 = .ok (.ireturn, 1) := by decide +kernel
theorem dX11_lawOn_0 : decode cX11_lawOn 0 = .ok (.iload_n 2, 1) := by decide +kernel
theorem dX11_lawOn_1 : decode cX11_lawOn 1 = .ok (.invokestatic 425, 3) := by decide +kernel
theorem dX11_lawOn_4 : decode cX11_lawOn 4 = .ok (.istore_n 3, 1) := by decide +kernel
theorem dX11_lawOn_5 : decode cX11_lawOn 5 = .ok (.aload_n 0, 1) := by decide +kernel
theorem dX11_lawOn_6 : decode cX11_lawOn 6 = .ok (.iload_n 1, 1) := by decide +kernel
theorem dX11_lawOn_7 : decode cX11_lawOn 7 = .ok (.invokevirtual 240, 3) := by decide +kernel
theorem dX11_lawOn_10 : decode cX11_lawOn 10 = .ok (.istore 4, 2) := by decide +kernel
theorem dX11_lawOn_12 : decode cX11_lawOn 12 = .ok (.bipush 24, 2) := by decide +kernel
theorem dX11_lawOn_14 : decode cX11_lawOn 14 = .ok (.iload 4, 2) := by decide +kernel
theorem dX11_lawOn_16 : decode cX11_lawOn 16 = .ok (.imul, 1) := by decide +kernel
theorem dX11_lawOn_17 : decode cX11_lawOn 17 = .ok (.istore 5, 2) := by decide +kernel
theorem dX11_lawOn_19 : decode cX11_lawOn 19 = .ok (.iload 4, 2) := by decide +kernel
theorem dX11_lawOn_21 : decode cX11_lawOn 21 = .ok (.iconst (-1), 1) := by decide +kernel
theorem dX11_lawOn_22 : decode cX11_lawOn 22 = .ok (.if_icmp .eq 204, 3) := by decide +kernel
theorem dX11_lawOn_25 : decode cX11_lawOn 25 = .ok (.iload 5, 2) := by decide +kernel
theorem dX11_lawOn_27 : decode cX11_lawOn 27 = .ok (.bipush 24, 2) := by decide +kernel
theorem dX11_lawOn_29 : decode cX11_lawOn 29 = .ok (.iload 4, 2) := by decide +kernel
theorem dX11_lawOn_31 : decode cX11_lawOn 31 = .ok (.imul, 1) := by decide +kernel
theorem dX11_lawOn_32 : decode cX11_lawOn 32 = .ok (.aload_n 0, 1) := by decide +kernel
theorem dX11_lawOn_33 : decode cX11_lawOn 33 = .ok (.getfield 159, 3) := by decide +kernel
theorem dX11_lawOn_36 : decode cX11_lawOn 36 = .ok (.iload 4, 2) := by decide +kernel
theorem dX11_lawOn_38 : decode cX11_lawOn 38 = .ok (.iaload, 1) := by decide +kernel
theorem dX11_lawOn_39 : decode cX11_lawOn 39 = .ok (.iadd, 1) := by decide +kernel
theorem dX11_lawOn_40 : decode cX11_lawOn 40 = .ok (.if_icmp .ge 186, 3) := by decide +kernel
theorem dX11_lawOn_43 : decode cX11_lawOn 43 = .ok (.aload_n 0, 1) := by decide +kernel
theorem dX11_lawOn_44 : decode cX11_lawOn 44 = .ok (.getfield 165, 3) := by decide +kernel
theorem dX11_lawOn_47 : decode cX11_lawOn 47 = .ok (.iload 5, 2) := by decide +kernel
theorem dX11_lawOn_49 : decode cX11_lawOn 49 = .ok (.iaload, 1) := by decide +kernel
theorem dX11_lawOn_50 : decode cX11_lawOn 50 = .ok (.iload_n 2, 1) := by decide +kernel
theorem dX11_lawOn_51 : decode cX11_lawOn 51 = .ok (.if_icmp .ne 11, 3) := by decide +kernel
theorem dX11_lawOn_54 : decode cX11_lawOn 54 = .ok (.aload_n 0, 1) := by decide +kernel
theorem dX11_lawOn_55 : decode cX11_lawOn 55 = .ok (.getfield 168, 3) := by decide +kernel
theorem dX11_lawOn_58 : decode cX11_lawOn 58 = .ok (.iload 5, 2) := by decide +kernel
theorem dX11_lawOn_60 : decode cX11_lawOn 60 = .ok (.iaload, 1) := by decide +kernel
theorem dX11_lawOn_61 : decode cX11_lawOn 61 = .ok (.istore_n 3, 1) := by decide +kernel
theorem dX11_lawOn_62 : decode cX11_lawOn 62 = .ok (.aload_n 0, 1) := by decide +kernel
theorem dX11_lawOn_63 : decode cX11_lawOn 63 = .ok (.getfield 165, 3) := by decide +kernel
theorem dX11_lawOn_66 : decode cX11_lawOn 66 = .ok (.iload 5, 2) := by decide +kernel
theorem dX11_lawOn_68 : decode cX11_lawOn 68 = .ok (.iaload, 1) := by decide +kernel
theorem dX11_lawOn_69 : decode cX11_lawOn 69 = .ok (.iconst 1, 1) := by decide +kernel
theorem dX11_lawOn_70 : decode cX11_lawOn 70 = .ok (.if_icmp .ne 8, 3) := by decide +kernel
theorem dX11_lawOn_73 : decode cX11_lawOn 73 = .ok (.iload_n 2, 1) := by decide +kernel
theorem dX11_lawOn_74 : decode cX11_lawOn 74 = .ok (.iconst 2, 1) := by decide +kernel
theorem dX11_lawOn_75 : decode cX11_lawOn 75 = .ok (.if_icmp .eq 39, 3) := by decide +kernel
theorem dX11_lawOn_78 : decode cX11_lawOn 78 = .ok (.aload_n 0, 1) := by decide +kernel
theorem dX11_lawOn_79 : decode cX11_lawOn 79 = .ok (.getfield 165, 3) := by decide +kernel
theorem dX11_lawOn_82 : decode cX11_lawOn 82 = .ok (.iload 5, 2) := by decide +kernel
theorem dX11_lawOn_84 : decode cX11_lawOn 84 = .ok (.iaload, 1) := by decide +kernel
theorem dX11_lawOn_85 : decode cX11_lawOn 85 = .ok (.bipush 7, 2) := by decide +kernel
theorem dX11_lawOn_87 : decode cX11_lawOn 87 = .ok (.if_icmp .ne 9, 3) := by decide +kernel
theorem dX11_lawOn_90 : decode cX11_lawOn 90 = .ok (.iload_n 2, 1) := by decide +kernel
theorem dX11_lawOn_91 : decode cX11_lawOn 91 = .ok (.bipush 8, 2) := by decide +kernel
theorem dX11_lawOn_93 : decode cX11_lawOn 93 = .ok (.if_icmp .eq 21, 3) := by decide +kernel
theorem dX11_lawOn_96 : decode cX11_lawOn 96 = .ok (.aload_n 0, 1) := by decide +kernel
theorem dX11_lawOn_97 : decode cX11_lawOn 97 = .ok (.getfield 165, 3) := by decide +kernel
theorem dX11_lawOn_100 : decode cX11_lawOn 100 = .ok (.iload 5, 2) := by decide +kernel
theorem dX11_lawOn_102 : decode cX11_lawOn 102 = .ok (.iaload, 1) := by decide +kernel
theorem dX11_lawOn_103 : decode cX11_lawOn 103 = .ok (.bipush 10, 2) := by decide +kernel
theorem dX11_lawOn_105 : decode cX11_lawOn 105 = .ok (.if_icmp .ne 17, 3) := by decide +kernel
theorem dX11_lawOn_108 : decode cX11_lawOn 108 = .ok (.iload_n 2, 1) := by decide +kernel
theorem dX11_lawOn_109 : decode cX11_lawOn 109 = .ok (.bipush 11, 2) := by decide +kernel
theorem dX11_lawOn_111 : decode cX11_lawOn 111 = .ok (.if_icmp .ne 11, 3) := by decide +kernel
theorem dX11_lawOn_114 : decode cX11_lawOn 114 = .ok (.aload_n 0, 1) := by decide +kernel
theorem dX11_lawOn_115 : decode cX11_lawOn 115 = .ok (.getfield 171, 3) := by decide +kernel
theorem dX11_lawOn_118 : decode cX11_lawOn 118 = .ok (.iload 5, 2) := by decide +kernel
theorem dX11_lawOn_120 : decode cX11_lawOn 120 = .ok (.iaload, 1) := by decide +kernel
theorem dX11_lawOn_121 : decode cX11_lawOn 121 = .ok (.istore_n 3, 1) := by decide +kernel
theorem dX11_lawOn_122 : decode cX11_lawOn 122 = .ok (.aload_n 0, 1) := by decide +kernel
theorem dX11_lawOn_123 : decode cX11_lawOn 123 = .ok (.getfield 165, 3) := by decide +kernel
theorem dX11_lawOn_126 : decode cX11_lawOn 126 = .ok (.iload 5, 2) := by decide +kernel
theorem dX11_lawOn_128 : decode cX11_lawOn 128 = .ok (.iaload, 1) := by decide +kernel
theorem dX11_lawOn_129 : decode cX11_lawOn 129 = .ok (.bipush 7, 2) := by decide +kernel
theorem dX11_lawOn_131 : decode cX11_lawOn 131 = .ok (.if_icmp .ne 17, 3) := by decide +kernel
theorem dX11_lawOn_134 : decode cX11_lawOn 134 = .ok (.iload_n 2, 1) := by decide +kernel
theorem dX11_lawOn_135 : decode cX11_lawOn 135 = .ok (.bipush 9, 2) := by decide +kernel
theorem dX11_lawOn_137 : decode cX11_lawOn 137 = .ok (.if_icmp .ne 11, 3) := by decide +kernel
theorem dX11_lawOn_140 : decode cX11_lawOn 140 = .ok (.aload_n 0, 1) := by decide +kernel
theorem dX11_lawOn_141 : decode cX11_lawOn 141 = .ok (.getfield 174, 3) := by decide +kernel
theorem dX11_lawOn_144 : decode cX11_lawOn 144 = .ok (.iload 5, 2) := by decide +kernel
theorem dX11_lawOn_146 : decode cX11_lawOn 146 = .ok (.iaload, 1) := by decide +kernel
theorem dX11_lawOn_147 : decode cX11_lawOn 147 = .ok (.istore_n 3, 1) := by decide +kernel
theorem dX11_lawOn_148 : decode cX11_lawOn 148 = .ok (.aload_n 0, 1) := by decide +kernel
theorem dX11_lawOn_149 : decode cX11_lawOn 149 = .ok (.getfield 165, 3) := by decide +kernel
theorem dX11_lawOn_152 : decode cX11_lawOn 152 = .ok (.iload 5, 2) := by decide +kernel
theorem dX11_lawOn_154 : decode cX11_lawOn 154 = .ok (.iaload, 1) := by decide +kernel
theorem dX11_lawOn_155 : decode cX11_lawOn 155 = .ok (.bipush 31, 2) := by decide +kernel
theorem dX11_lawOn_157 : decode cX11_lawOn 157 = .ok (.if_icmp .ne 27, 3) := by decide +kernel
theorem dX11_lawOn_160 : decode cX11_lawOn 160 = .ok (.iload_n 2, 1) := by decide +kernel
theorem dX11_lawOn_161 : decode cX11_lawOn 161 = .ok (.bipush 13, 2) := by decide +kernel
theorem dX11_lawOn_163 : decode cX11_lawOn 163 = .ok (.iconst 2, 1) := by decide +kernel
theorem dX11_lawOn_164 : decode cX11_lawOn 164 = .ok (.aload_n 0, 1) := by decide +kernel
theorem dX11_lawOn_165 : decode cX11_lawOn 165 = .ok (.getfield 168, 3) := by decide +kernel
theorem dX11_lawOn_168 : decode cX11_lawOn 168 = .ok (.iload 5, 2) := by decide +kernel
theorem dX11_lawOn_170 : decode cX11_lawOn 170 = .ok (.iaload, 1) := by decide +kernel
theorem dX11_lawOn_171 : decode cX11_lawOn 171 = .ok (.imul, 1) := by decide +kernel
theorem dX11_lawOn_172 : decode cX11_lawOn 172 = .ok (.iadd, 1) := by decide +kernel
theorem dX11_lawOn_173 : decode cX11_lawOn 173 = .ok (.if_icmp .ne 11, 3) := by decide +kernel
theorem dX11_lawOn_176 : decode cX11_lawOn 176 = .ok (.aload_n 0, 1) := by decide +kernel
theorem dX11_lawOn_177 : decode cX11_lawOn 177 = .ok (.getfield 171, 3) := by decide +kernel
theorem dX11_lawOn_180 : decode cX11_lawOn 180 = .ok (.iload 5, 2) := by decide +kernel
theorem dX11_lawOn_182 : decode cX11_lawOn 182 = .ok (.iaload, 1) := by decide +kernel
theorem dX11_lawOn_183 : decode cX11_lawOn 183 = .ok (.istore_n 3, 1) := by decide +kernel
theorem dX11_lawOn_184 : decode cX11_lawOn 184 = .ok (.aload_n 0, 1) := by decide +kernel
theorem dX11_lawOn_185 : decode cX11_lawOn 185 = .ok (.getfield 165, 3) := by decide +kernel
theorem dX11_lawOn_188 : decode cX11_lawOn 188 = .ok (.iload 5, 2) := by decide +kernel
theorem dX11_lawOn_190 : decode cX11_lawOn 190 = .ok (.iaload, 1) := by decide +kernel
theorem dX11_lawOn_191 : decode cX11_lawOn 191 = .ok (.bipush 31, 2) := by decide +kernel
theorem dX11_lawOn_193 : decode cX11_lawOn 193 = .ok (.if_icmp .ne 27, 3) := by decide +kernel
theorem dX11_lawOn_196 : decode cX11_lawOn 196 = .ok (.iload_n 2, 1) := by decide +kernel
theorem dX11_lawOn_197 : decode cX11_lawOn 197 = .ok (.bipush 14, 2) := by decide +kernel
theorem dX11_lawOn_199 : decode cX11_lawOn 199 = .ok (.iconst 2, 1) := by decide +kernel
theorem dX11_lawOn_200 : decode cX11_lawOn 200 = .ok (.aload_n 0, 1) := by decide +kernel
theorem dX11_lawOn_201 : decode cX11_lawOn 201 = .ok (.getfield 168, 3) := by decide +kernel
theorem dX11_lawOn_204 : decode cX11_lawOn 204 = .ok (.iload 5, 2) := by decide +kernel
theorem dX11_lawOn_206 : decode cX11_lawOn 206 = .ok (.iaload, 1) := by decide +kernel
theorem dX11_lawOn_207 : decode cX11_lawOn 207 = .ok (.imul, 1) := by decide +kernel
theorem dX11_lawOn_208 : decode cX11_lawOn 208 = .ok (.iadd, 1) := by decide +kernel
theorem dX11_lawOn_209 : decode cX11_lawOn 209 = .ok (.if_icmp .ne 11, 3) := by decide +kernel
theorem dX11_lawOn_212 : decode cX11_lawOn 212 = .ok (.aload_n 0, 1) := by decide +kernel
theorem dX11_lawOn_213 : decode cX11_lawOn 213 = .ok (.getfield 174, 3) := by decide +kernel
theorem dX11_lawOn_216 : decode cX11_lawOn 216 = .ok (.iload 5, 2) := by decide +kernel
theorem dX11_lawOn_218 : decode cX11_lawOn 218 = .ok (.iaload, 1) := by decide +kernel
theorem dX11_lawOn_219 : decode cX11_lawOn 219 = .ok (.istore_n 3, 1) := by decide +kernel
theorem dX11_lawOn_220 : decode cX11_lawOn 220 = .ok (.iinc 5 1, 3) := by decide +kernel
theorem dX11_lawOn_223 : decode cX11_lawOn 223 = .ok (.goto (-204), 3) := by decide +kernel
theorem dX11_lawOn_226 : decode cX11_lawOn 226 = .ok (.iload_n 3, 1) := by decide +kernel
theorem dX11_lawOn_227 : decode cX11_lawOn 227 = .ok (.ireturn, 1) := by decide +kernel
theorem dX11_now_0 : decode cX11_now 0 = .ok (.aload_n 0, 1) := by decide +kernel
theorem dX11_now_1 : decode cX11_now 1 = .ok (.aload_n 0, 1) := by decide +kernel
theorem dX11_now_2 : decode cX11_now 2 = .ok (.getfield 212, 3) := by decide +kernel
theorem dX11_now_5 : decode cX11_now 5 = .ok (.iload_n 1, 1) := by decide +kernel
theorem dX11_now_6 : decode cX11_now 6 = .ok (.invokevirtual 332, 3) := by decide +kernel
theorem dX11_now_9 : decode cX11_now 9 = .ok (.ireturn, 1) := by decide +kernel
theorem dX11_isTurn_0 : decode cX11_isTurn 0 = .ok (.aload_n 0, 1) := by decide +kernel
theorem dX11_isTurn_1 : decode cX11_isTurn 1 = .ok (.getfield 165, 3) := by decide +kernel
theorem dX11_isTurn_4 : decode cX11_isTurn 4 = .ok (.iload_n 1, 1) := by decide +kernel
theorem dX11_isTurn_5 : decode cX11_isTurn 5 = .ok (.iaload, 1) := by decide +kernel
theorem dX11_isTurn_6 : decode cX11_isTurn 6 = .ok (.bipush 30, 2) := by decide +kernel
theorem dX11_isTurn_8 : decode cX11_isTurn 8 = .ok (.if_icmp .ne 59, 3) := by decide +kernel
theorem dX11_isTurn_11 : decode cX11_isTurn 11 = .ok (.aload_n 0, 1) := by decide +kernel
theorem dX11_isTurn_12 : decode cX11_isTurn 12 = .ok (.getfield 168, 3) := by decide +kernel
theorem dX11_isTurn_15 : decode cX11_isTurn 15 = .ok (.iload_n 1, 1) := by decide +kernel
theorem dX11_isTurn_16 : decode cX11_isTurn 16 = .ok (.iaload, 1) := by decide +kernel
theorem dX11_isTurn_17 : decode cX11_isTurn 17 = .ok (.bipush 10, 2) := by decide +kernel
theorem dX11_isTurn_19 : decode cX11_isTurn 19 = .ok (.if_icmp .ge 48, 3) := by decide +kernel
theorem dX11_isTurn_22 : decode cX11_isTurn 22 = .ok (.aload_n 0, 1) := by decide +kernel
theorem dX11_isTurn_23 : decode cX11_isTurn 23 = .ok (.getfield 171, 3) := by decide +kernel
theorem dX11_isTurn_26 : decode cX11_isTurn 26 = .ok (.iload_n 1, 1) := by decide +kernel
theorem dX11_isTurn_27 : decode cX11_isTurn 27 = .ok (.iaload, 1) := by decide +kernel
theorem dX11_isTurn_28 : decode cX11_isTurn 28 = .ok (.aload_n 0, 1) := by decide +kernel
theorem dX11_isTurn_29 : decode cX11_isTurn 29 = .ok (.getfield 191, 3) := by decide +kernel
theorem dX11_isTurn_32 : decode cX11_isTurn 32 = .ok (.if_icmp .ge 35, 3) := by decide +kernel
theorem dX11_isTurn_35 : decode cX11_isTurn 35 = .ok (.iload_n 2, 1) := by decide +kernel
theorem dX11_isTurn_36 : decode cX11_isTurn 36 = .ok (.aload_n 0, 1) := by decide +kernel
theorem dX11_isTurn_37 : decode cX11_isTurn 37 = .ok (.getfield 177, 3) := by decide +kernel
theorem dX11_isTurn_40 : decode cX11_isTurn 40 = .ok (.iload_n 1, 1) := by decide +kernel
theorem dX11_isTurn_41 : decode cX11_isTurn 41 = .ok (.iaload, 1) := by decide +kernel
theorem dX11_isTurn_42 : decode cX11_isTurn 42 = .ok (.if_icmp .lt 25, 3) := by decide +kernel
theorem dX11_isTurn_45 : decode cX11_isTurn 45 = .ok (.iload_n 2, 1) := by decide +kernel
theorem dX11_isTurn_46 : decode cX11_isTurn 46 = .ok (.aload_n 0, 1) := by decide +kernel
theorem dX11_isTurn_47 : decode cX11_isTurn 47 = .ok (.getfield 177, 3) := by decide +kernel
theorem dX11_isTurn_50 : decode cX11_isTurn 50 = .ok (.iload_n 1, 1) := by decide +kernel
theorem dX11_isTurn_51 : decode cX11_isTurn 51 = .ok (.iaload, 1) := by decide +kernel
theorem dX11_isTurn_52 : decode cX11_isTurn 52 = .ok (.isub, 1) := by decide +kernel
theorem dX11_isTurn_53 : decode cX11_isTurn 53 = .ok (.aload_n 0, 1) := by decide +kernel
theorem dX11_isTurn_54 : decode cX11_isTurn 54 = .ok (.getfield 174, 3) := by decide +kernel
theorem dX11_isTurn_57 : decode cX11_isTurn 57 = .ok (.iload_n 1, 1) := by decide +kernel
theorem dX11_isTurn_58 : decode cX11_isTurn 58 = .ok (.iaload, 1) := by decide +kernel
theorem dX11_isTurn_59 : decode cX11_isTurn 59 = .ok (.irem, 1) := by decide +kernel
theorem dX11_isTurn_60 : decode cX11_isTurn 60 = .ok (.ifCond .ne 7, 3) := by decide +kernel
theorem dX11_isTurn_63 : decode cX11_isTurn 63 = .ok (.iconst 1, 1) := by decide +kernel
theorem dX11_isTurn_64 : decode cX11_isTurn 64 = .ok (.goto 4, 3) := by decide +kernel
theorem dX11_isTurn_67 : decode cX11_isTurn 67 = .ok (.iconst 0, 1) := by decide +kernel
theorem dX11_isTurn_68 : decode cX11_isTurn 68 = .ok (.ireturn, 1) := by decide +kernel
theorem dX11_law_0 : decode cX11_law 0 = .ok (.iload_n 1, 1) := by decide +kernel
theorem dX11_law_1 : decode cX11_law 1 = .ok (.iconst 0, 1) := by decide +kernel
theorem dX11_law_2 : decode cX11_law 2 = .ok (.sipush 3649, 3) := by decide +kernel
theorem dX11_law_5 : decode cX11_law 5 = .ok (.invokestatic 194, 3) := by decide +kernel
theorem dX11_law_8 : decode cX11_law 8 = .ok (.ifCond .eq 13, 3) := by decide +kernel
theorem dX11_law_11 : decode cX11_law 11 = .ok (.iload_n 2, 1) := by decide +kernel
theorem dX11_law_12 : decode cX11_law 12 = .ok (.iconst 0, 1) := by decide +kernel
theorem dX11_law_13 : decode cX11_law 13 = .ok (.bipush 22, 2) := by decide +kernel
theorem dX11_law_15 : decode cX11_law 15 = .ok (.invokestatic 194, 3) := by decide +kernel
theorem dX11_law_18 : decode cX11_law 18 = .ok (.ifCond .ne 5, 3) := by decide +kernel
theorem dX11_law_21 : decode cX11_law 21 = .ok (.iconst (-1), 1) := by decide +kernel
theorem dX11_law_22 : decode cX11_law 22 = .ok (.ireturn, 1) := by decide +kernel
theorem dX11_law_23 : decode cX11_law 23 = .ok (.aload_n 0, 1) := by decide +kernel
theorem dX11_law_24 : decode cX11_law 24 = .ok (.iload_n 1, 1) := by decide +kernel
theorem dX11_law_25 : decode cX11_law 25 = .ok (.invokevirtual 240, 3) := by decide +kernel
theorem dX11_law_28 : decode cX11_law 28 = .ok (.istore_n 3, 1) := by decide +kernel
theorem dX11_law_29 : decode cX11_law 29 = .ok (.iload_n 2, 1) := by decide +kernel
theorem dX11_law_30 : decode cX11_law 30 = .ok (.bipush 22, 2) := by decide +kernel
theorem dX11_law_32 : decode cX11_law 32 = .ok (.if_icmp .ne 5, 3) := by decide +kernel
theorem dX11_law_35 : decode cX11_law 35 = .ok (.iload_n 3, 1) := by decide +kernel
theorem dX11_law_36 : decode cX11_law 36 = .ok (.ireturn, 1) := by decide +kernel
theorem dX11_law_37 : decode cX11_law 37 = .ok (.iload_n 2, 1) := by decide +kernel
theorem dX11_law_38 : decode cX11_law 38 = .ok (.bipush 21, 2) := by decide +kernel
theorem dX11_law_40 : decode cX11_law 40 = .ok (.if_icmp .ge 10, 3) := by decide +kernel
theorem dX11_law_43 : decode cX11_law 43 = .ok (.aload_n 0, 1) := by decide +kernel
theorem dX11_law_44 : decode cX11_law 44 = .ok (.iload_n 1, 1) := by decide +kernel
theorem dX11_law_45 : decode cX11_law 45 = .ok (.iload_n 2, 1) := by decide +kernel
theorem dX11_law_46 : decode cX11_law 46 = .ok (.invokevirtual 332, 3) := by decide +kernel
theorem dX11_law_49 : decode cX11_law 49 = .ok (.ireturn, 1) := by decide +kernel
theorem dX11_law_50 : decode cX11_law 50 = .ok (.iconst 0, 1) := by decide +kernel
theorem dX11_law_51 : decode cX11_law 51 = .ok (.istore 4, 2) := by decide +kernel
theorem dX11_law_53 : decode cX11_law 53 = .ok (.bipush 24, 2) := by decide +kernel
theorem dX11_law_55 : decode cX11_law 55 = .ok (.iload_n 3, 1) := by decide +kernel
theorem dX11_law_56 : decode cX11_law 56 = .ok (.imul, 1) := by decide +kernel
theorem dX11_law_57 : decode cX11_law 57 = .ok (.istore 5, 2) := by decide +kernel
theorem dX11_law_59 : decode cX11_law 59 = .ok (.iload_n 3, 1) := by decide +kernel
theorem dX11_law_60 : decode cX11_law 60 = .ok (.iconst (-1), 1) := by decide +kernel
theorem dX11_law_61 : decode cX11_law 61 = .ok (.if_icmp .eq 50, 3) := by decide +kernel
theorem dX11_law_64 : decode cX11_law 64 = .ok (.iload 5, 2) := by decide +kernel
theorem dX11_law_66 : decode cX11_law 66 = .ok (.bipush 24, 2) := by decide +kernel
theorem dX11_law_68 : decode cX11_law 68 = .ok (.iload_n 3, 1) := by decide +kernel
theorem dX11_law_69 : decode cX11_law 69 = .ok (.imul, 1) := by decide +kernel
theorem dX11_law_70 : decode cX11_law 70 = .ok (.aload_n 0, 1) := by decide +kernel
theorem dX11_law_71 : decode cX11_law 71 = .ok (.getfield 159, 3) := by decide +kernel
theorem dX11_law_74 : decode cX11_law 74 = .ok (.iload_n 3, 1) := by decide +kernel
theorem dX11_law_75 : decode cX11_law 75 = .ok (.iaload, 1) := by decide +kernel
theorem dX11_law_76 : decode cX11_law 76 = .ok (.iadd, 1) := by decide +kernel
theorem dX11_law_77 : decode cX11_law 77 = .ok (.if_icmp .ge 34, 3) := by decide +kernel
theorem dX11_law_80 : decode cX11_law 80 = .ok (.iload 4, 2) := by decide +kernel
theorem dX11_law_82 : decode cX11_law 82 = .ok (.aload_n 0, 1) := by decide +kernel
theorem dX11_law_83 : decode cX11_law 83 = .ok (.getfield 165, 3) := by decide +kernel
theorem dX11_law_86 : decode cX11_law 86 = .ok (.iload 5, 2) := by decide +kernel
theorem dX11_law_88 : decode cX11_law 88 = .ok (.iaload, 1) := by decide +kernel
theorem dX11_law_89 : decode cX11_law 89 = .ok (.bipush 30, 2) := by decide +kernel
theorem dX11_law_91 : decode cX11_law 91 = .ok (.if_icmp .ne 7, 3) := by decide +kernel
theorem dX11_law_94 : decode cX11_law 94 = .ok (.iconst 1, 1) := by decide +kernel
theorem dX11_law_95 : decode cX11_law 95 = .ok (.goto 4, 3) := by decide +kernel
theorem dX11_law_98 : decode cX11_law 98 = .ok (.iconst 0, 1) := by decide +kernel
theorem dX11_law_99 : decode cX11_law 99 = .ok (.invokestatic 319, 3) := by decide +kernel
theorem dX11_law_102 : decode cX11_law 102 = .ok (.iadd, 1) := by decide +kernel
theorem dX11_law_103 : decode cX11_law 103 = .ok (.istore 4, 2) := by decide +kernel
theorem dX11_law_105 : decode cX11_law 105 = .ok (.iinc 5 1, 3) := by decide +kernel
theorem dX11_law_108 : decode cX11_law 108 = .ok (.goto (-49), 3) := by decide +kernel
theorem dX11_law_111 : decode cX11_law 111 = .ok (.iload 4, 2) := by decide +kernel
theorem dX11_law_113 : decode cX11_law 113 = .ok (.ireturn, 1) := by decide +kernel
theorem dX11_turn_0 : decode cX11_turn 0 = .ok (.iload_n 1, 1) := by decide +kernel
theorem dX11_turn_1 : decode cX11_turn 1 = .ok (.iconst 0, 1) := by decide +kernel
theorem dX11_turn_2 : decode cX11_turn 2 = .ok (.bipush 9, 2) := by decide +kernel
theorem dX11_turn_4 : decode cX11_turn 4 = .ok (.invokestatic 194, 3) := by decide +kernel
theorem dX11_turn_7 : decode cX11_turn 7 = .ok (.ifCond .eq 22, 3) := by decide +kernel
theorem dX11_turn_10 : decode cX11_turn 10 = .ok (.aload_n 0, 1) := by decide +kernel
theorem dX11_turn_11 : decode cX11_turn 11 = .ok (.iload_n 2, 1) := by decide +kernel
theorem dX11_turn_12 : decode cX11_turn 12 = .ok (.invokevirtual 198, 3) := by decide +kernel
theorem dX11_turn_15 : decode cX11_turn 15 = .ok (.ifCond .eq 14, 3) := by decide +kernel
theorem dX11_turn_18 : decode cX11_turn 18 = .ok (.iload_n 3, 1) := by decide +kernel
theorem dX11_turn_19 : decode cX11_turn 19 = .ok (.iconst 0, 1) := by decide +kernel
theorem dX11_turn_20 : decode cX11_turn 20 = .ok (.sipush 3649, 3) := by decide +kernel
theorem dX11_turn_23 : decode cX11_turn 23 = .ok (.invokestatic 194, 3) := by decide +kernel
theorem dX11_turn_26 : decode cX11_turn 26 = .ok (.ifCond .ne 5, 3) := by decide +kernel
theorem dX11_turn_29 : decode cX11_turn 29 = .ok (.iconst (-1), 1) := by decide +kernel
theorem dX11_turn_30 : decode cX11_turn 30 = .ok (.ireturn, 1) := by decide +kernel
theorem dX11_turn_31 : decode cX11_turn 31 = .ok (.aload_n 0, 1) := by decide +kernel
theorem dX11_turn_32 : decode cX11_turn 32 = .ok (.iload_n 3, 1) := by decide +kernel
theorem dX11_turn_33 : decode cX11_turn 33 = .ok (.invokevirtual 240, 3) := by decide +kernel
theorem dX11_turn_36 : decode cX11_turn 36 = .ok (.istore 4, 2) := by decide +kernel
theorem dX11_turn_38 : decode cX11_turn 38 = .ok (.iconst 0, 1) := by decide +kernel
theorem dX11_turn_39 : decode cX11_turn 39 = .ok (.istore 5, 2) := by decide +kernel
theorem dX11_turn_41 : decode cX11_turn 41 = .ok (.bipush 24, 2) := by decide +kernel
theorem dX11_turn_43 : decode cX11_turn 43 = .ok (.iload 4, 2) := by decide +kernel
theorem dX11_turn_45 : decode cX11_turn 45 = .ok (.imul, 1) := by decide +kernel
theorem dX11_turn_46 : decode cX11_turn 46 = .ok (.istore 6, 2) := by decide +kernel
theorem dX11_turn_48 : decode cX11_turn 48 = .ok (.iload 4, 2) := by decide +kernel
theorem dX11_turn_50 : decode cX11_turn 50 = .ok (.iconst (-1), 1) := by decide +kernel
theorem dX11_turn_51 : decode cX11_turn 51 = .ok (.if_icmp .eq 71, 3) := by decide +kernel
theorem dX11_turn_54 : decode cX11_turn 54 = .ok (.iload 6, 2) := by decide +kernel
theorem dX11_turn_56 : decode cX11_turn 56 = .ok (.bipush 24, 2) := by decide +kernel
theorem dX11_turn_58 : decode cX11_turn 58 = .ok (.iload 4, 2) := by decide +kernel
theorem dX11_turn_60 : decode cX11_turn 60 = .ok (.imul, 1) := by decide +kernel
theorem dX11_turn_61 : decode cX11_turn 61 = .ok (.aload_n 0, 1) := by decide +kernel
theorem dX11_turn_62 : decode cX11_turn 62 = .ok (.getfield 159, 3) := by decide +kernel
theorem dX11_turn_65 : decode cX11_turn 65 = .ok (.iload 4, 2) := by decide +kernel
theorem dX11_turn_67 : decode cX11_turn 67 = .ok (.iaload, 1) := by decide +kernel
theorem dX11_turn_68 : decode cX11_turn 68 = .ok (.iadd, 1) := by decide +kernel
theorem dX11_turn_69 : decode cX11_turn 69 = .ok (.if_icmp .ge 53, 3) := by decide +kernel
theorem dX11_turn_72 : decode cX11_turn 72 = .ok (.iload 5, 2) := by decide +kernel
theorem dX11_turn_74 : decode cX11_turn 74 = .ok (.ifCond .ne 35, 3) := by decide +kernel
theorem dX11_turn_77 : decode cX11_turn 77 = .ok (.aload_n 0, 1) := by decide +kernel
theorem dX11_turn_78 : decode cX11_turn 78 = .ok (.iload 6, 2) := by decide +kernel
theorem dX11_turn_80 : decode cX11_turn 80 = .ok (.iload_n 3, 1) := by decide +kernel
theorem dX11_turn_81 : decode cX11_turn 81 = .ok (.invokevirtual 243, 3) := by decide +kernel
theorem dX11_turn_84 : decode cX11_turn 84 = .ok (.ifCond .eq 29, 3) := by decide +kernel
theorem dX11_turn_87 : decode cX11_turn 87 = .ok (.aload_n 0, 1) := by decide +kernel
theorem dX11_turn_88 : decode cX11_turn 88 = .ok (.getfield 168, 3) := by decide +kernel
theorem dX11_turn_91 : decode cX11_turn 91 = .ok (.iload 6, 2) := by decide +kernel
theorem dX11_turn_93 : decode cX11_turn 93 = .ok (.iaload, 1) := by decide +kernel
theorem dX11_turn_94 : decode cX11_turn 94 = .ok (.iload_n 1, 1) := by decide +kernel
theorem dX11_turn_95 : decode cX11_turn 95 = .ok (.if_icmp .ne 18, 3) := by decide +kernel
theorem dX11_turn_98 : decode cX11_turn 98 = .ok (.aload_n 0, 1) := by decide +kernel
theorem dX11_turn_99 : decode cX11_turn 99 = .ok (.getfield 171, 3) := by decide +kernel
theorem dX11_turn_102 : decode cX11_turn 102 = .ok (.iload 6, 2) := by decide +kernel
theorem dX11_turn_104 : decode cX11_turn 104 = .ok (.iaload, 1) := by decide +kernel
theorem dX11_turn_105 : decode cX11_turn 105 = .ok (.iload_n 2, 1) := by decide +kernel
theorem dX11_turn_106 : decode cX11_turn 106 = .ok (.if_icmp .ne 7, 3) := by decide +kernel
theorem dX11_turn_109 : decode cX11_turn 109 = .ok (.iconst 1, 1) := by decide +kernel
theorem dX11_turn_110 : decode cX11_turn 110 = .ok (.goto 4, 3) := by decide +kernel
theorem dX11_turn_113 : decode cX11_turn 113 = .ok (.iconst 0, 1) := by decide +kernel
theorem dX11_turn_114 : decode cX11_turn 114 = .ok (.istore 5, 2) := by decide +kernel
theorem dX11_turn_116 : decode cX11_turn 116 = .ok (.iinc 6 1, 3) := by decide +kernel
theorem dX11_turn_119 : decode cX11_turn 119 = .ok (.goto (-71), 3) := by decide +kernel
theorem dX11_turn_122 : decode cX11_turn 122 = .ok (.iload 5, 2) := by decide +kernel
theorem dX11_turn_124 : decode cX11_turn 124 = .ok (.invokestatic 319, 3) := by decide +kernel
theorem dX11_turn_127 : decode cX11_turn 127 = .ok (.ireturn, 1) := by decide +kernel
theorem dX11_sum_0 : decode cX11_sum 0 = .ok (.lconst 0, 1) := by decide +kernel
theorem dX11_sum_1 : decode cX11_sum 1 = .ok (.lstore_n 2, 1) := by decide +kernel
theorem dX11_sum_2 : decode cX11_sum 2 = .ok (.iload_n 1, 1) := by decide +kernel
theorem dX11_sum_3 : decode cX11_sum 3 = .ok (.tableswitch 128 0 6 #[41, 46, 51, 56, 61, 92, 97], 41) := by decide +kernel
theorem dX11_sum_44 : decode cX11_sum 44 = .ok (.aload_n 0, 1) := by decide +kernel
theorem dX11_sum_45 : decode cX11_sum 45 = .ok (.getfield 301, 3) := by decide +kernel
theorem dX11_sum_48 : decode cX11_sum 48 = .ok (.lreturn, 1) := by decide +kernel
theorem dX11_sum_49 : decode cX11_sum 49 = .ok (.aload_n 0, 1) := by decide +kernel
theorem dX11_sum_50 : decode cX11_sum 50 = .ok (.getfield 233, 3) := by decide +kernel
theorem dX11_sum_53 : decode cX11_sum 53 = .ok (.lreturn, 1) := by decide +kernel
theorem dX11_sum_54 : decode cX11_sum 54 = .ok (.aload_n 0, 1) := by decide +kernel
theorem dX11_sum_55 : decode cX11_sum 55 = .ok (.getfield 304, 3) := by decide +kernel
theorem dX11_sum_58 : decode cX11_sum 58 = .ok (.lreturn, 1) := by decide +kernel
theorem dX11_sum_59 : decode cX11_sum 59 = .ok (.aload_n 0, 1) := by decide +kernel
theorem dX11_sum_60 : decode cX11_sum 60 = .ok (.getfield 307, 3) := by decide +kernel
theorem dX11_sum_63 : decode cX11_sum 63 = .ok (.lreturn, 1) := by decide +kernel
theorem dX11_sum_64 : decode cX11_sum 64 = .ok (.iconst 0, 1) := by decide +kernel
theorem dX11_sum_65 : decode cX11_sum 65 = .ok (.istore 4, 2) := by decide +kernel
theorem dX11_sum_67 : decode cX11_sum 67 = .ok (.iload 4, 2) := by decide +kernel
theorem dX11_sum_69 : decode cX11_sum 69 = .ok (.aload_n 0, 1) := by decide +kernel
theorem dX11_sum_70 : decode cX11_sum 70 = .ok (.getfield 191, 3) := by decide +kernel
theorem dX11_sum_73 : decode cX11_sum 73 = .ok (.if_icmp .ge 20, 3) := by decide +kernel
theorem dX11_sum_76 : decode cX11_sum 76 = .ok (.lload_n 2, 1) := by decide +kernel
theorem dX11_sum_77 : decode cX11_sum 77 = .ok (.aload_n 0, 1) := by decide +kernel
theorem dX11_sum_78 : decode cX11_sum 78 = .ok (.getfield 53, 3) := by decide +kernel
theorem dX11_sum_81 : decode cX11_sum 81 = .ok (.iload 4, 2) := by decide +kernel
theorem dX11_sum_83 : decode cX11_sum 83 = .ok (.iaload, 1) := by decide +kernel
theorem dX11_sum_84 : decode cX11_sum 84 = .ok (.i2l, 1) := by decide +kernel
theorem dX11_sum_85 : decode cX11_sum 85 = .ok (.ladd, 1) := by decide +kernel
theorem dX11_sum_86 : decode cX11_sum 86 = .ok (.lstore_n 2, 1) := by decide +kernel
theorem dX11_sum_87 : decode cX11_sum 87 = .ok (.iinc 4 1, 3) := by decide +kernel
theorem dX11_sum_90 : decode cX11_sum 90 = .ok (.goto (-23), 3) := by decide +kernel
theorem dX11_sum_93 : decode cX11_sum 93 = .ok (.lload_n 2, 1) := by decide +kernel
theorem dX11_sum_94 : decode cX11_sum 94 = .ok (.lreturn, 1) := by decide +kernel
theorem dX11_sum_95 : decode cX11_sum 95 = .ok (.aload_n 0, 1) := by decide +kernel
theorem dX11_sum_96 : decode cX11_sum 96 = .ok (.getfield 251, 3) := by decide +kernel
theorem dX11_sum_99 : decode cX11_sum 99 = .ok (.lreturn, 1) := by decide +kernel
theorem dX11_sum_100 : decode cX11_sum 100 = .ok (.iconst 0, 1) := by decide +kernel
theorem dX11_sum_101 : decode cX11_sum 101 = .ok (.istore 4, 2) := by decide +kernel
theorem dX11_sum_103 : decode cX11_sum 103 = .ok (.iload 4, 2) := by decide +kernel
theorem dX11_sum_105 : decode cX11_sum 105 = .ok (.aload_n 0, 1) := by decide +kernel
theorem dX11_sum_106 : decode cX11_sum 106 = .ok (.getfield 202, 3) := by decide +kernel
theorem dX11_sum_109 : decode cX11_sum 109 = .ok (.if_icmp .ge 20, 3) := by decide +kernel
theorem dX11_sum_112 : decode cX11_sum 112 = .ok (.lload_n 2, 1) := by decide +kernel
theorem dX11_sum_113 : decode cX11_sum 113 = .ok (.aload_n 0, 1) := by decide +kernel
theorem dX11_sum_114 : decode cX11_sum 114 = .ok (.getfield 77, 3) := by decide +kernel
theorem dX11_sum_117 : decode cX11_sum 117 = .ok (.iload 4, 2) := by decide +kernel
theorem dX11_sum_119 : decode cX11_sum 119 = .ok (.iaload, 1) := by decide +kernel
theorem dX11_sum_120 : decode cX11_sum 120 = .ok (.i2l, 1) := by decide +kernel
theorem dX11_sum_121 : decode cX11_sum 121 = .ok (.ladd, 1) := by decide +kernel
theorem dX11_sum_122 : decode cX11_sum 122 = .ok (.lstore_n 2, 1) := by decide +kernel
theorem dX11_sum_123 : decode cX11_sum 123 = .ok (.iinc 4 1, 3) := by decide +kernel
theorem dX11_sum_126 : decode cX11_sum 126 = .ok (.goto (-23), 3) := by decide +kernel
theorem dX11_sum_129 : decode cX11_sum 129 = .ok (.lload_n 2, 1) := by decide +kernel
theorem dX11_sum_130 : decode cX11_sum 130 = .ok (.lreturn, 1) := by decide +kernel
theorem dX11_sum_131 : decode cX11_sum 131 = .ok (.ldc2_w 313, 3) := by decide +kernel
theorem dX11_sum_134 : decode cX11_sum 134 = .ok (.lreturn, 1) := by decide +kernel
theorem dX11_count_0 : decode cX11_count 0 = .ok (.iconst 0, 1) := by decide +kernel
theorem dX11_count_1 : decode cX11_count 1 = .ok (.istore_n 2, 1) := by decide +kernel
theorem dX11_count_2 : decode cX11_count 2 = .ok (.iload_n 1, 1) := by decide +kernel
theorem dX11_count_3 : decode cX11_count 3 = .ok (.tableswitch 223 0 12 #[65, 70, 75, 80, 110, 116, 121, 126, 131, 136, 141, 171, 218], 65) := by decide +kernel
theorem dX11_count_68 : decode cX11_count 68 = .ok (.aload_n 0, 1) := by decide +kernel
theorem dX11_count_69 : decode cX11_count 69 = .ok (.getfield 212, 3) := by decide +kernel
theorem dX11_count_72 : decode cX11_count 72 = .ok (.ireturn, 1) := by decide +kernel
theorem dX11_count_73 : decode cX11_count 73 = .ok (.aload_n 0, 1) := by decide +kernel
theorem dX11_count_74 : decode cX11_count 74 = .ok (.getfield 191, 3) := by decide +kernel
theorem dX11_count_77 : decode cX11_count 77 = .ok (.ireturn, 1) := by decide +kernel
theorem dX11_count_78 : decode cX11_count 78 = .ok (.aload_n 0, 1) := by decide +kernel
theorem dX11_count_79 : decode cX11_count 79 = .ok (.getfield 202, 3) := by decide +kernel
theorem dX11_count_82 : decode cX11_count 82 = .ok (.ireturn, 1) := by decide +kernel
theorem dX11_count_83 : decode cX11_count 83 = .ok (.iconst 0, 1) := by decide +kernel
theorem dX11_count_84 : decode cX11_count 84 = .ok (.istore_n 3, 1) := by decide +kernel
theorem dX11_count_85 : decode cX11_count 85 = .ok (.iload_n 3, 1) := by decide +kernel
theorem dX11_count_86 : decode cX11_count 86 = .ok (.aload_n 0, 1) := by decide +kernel
theorem dX11_count_87 : decode cX11_count 87 = .ok (.getfield 191, 3) := by decide +kernel
theorem dX11_count_90 : decode cX11_count 90 = .ok (.if_icmp .ge 21, 3) := by decide +kernel
theorem dX11_count_93 : decode cX11_count 93 = .ok (.iload_n 2, 1) := by decide +kernel
theorem dX11_count_94 : decode cX11_count 94 = .ok (.aload_n 0, 1) := by decide +kernel
theorem dX11_count_95 : decode cX11_count 95 = .ok (.getfield 25, 3) := by decide +kernel
theorem dX11_count_98 : decode cX11_count 98 = .ok (.iload_n 3, 1) := by decide +kernel
theorem dX11_count_99 : decode cX11_count 99 = .ok (.baload, 1) := by decide +kernel
theorem dX11_count_100 : decode cX11_count 100 = .ok (.invokestatic 319, 3) := by decide +kernel
theorem dX11_count_103 : decode cX11_count 103 = .ok (.iadd, 1) := by decide +kernel
theorem dX11_count_104 : decode cX11_count 104 = .ok (.istore_n 2, 1) := by decide +kernel
theorem dX11_count_105 : decode cX11_count 105 = .ok (.iinc 3 1, 3) := by decide +kernel
theorem dX11_count_108 : decode cX11_count 108 = .ok (.goto (-23), 3) := by decide +kernel
theorem dX11_count_111 : decode cX11_count 111 = .ok (.iload_n 2, 1) := by decide +kernel
theorem dX11_count_112 : decode cX11_count 112 = .ok (.ireturn, 1) := by decide +kernel
theorem dX11_count_113 : decode cX11_count 113 = .ok (.aload_n 0, 1) := by decide +kernel
theorem dX11_count_114 : decode cX11_count 114 = .ok (.iconst 0, 1) := by decide +kernel
theorem dX11_count_115 : decode cX11_count 115 = .ok (.invokevirtual 205, 3) := by decide +kernel
theorem dX11_count_118 : decode cX11_count 118 = .ok (.ireturn, 1) := by decide +kernel
theorem dX11_count_119 : decode cX11_count 119 = .ok (.aload_n 0, 1) := by decide +kernel
theorem dX11_count_120 : decode cX11_count 120 = .ok (.getfield 257, 3) := by decide +kernel
theorem dX11_count_123 : decode cX11_count 123 = .ok (.ireturn, 1) := by decide +kernel
theorem dX11_count_124 : decode cX11_count 124 = .ok (.aload_n 0, 1) := by decide +kernel
theorem dX11_count_125 : decode cX11_count 125 = .ok (.getfield 295, 3) := by decide +kernel
theorem dX11_count_128 : decode cX11_count 128 = .ok (.ireturn, 1) := by decide +kernel
theorem dX11_count_129 : decode cX11_count 129 = .ok (.aload_n 0, 1) := by decide +kernel
theorem dX11_count_130 : decode cX11_count 130 = .ok (.getfield 419, 3) := by decide +kernel
theorem dX11_count_133 : decode cX11_count 133 = .ok (.ireturn, 1) := by decide +kernel
theorem dX11_count_134 : decode cX11_count 134 = .ok (.aload_n 0, 1) := by decide +kernel
theorem dX11_count_135 : decode cX11_count 135 = .ok (.getfield 335, 3) := by decide +kernel
theorem dX11_count_138 : decode cX11_count 138 = .ok (.ireturn, 1) := by decide +kernel
theorem dX11_count_139 : decode cX11_count 139 = .ok (.aload_n 0, 1) := by decide +kernel
theorem dX11_count_140 : decode cX11_count 140 = .ok (.getfield 338, 3) := by decide +kernel
theorem dX11_count_143 : decode cX11_count 143 = .ok (.ireturn, 1) := by decide +kernel
theorem dX11_count_144 : decode cX11_count 144 = .ok (.iconst 0, 1) := by decide +kernel
theorem dX11_count_145 : decode cX11_count 145 = .ok (.istore_n 3, 1) := by decide +kernel
theorem dX11_count_146 : decode cX11_count 146 = .ok (.iload_n 3, 1) := by decide +kernel
theorem dX11_count_147 : decode cX11_count 147 = .ok (.aload_n 0, 1) := by decide +kernel
theorem dX11_count_148 : decode cX11_count 148 = .ok (.getfield 338, 3) := by decide +kernel
theorem dX11_count_151 : decode cX11_count 151 = .ok (.if_icmp .ge 21, 3) := by decide +kernel
theorem dX11_count_154 : decode cX11_count 154 = .ok (.iload_n 2, 1) := by decide +kernel
theorem dX11_count_155 : decode cX11_count 155 = .ok (.aload_n 0, 1) := by decide +kernel
theorem dX11_count_156 : decode cX11_count 156 = .ok (.getfield 156, 3) := by decide +kernel
theorem dX11_count_159 : decode cX11_count 159 = .ok (.iload_n 3, 1) := by decide +kernel
theorem dX11_count_160 : decode cX11_count 160 = .ok (.baload, 1) := by decide +kernel
theorem dX11_count_161 : decode cX11_count 161 = .ok (.invokestatic 319, 3) := by decide +kernel
theorem dX11_count_164 : decode cX11_count 164 = .ok (.iadd, 1) := by decide +kernel
theorem dX11_count_165 : decode cX11_count 165 = .ok (.istore_n 2, 1) := by decide +kernel
theorem dX11_count_166 : decode cX11_count 166 = .ok (.iinc 3 1, 3) := by decide +kernel
theorem dX11_count_169 : decode cX11_count 169 = .ok (.goto (-23), 3) := by decide +kernel
theorem dX11_count_172 : decode cX11_count 172 = .ok (.iload_n 2, 1) := by decide +kernel
theorem dX11_count_173 : decode cX11_count 173 = .ok (.ireturn, 1) := by decide +kernel
theorem dX11_count_174 : decode cX11_count 174 = .ok (.iconst 0, 1) := by decide +kernel
theorem dX11_count_175 : decode cX11_count 175 = .ok (.istore_n 3, 1) := by decide +kernel
theorem dX11_count_176 : decode cX11_count 176 = .ok (.iload_n 3, 1) := by decide +kernel
theorem dX11_count_177 : decode cX11_count 177 = .ok (.aload_n 0, 1) := by decide +kernel
theorem dX11_count_178 : decode cX11_count 178 = .ok (.getfield 191, 3) := by decide +kernel
theorem dX11_count_181 : decode cX11_count 181 = .ok (.if_icmp .ge 38, 3) := by decide +kernel
theorem dX11_count_184 : decode cX11_count 184 = .ok (.iload_n 2, 1) := by decide +kernel
theorem dX11_count_185 : decode cX11_count 185 = .ok (.aload_n 0, 1) := by decide +kernel
theorem dX11_count_186 : decode cX11_count 186 = .ok (.getfield 25, 3) := by decide +kernel
theorem dX11_count_189 : decode cX11_count 189 = .ok (.iload_n 3, 1) := by decide +kernel
theorem dX11_count_190 : decode cX11_count 190 = .ok (.baload, 1) := by decide +kernel
theorem dX11_count_191 : decode cX11_count 191 = .ok (.ifCond .eq 16, 3) := by decide +kernel
theorem dX11_count_194 : decode cX11_count 194 = .ok (.aload_n 0, 1) := by decide +kernel
theorem dX11_count_195 : decode cX11_count 195 = .ok (.getfield 32, 3) := by decide +kernel
theorem dX11_count_198 : decode cX11_count 198 = .ok (.iload_n 3, 1) := by decide +kernel
theorem dX11_count_199 : decode cX11_count 199 = .ok (.baload, 1) := by decide +kernel
theorem dX11_count_200 : decode cX11_count 200 = .ok (.ifCond .ne 7, 3) := by decide +kernel
theorem dX11_count_203 : decode cX11_count 203 = .ok (.iconst 1, 1) := by decide +kernel
theorem dX11_count_204 : decode cX11_count 204 = .ok (.goto 4, 3) := by decide +kernel
theorem dX11_count_207 : decode cX11_count 207 = .ok (.iconst 0, 1) := by decide +kernel
theorem dX11_count_208 : decode cX11_count 208 = .ok (.invokestatic 319, 3) := by decide +kernel
theorem dX11_count_211 : decode cX11_count 211 = .ok (.iadd, 1) := by decide +kernel
theorem dX11_count_212 : decode cX11_count 212 = .ok (.istore_n 2, 1) := by decide +kernel
theorem dX11_count_213 : decode cX11_count 213 = .ok (.iinc 3 1, 3) := by decide +kernel
theorem dX11_count_216 : decode cX11_count 216 = .ok (.goto (-40), 3) := by decide +kernel
theorem dX11_count_219 : decode cX11_count 219 = .ok (.iload_n 2, 1) := by decide +kernel
theorem dX11_count_220 : decode cX11_count 220 = .ok (.ireturn, 1) := by decide +kernel
theorem dX11_count_221 : decode cX11_count 221 = .ok (.aload_n 0, 1) := by decide +kernel
theorem dX11_count_222 : decode cX11_count 222 = .ok (.getfield 341, 3) := by decide +kernel
theorem dX11_count_225 : decode cX11_count 225 = .ok (.ireturn, 1) := by decide +kernel
theorem dX11_count_226 : decode cX11_count 226 = .ok (.iconst (-1), 1) := by decide +kernel
theorem dX11_count_227 : decode cX11_count 227 = .ok (.ireturn, 1) := by decide +kernel
