theorem dX11_init_0 : decode cX11_init 0 = .ok (.aload_n 0, 1) := by decide +kernel
theorem dX11_init_1 : decode cX11_init 1 = .ok (.invokespecial 1, 3) := by decide +kernel
theorem dX11_init_4 : decode cX11_init 4 = .ok (.aload_n 0, 1) := by decide +kernel
theorem dX11_init_5 : decode cX11_init 5 = .ok (.bipush 9, 2) := by decide +kernel
theorem dX11_init_7 : decode cX11_init 7 = .ok (.newarray .long, 2) := by decide +kernel
theorem dX11_init_9 : decode cX11_init 9 = .ok (.putfield 7, 3) := by decide +kernel
theorem dX11_init_12 : decode cX11_init 12 = .ok (.aload_n 0, 1) := by decide +kernel
theorem dX11_init_13 : decode cX11_init 13 = .ok (.bipush 12, 2) := by decide +kernel
theorem dX11_init_15 : decode cX11_init 15 = .ok (.newarray .int, 2) := by decide +kernel
theorem dX11_init_17 : decode cX11_init 17 = .ok (.putfield 13, 3) := by decide +kernel
theorem dX11_init_20 : decode cX11_init 20 = .ok (.aload_n 0, 1) := by decide +kernel
theorem dX11_init_21 : decode cX11_init 21 = .ok (.bipush 12, 2) := by decide +kernel
theorem dX11_init_23 : decode cX11_init 23 = .ok (.newarray .int, 2) := by decide +kernel
theorem dX11_init_25 : decode cX11_init 25 = .ok (.putfield 17, 3) := by decide +kernel
theorem dX11_init_28 : decode cX11_init 28 = .ok (.aload_n 0, 1) := by decide +kernel
theorem dX11_init_29 : decode cX11_init 29 = .ok (.bipush 12, 2) := by decide +kernel
theorem dX11_init_31 : decode cX11_init 31 = .ok (.newarray .int, 2) := by decide +kernel
theorem dX11_init_33 : decode cX11_init 33 = .ok (.putfield 20, 3) := by decide +kernel
theorem dX11_init_36 : decode cX11_init 36 = .ok (.aload_n 0, 1) := by decide +kernel
theorem dX11_init_37 : decode cX11_init 37 = .ok (.bipush 12, 2) := by decide +kernel
theorem dX11_init_39 : decode cX11_init 39 = .ok (.newarray .int, 2) := by decide +kernel
theorem dX11_init_41 : decode cX11_init 41 = .ok (.putfield 23, 3) := by decide +kernel
theorem dX11_init_44 : decode cX11_init 44 = .ok (.aload_n 0, 1) := by decide +kernel
theorem dX11_init_45 : decode cX11_init 45 = .ok (.bipush 12, 2) := by decide +kernel
theorem dX11_init_47 : decode cX11_init 47 = .ok (.newarray .long, 2) := by decide +kernel
theorem dX11_init_49 : decode cX11_init 49 = .ok (.putfield 26, 3) := by decide +kernel
theorem dX11_init_52 : decode cX11_init 52 = .ok (.aload_n 0, 1) := by decide +kernel
theorem dX11_init_53 : decode cX11_init 53 = .ok (.bipush 12, 2) := by decide +kernel
theorem dX11_init_55 : decode cX11_init 55 = .ok (.newarray .long, 2) := by decide +kernel
theorem dX11_init_57 : decode cX11_init 57 = .ok (.putfield 29, 3) := by decide +kernel
theorem dX11_init_60 : decode cX11_init 60 = .ok (.aload_n 0, 1) := by decide +kernel
theorem dX11_init_61 : decode cX11_init 61 = .ok (.bipush 54, 2) := by decide +kernel
theorem dX11_init_63 : decode cX11_init 63 = .ok (.newarray .long, 2) := by decide +kernel
theorem dX11_init_65 : decode cX11_init 65 = .ok (.putfield 32, 3) := by decide +kernel
theorem dX11_init_68 : decode cX11_init 68 = .ok (.aload_n 0, 1) := by decide +kernel
theorem dX11_init_69 : decode cX11_init 69 = .ok (.bipush 6, 2) := by decide +kernel
theorem dX11_init_71 : decode cX11_init 71 = .ok (.newarray .boolean, 2) := by decide +kernel
theorem dX11_init_73 : decode cX11_init 73 = .ok (.putfield 35, 3) := by decide +kernel
theorem dX11_init_76 : decode cX11_init 76 = .ok (.aload_n 0, 1) := by decide +kernel
theorem dX11_init_77 : decode cX11_init 77 = .ok (.bipush 40, 2) := by decide +kernel
theorem dX11_init_79 : decode cX11_init 79 = .ok (.newarray .int, 2) := by decide +kernel
theorem dX11_init_81 : decode cX11_init 81 = .ok (.putfield 39, 3) := by decide +kernel
theorem dX11_init_84 : decode cX11_init 84 = .ok (.aload_n 0, 1) := by decide +kernel
theorem dX11_init_85 : decode cX11_init 85 = .ok (.bipush 40, 2) := by decide +kernel
theorem dX11_init_87 : decode cX11_init 87 = .ok (.newarray .int, 2) := by decide +kernel
theorem dX11_init_89 : decode cX11_init 89 = .ok (.putfield 42, 3) := by decide +kernel
theorem dX11_init_92 : decode cX11_init 92 = .ok (.aload_n 0, 1) := by decide +kernel
theorem dX11_init_93 : decode cX11_init 93 = .ok (.bipush 40, 2) := by decide +kernel
theorem dX11_init_95 : decode cX11_init 95 = .ok (.newarray .int, 2) := by decide +kernel
theorem dX11_init_97 : decode cX11_init 97 = .ok (.putfield 45, 3) := by decide +kernel
theorem dX11_init_100 : decode cX11_init 100 = .ok (.aload_n 0, 1) := by decide +kernel
theorem dX11_init_101 : decode cX11_init 101 = .ok (.bipush 40, 2) := by decide +kernel
theorem dX11_init_103 : decode cX11_init 103 = .ok (.newarray .int, 2) := by decide +kernel
theorem dX11_init_105 : decode cX11_init 105 = .ok (.putfield 48, 3) := by decide +kernel
theorem dX11_init_108 : decode cX11_init 108 = .ok (.aload_n 0, 1) := by decide +kernel
theorem dX11_init_109 : decode cX11_init 109 = .ok (.bipush 40, 2) := by decide +kernel
theorem dX11_init_111 : decode cX11_init 111 = .ok (.newarray .long, 2) := by decide +kernel
theorem dX11_init_113 : decode cX11_init 113 = .ok (.putfield 51, 3) := by decide +kernel
theorem dX11_init_116 : decode cX11_init 116 = .ok (.aload_n 0, 1) := by decide +kernel
theorem dX11_init_117 : decode cX11_init 117 = .ok (.bipush 40, 2) := by decide +kernel
theorem dX11_init_119 : decode cX11_init 119 = .ok (.newarray .int, 2) := by decide +kernel
theorem dX11_init_121 : decode cX11_init 121 = .ok (.putfield 54, 3) := by decide +kernel
theorem dX11_init_124 : decode cX11_init 124 = .ok (.aload_n 0, 1) := by decide +kernel
theorem dX11_init_125 : decode cX11_init 125 = .ok (.bipush 40, 2) := by decide +kernel
theorem dX11_init_127 : decode cX11_init 127 = .ok (.newarray .int, 2) := by decide +kernel
theorem dX11_init_129 : decode cX11_init 129 = .ok (.putfield 57, 3) := by decide +kernel
theorem dX11_init_132 : decode cX11_init 132 = .ok (.aload_n 0, 1) := by decide +kernel
theorem dX11_init_133 : decode cX11_init 133 = .ok (.bipush 40, 2) := by decide +kernel
theorem dX11_init_135 : decode cX11_init 135 = .ok (.newarray .long, 2) := by decide +kernel
theorem dX11_init_137 : decode cX11_init 137 = .ok (.putfield 60, 3) := by decide +kernel
theorem dX11_init_140 : decode cX11_init 140 = .ok (.aload_n 0, 1) := by decide +kernel
theorem dX11_init_141 : decode cX11_init 141 = .ok (.sipush 480, 3) := by decide +kernel
theorem dX11_init_144 : decode cX11_init 144 = .ok (.newarray .int, 2) := by decide +kernel
theorem dX11_init_146 : decode cX11_init 146 = .ok (.putfield 63, 3) := by decide +kernel
theorem dX11_init_149 : decode cX11_init 149 = .ok (.aload_n 0, 1) := by decide +kernel
theorem dX11_init_150 : decode cX11_init 150 = .ok (.bipush 40, 2) := by decide +kernel
theorem dX11_init_152 : decode cX11_init 152 = .ok (.newarray .int, 2) := by decide +kernel
theorem dX11_init_154 : decode cX11_init 154 = .ok (.putfield 66, 3) := by decide +kernel
theorem dX11_init_157 : decode cX11_init 157 = .ok (.aload_n 0, 1) := by decide +kernel
theorem dX11_init_158 : decode cX11_init 158 = .ok (.bipush 40, 2) := by decide +kernel
theorem dX11_init_160 : decode cX11_init 160 = .ok (.newarray .int, 2) := by decide +kernel
theorem dX11_init_162 : decode cX11_init 162 = .ok (.putfield 69, 3) := by decide +kernel
theorem dX11_init_165 : decode cX11_init 165 = .ok (.aload_n 0, 1) := by decide +kernel
theorem dX11_init_166 : decode cX11_init 166 = .ok (.bipush 40, 2) := by decide +kernel
theorem dX11_init_168 : decode cX11_init 168 = .ok (.newarray .int, 2) := by decide +kernel
theorem dX11_init_170 : decode cX11_init 170 = .ok (.putfield 72, 3) := by decide +kernel
theorem dX11_init_173 : decode cX11_init 173 = .ok (.aload_n 0, 1) := by decide +kernel
theorem dX11_init_174 : decode cX11_init 174 = .ok (.sipush 160, 3) := by decide +kernel
theorem dX11_init_177 : decode cX11_init 177 = .ok (.newarray .boolean, 2) := by decide +kernel
theorem dX11_init_179 : decode cX11_init 179 = .ok (.putfield 75, 3) := by decide +kernel
theorem dX11_init_182 : decode cX11_init 182 = .ok (.aload_n 0, 1) := by decide +kernel
theorem dX11_init_183 : decode cX11_init 183 = .ok (.sipush 160, 3) := by decide +kernel
theorem dX11_init_186 : decode cX11_init 186 = .ok (.newarray .int, 2) := by decide +kernel
theorem dX11_init_188 : decode cX11_init 188 = .ok (.putfield 78, 3) := by decide +kernel
theorem dX11_init_191 : decode cX11_init 191 = .ok (.aload_n 0, 1) := by decide +kernel
theorem dX11_init_192 : decode cX11_init 192 = .ok (.sipush 160, 3) := by decide +kernel
theorem dX11_init_195 : decode cX11_init 195 = .ok (.newarray .int, 2) := by decide +kernel
theorem dX11_init_197 : decode cX11_init 197 = .ok (.putfield 81, 3) := by decide +kernel
theorem dX11_init_200 : decode cX11_init 200 = .ok (.aload_n 0, 1) := by decide +kernel
theorem dX11_init_201 : decode cX11_init 201 = .ok (.sipush 160, 3) := by decide +kernel
theorem dX11_init_204 : decode cX11_init 204 = .ok (.newarray .int, 2) := by decide +kernel
theorem dX11_init_206 : decode cX11_init 206 = .ok (.putfield 84, 3) := by decide +kernel
theorem dX11_init_209 : decode cX11_init 209 = .ok (.aload_n 0, 1) := by decide +kernel
theorem dX11_init_210 : decode cX11_init 210 = .ok (.bipush 6, 2) := by decide +kernel
theorem dX11_init_212 : decode cX11_init 212 = .ok (.newarray .int, 2) := by decide +kernel
theorem dX11_init_214 : decode cX11_init 214 = .ok (.putfield 87, 3) := by decide +kernel
theorem dX11_init_217 : decode cX11_init 217 = .ok (.aload_n 0, 1) := by decide +kernel
theorem dX11_init_218 : decode cX11_init 218 = .ok (.bipush 6, 2) := by decide +kernel
theorem dX11_init_220 : decode cX11_init 220 = .ok (.newarray .int, 2) := by decide +kernel
theorem dX11_init_222 : decode cX11_init 222 = .ok (.putfield 90, 3) := by decide +kernel
theorem dX11_init_225 : decode cX11_init 225 = .ok (.aload_n 0, 1) := by decide +kernel
theorem dX11_init_226 : decode cX11_init 226 = .ok (.bipush 6, 2) := by decide +kernel
theorem dX11_init_228 : decode cX11_init 228 = .ok (.newarray .int, 2) := by decide +kernel
theorem dX11_init_230 : decode cX11_init 230 = .ok (.putfield 93, 3) := by decide +kernel
theorem dX11_init_233 : decode cX11_init 233 = .ok (.aload_n 0, 1) := by decide +kernel
theorem dX11_init_234 : decode cX11_init 234 = .ok (.bipush 6, 2) := by decide +kernel
theorem dX11_init_236 : decode cX11_init 236 = .ok (.newarray .int, 2) := by decide +kernel
theorem dX11_init_238 : decode cX11_init 238 = .ok (.putfield 96, 3) := by decide +kernel
theorem dX11_init_241 : decode cX11_init 241 = .ok (.aload_n 0, 1) := by decide +kernel
theorem dX11_init_242 : decode cX11_init 242 = .ok (.bipush 6, 2) := by decide +kernel
theorem dX11_init_244 : decode cX11_init 244 = .ok (.newarray .int, 2) := by decide +kernel
theorem dX11_init_246 : decode cX11_init 246 = .ok (.putfield 99, 3) := by decide +kernel
theorem dX11_init_249 : decode cX11_init 249 = .ok (.aload_n 0, 1) := by decide +kernel
theorem dX11_init_250 : decode cX11_init 250 = .ok (.iconst 3, 1) := by decide +kernel
theorem dX11_init_251 : decode cX11_init 251 = .ok (.newarray .int, 2) := by decide +kernel
theorem dX11_init_253 : decode cX11_init 253 = .ok (.putfield 102, 3) := by decide +kernel
theorem dX11_init_256 : decode cX11_init 256 = .ok (.aload_n 0, 1) := by decide +kernel
theorem dX11_init_257 : decode cX11_init 257 = .ok (.bipush 20, 2) := by decide +kernel
theorem dX11_init_259 : decode cX11_init 259 = .ok (.putfield 105, 3) := by decide +kernel
theorem dX11_init_262 : decode cX11_init 262 = .ok (.aload_n 0, 1) := by decide +kernel
theorem dX11_init_263 : decode cX11_init 263 = .ok (.bipush 100, 2) := by decide +kernel
theorem dX11_init_265 : decode cX11_init 265 = .ok (.putfield 109, 3) := by decide +kernel
theorem dX11_init_268 : decode cX11_init 268 = .ok (.aload_n 0, 1) := by decide +kernel
theorem dX11_init_269 : decode cX11_init 269 = .ok (.bipush 60, 2) := by decide +kernel
theorem dX11_init_271 : decode cX11_init 271 = .ok (.newarray .int, 2) := by decide +kernel
theorem dX11_init_273 : decode cX11_init 273 = .ok (.putfield 112, 3) := by decide +kernel
theorem dX11_init_276 : decode cX11_init 276 = .ok (.aload_n 0, 1) := by decide +kernel
theorem dX11_init_277 : decode cX11_init 277 = .ok (.bipush 60, 2) := by decide +kernel
theorem dX11_init_279 : decode cX11_init 279 = .ok (.newarray .int, 2) := by decide +kernel
theorem dX11_init_281 : decode cX11_init 281 = .ok (.putfield 115, 3) := by decide +kernel
theorem dX11_init_284 : decode cX11_init 284 = .ok (.aload_n 0, 1) := by decide +kernel
theorem dX11_init_285 : decode cX11_init 285 = .ok (.bipush 60, 2) := by decide +kernel
theorem dX11_init_287 : decode cX11_init 287 = .ok (.newarray .int, 2) := by decide +kernel
theorem dX11_init_289 : decode cX11_init 289 = .ok (.putfield 118, 3) := by decide +kernel
theorem dX11_init_292 : decode cX11_init 292 = .ok (.aload_n 0, 1) := by decide +kernel
theorem dX11_init_293 : decode cX11_init 293 = .ok (.bipush 60, 2) := by decide +kernel
theorem dX11_init_295 : decode cX11_init 295 = .ok (.newarray .long, 2) := by decide +kernel
theorem dX11_init_297 : decode cX11_init 297 = .ok (.putfield 121, 3) := by decide +kernel
theorem dX11_init_300 : decode cX11_init 300 = .ok (.aload_n 0, 1) := by decide +kernel
theorem dX11_init_301 : decode cX11_init 301 = .ok (.bipush 60, 2) := by decide +kernel
theorem dX11_init_303 : decode cX11_init 303 = .ok (.newarray .int, 2) := by decide +kernel
theorem dX11_init_305 : decode cX11_init 305 = .ok (.putfield 124, 3) := by decide +kernel
theorem dX11_init_308 : decode cX11_init 308 = .ok (.aload_n 0, 1) := by decide +kernel
theorem dX11_init_309 : decode cX11_init 309 = .ok (.bipush 60, 2) := by decide +kernel
theorem dX11_init_311 : decode cX11_init 311 = .ok (.newarray .boolean, 2) := by decide +kernel
theorem dX11_init_313 : decode cX11_init 313 = .ok (.putfield 127, 3) := by decide +kernel
theorem dX11_init_316 : decode cX11_init 316 = .ok (.aload_n 0, 1) := by decide +kernel
theorem dX11_init_317 : decode cX11_init 317 = .ok (.bipush 60, 2) := by decide +kernel
theorem dX11_init_319 : decode cX11_init 319 = .ok (.newarray .long, 2) := by decide +kernel
theorem dX11_init_321 : decode cX11_init 321 = .ok (.putfield 130, 3) := by decide +kernel
theorem dX11_init_324 : decode cX11_init 324 = .ok (.aload_n 0, 1) := by decide +kernel
theorem dX11_init_325 : decode cX11_init 325 = .ok (.bipush 60, 2) := by decide +kernel
theorem dX11_init_327 : decode cX11_init 327 = .ok (.newarray .long, 2) := by decide +kernel
theorem dX11_init_329 : decode cX11_init 329 = .ok (.putfield 133, 3) := by decide +kernel
theorem dX11_init_332 : decode cX11_init 332 = .ok (.aload_n 0, 1) := by decide +kernel
theorem dX11_init_333 : decode cX11_init 333 = .ok (.bipush 60, 2) := by decide +kernel
theorem dX11_init_335 : decode cX11_init 335 = .ok (.newarray .long, 2) := by decide +kernel
theorem dX11_init_337 : decode cX11_init 337 = .ok (.putfield 136, 3) := by decide +kernel
theorem dX11_init_340 : decode cX11_init 340 = .ok (.aload_n 0, 1) := by decide +kernel
theorem dX11_init_341 : decode cX11_init 341 = .ok (.bipush 60, 2) := by decide +kernel
theorem dX11_init_343 : decode cX11_init 343 = .ok (.newarray .int, 2) := by decide +kernel
theorem dX11_init_345 : decode cX11_init 345 = .ok (.putfield 139, 3) := by decide +kernel
theorem dX11_init_348 : decode cX11_init 348 = .ok (.aload_n 0, 1) := by decide +kernel
theorem dX11_init_349 : decode cX11_init 349 = .ok (.bipush 60, 2) := by decide +kernel
theorem dX11_init_351 : decode cX11_init 351 = .ok (.newarray .int, 2) := by decide +kernel
theorem dX11_init_353 : decode cX11_init 353 = .ok (.putfield 142, 3) := by decide +kernel
theorem dX11_init_356 : decode cX11_init 356 = .ok (.aload_n 0, 1) := by decide +kernel
theorem dX11_init_357 : decode cX11_init 357 = .ok (.bipush 60, 2) := by decide +kernel
theorem dX11_init_359 : decode cX11_init 359 = .ok (.newarray .int, 2) := by decide +kernel
theorem dX11_init_361 : decode cX11_init 361 = .ok (.putfield 145, 3) := by decide +kernel
theorem dX11_init_364 : decode cX11_init 364 = .ok (.aload_n 0, 1) := by decide +kernel
theorem dX11_init_365 : decode cX11_init 365 = .ok (.bipush 60, 2) := by decide +kernel
theorem dX11_init_367 : decode cX11_init 367 = .ok (.newarray .boolean, 2) := by decide +kernel
theorem dX11_init_369 : decode cX11_init 369 = .ok (.putfield 148, 3) := by decide +kernel
theorem dX11_init_372 : decode cX11_init 372 = .ok (.aload_n 0, 1) := by decide +kernel
theorem dX11_init_373 : decode cX11_init 373 = .ok (.bipush 60, 2) := by decide +kernel
theorem dX11_init_375 : decode cX11_init 375 = .ok (.newarray .boolean, 2) := by decide +kernel
theorem dX11_init_377 : decode cX11_init 377 = .ok (.putfield 151, 3) := by decide +kernel
theorem dX11_init_380 : decode cX11_init 380 = .ok (.aload_n 0, 1) := by decide +kernel
theorem dX11_init_381 : decode cX11_init 381 = .ok (.bipush 60, 2) := by decide +kernel
theorem dX11_init_383 : decode cX11_init 383 = .ok (.newarray .long, 2) := by decide +kernel
theorem dX11_init_385 : decode cX11_init 385 = .ok (.putfield 154, 3) := by decide +kernel
theorem dX11_init_388 : decode cX11_init 388 = .ok (.aload_n 0, 1) := by decide +kernel
theorem dX11_init_389 : decode cX11_init 389 = .ok (.bipush 60, 2) := by decide +kernel
theorem dX11_init_391 : decode cX11_init 391 = .ok (.newarray .long, 2) := by decide +kernel
theorem dX11_init_393 : decode cX11_init 393 = .ok (.putfield 157, 3) := by decide +kernel
theorem dX11_init_396 : decode cX11_init 396 = .ok (.aload_n 0, 1) := by decide +kernel
theorem dX11_init_397 : decode cX11_init 397 = .ok (.iconst 4, 1) := by decide +kernel
theorem dX11_init_398 : decode cX11_init 398 = .ok (.newarray .int, 2) := by decide +kernel
theorem dX11_init_400 : decode cX11_init 400 = .ok (.putfield 160, 3) := by decide +kernel
theorem dX11_init_403 : decode cX11_init 403 = .ok (.aload_n 0, 1) := by decide +kernel
theorem dX11_init_404 : decode cX11_init 404 = .ok (.bipush 30, 2) := by decide +kernel
theorem dX11_init_406 : decode cX11_init 406 = .ok (.newarray .long, 2) := by decide +kernel
theorem dX11_init_408 : decode cX11_init 408 = .ok (.putfield 163, 3) := by decide +kernel
theorem dX11_init_411 : decode cX11_init 411 = .ok (.aload_n 0, 1) := by decide +kernel
theorem dX11_init_412 : decode cX11_init 412 = .ok (.bipush 40, 2) := by decide +kernel
theorem dX11_init_414 : decode cX11_init 414 = .ok (.newarray .int, 2) := by decide +kernel
theorem dX11_init_416 : decode cX11_init 416 = .ok (.putfield 166, 3) := by decide +kernel
theorem dX11_init_419 : decode cX11_init 419 = .ok (.aload_n 0, 1) := by decide +kernel
theorem dX11_init_420 : decode cX11_init 420 = .ok (.bipush 40, 2) := by decide +kernel
theorem dX11_init_422 : decode cX11_init 422 = .ok (.newarray .int, 2) := by decide +kernel
theorem dX11_init_424 : decode cX11_init 424 = .ok (.putfield 169, 3) := by decide +kernel
theorem dX11_init_427 : decode cX11_init 427 = .ok (.aload_n 0, 1) := by decide +kernel
theorem dX11_init_428 : decode cX11_init 428 = .ok (.bipush 40, 2) := by decide +kernel
theorem dX11_init_430 : decode cX11_init 430 = .ok (.newarray .boolean, 2) := by decide +kernel
theorem dX11_init_432 : decode cX11_init 432 = .ok (.putfield 172, 3) := by decide +kernel
theorem dX11_init_435 : decode cX11_init 435 = .ok (.iconst 0, 1) := by decide +kernel
theorem dX11_init_436 : decode cX11_init 436 = .ok (.istore_n 1, 1) := by decide +kernel
theorem dX11_init_437 : decode cX11_init 437 = .ok (.iload_n 1, 1) := by decide +kernel
theorem dX11_init_438 : decode cX11_init 438 = .ok (.iconst 3, 1) := by decide +kernel
theorem dX11_init_439 : decode cX11_init 439 = .ok (.if_icmp .ge 18, 3) := by decide +kernel
theorem dX11_init_442 : decode cX11_init 442 = .ok (.aload_n 0, 1) := by decide +kernel
theorem dX11_init_443 : decode cX11_init 443 = .ok (.getfield 102, 3) := by decide +kernel
theorem dX11_init_446 : decode cX11_init 446 = .ok (.iload_n 1, 1) := by decide +kernel
theorem dX11_init_447 : decode cX11_init 447 = .ok (.sipush 1000, 3) := by decide +kernel
theorem dX11_init_450 : decode cX11_init 450 = .ok (.iastore, 1) := by decide +kernel
theorem dX11_init_451 : decode cX11_init 451 = .ok (.iinc 1 1, 3) := by decide +kernel
theorem dX11_init_454 : decode cX11_init 454 = .ok (.goto (-17), 3) := by decide +kernel
theorem dX11_init_457 : decode cX11_init 457 = .ok (.return_, 1) := by decide +kernel
def mZ : MS := (fun j => if j = 37 then 20 else if j = 38 then 100 else 0, fun _ => 0, fun _ _ => 0, fun _ _ => 0)
/-- the reference as it starts -/
def mZ3 : MS := rI (rI (rI mZ 36 0 1000) 36 1 1000) 36 2 1000
abbrev rm_mini : Room := { frames := 2, cells := 52, slots := 2848, locals := 30 }
set_option maxRecDepth 1000000 in
set_option maxHeartbeats 40000000 in
theorem c_mini {l : Launch} {k : KC} (hl : l.stackTraces = false) {mo : Nat} : MI l k yX11_init (.code yX11_init cX11_init 2 none) rm_mini [.ref mo] (wO [(mo, .inr (12, [.int 0, .int 0, .null, .int 0, .null, .null, .null, .null, .null, .null, .int 0, .null, .null, .int 0, .int 0, .null, .null, .null, .null, .null, .null, .null, .null, .null, .null, .null, .null, .null, .null, .null, .null, .null, .null, .null, .null, .null, .null, .int 0, .int 0, .int 0, .null, .null, .null, .null, .null, .null, .null, .null, .null, .null, .null, .null, .null, .null, .null, .null, .null, .int 0, .null, .int 0, .null, .null, .null, .long 0, .int 0, .int 0]))]) (fun o w => ∃ ad, HM mo ad ∧ o = .inl none ∧ w = mW k mo ad mZ3) := by
  refine MI.of 1 hl (by decide) (Nat.le_of_ble_eq_true rfl) ?_
  intro p e s m args below meth c A Q hini G B
  show Wx p l e rm_mini s m args below meth c k A 2 Q 52 2848 0 [some (.ref mo), none] [] (wO [(mo, .inr (12, [.int 0, .int 0, .null, .int 0, .null, .null, .null, .null, .null, .null, .int 0, .null, .null, .int 0, .int 0, .null, .null, .null, .null, .null, .null, .null, .null, .null, .null, .null, .null, .null, .null, .null, .null, .null, .null, .null, .null, .null, .null, .int 0, .int 0, .int 0, .null, .null, .null, .null, .null, .null, .null, .null, .null, .null, .null, .null, .null, .null, .null, .null, .null, .int 0, .null, .int 0, .null, .null, .null, .long 0, .int 0, .int 0]))])
  refine x_aload0 (pc := 0) G dX11_init_0 ?_
  refine x_objInit (pc := 1) G q_ml_X11_1 q_im_oinit q_co_oinit (Nat.le_of_ble_eq_true rfl) (Nat.le_of_ble_eq_true rfl) dX11_init_1 ?_
  have hw : ND [(mo, (.inr (12, [.int 0, .int 0, .null, .int 0, .null, .null, .null, .null, .null, .null, .int 0, .null, .null, .int 0, .int 0, .null, .null, .null, .null, .null, .null, .null, .null, .null, .null, .null, .null, .null, .null, .null, .null, .null, .null, .null, .null, .null, .null, .int 0, .int 0, .int 0, .null, .null, .null, .null, .null, .null, .null, .null, .null, .null, .null, .null, .null, .null, .null, .null, .null, .int 0, .null, .int 0, .null, .null, .null, .long 0, .int 0, .int 0]) : va_E))] := List.nodup_cons.mpr ⟨List.not_mem_nil, List.nodup_nil⟩
  have hn : ([.int 0, .int 0, .null, .int 0, .null, .null, .null, .null, .null, .null, .int 0, .null, .null, .int 0, .int 0, .null, .null, .null, .null, .null, .null, .null, .null, .null, .null, .null, .null, .null, .null, .null, .null, .null, .null, .null, .null, .null, .null, .int 0, .int 0, .int 0, .null, .null, .null, .null, .null, .null, .null, .null, .null, .null, .null, .null, .null, .null, .null, .null, .null, .int 0, .null, .int 0, .null, .null, .null, .long 0, .int 0, .int 0] : List Value).length = 66 := rfl
  refine x_aload0 (pc := 4) G dX11_init_4 ?_
  refine x_bipush (pc := 5) (v := 9) G dX11_init_5 (by decide) ?_
  refine o_lnewa (pc := 7) (N := 9) (bc1 := 51) (bs1 := 2839) G hw (by decide) (by decide) (Nat.le_of_ble_eq_true rfl) (Nat.le_of_ble_eq_true rfl) (Nat.le_of_ble_eq_true rfl) dX11_init_7 (fun q2 hw => ?_)
  refine o_putF (pc := 9) G hw hn hini g_7 rfl rfl rfl dX11_init_9 (fun hw hn => ?_)
  refine x_aload0 (pc := 12) G dX11_init_12 ?_
  refine x_bipush (pc := 13) (v := 12) G dX11_init_13 (by decide) ?_
  refine o_inewa (pc := 15) (N := 12) (bc1 := 50) (bs1 := 2827) G hw (by decide) (by decide) (Nat.le_of_ble_eq_true rfl) (Nat.le_of_ble_eq_true rfl) (Nat.le_of_ble_eq_true rfl) dX11_init_15 (fun q4 hw => ?_)
  refine o_putF (pc := 17) G hw hn hini g_13 rfl rfl rfl dX11_init_17 (fun hw hn => ?_)
  refine x_aload0 (pc := 20) G dX11_init_20 ?_
  refine x_bipush (pc := 21) (v := 12) G dX11_init_21 (by decide) ?_
  refine o_inewa (pc := 23) (N := 12) (bc1 := 49) (bs1 := 2815) G hw (by decide) (by decide) (Nat.le_of_ble_eq_true rfl) (Nat.le_of_ble_eq_true rfl) (Nat.le_of_ble_eq_true rfl) dX11_init_23 (fun q5 hw => ?_)
  refine o_putF (pc := 25) G hw hn hini g_17 rfl rfl rfl dX11_init_25 (fun hw hn => ?_)
  refine x_aload0 (pc := 28) G dX11_init_28 ?_
  refine x_bipush (pc := 29) (v := 12) G dX11_init_29 (by decide) ?_
  refine o_inewa (pc := 31) (N := 12) (bc1 := 48) (bs1 := 2803) G hw (by decide) (by decide) (Nat.le_of_ble_eq_true rfl) (Nat.le_of_ble_eq_true rfl) (Nat.le_of_ble_eq_true rfl) dX11_init_31 (fun q6 hw => ?_)
  refine o_putF (pc := 33) G hw hn hini g_20 rfl rfl rfl dX11_init_33 (fun hw hn => ?_)
  refine x_aload0 (pc := 36) G dX11_init_36 ?_
  refine x_bipush (pc := 37) (v := 12) G dX11_init_37 (by decide) ?_
  refine o_inewa (pc := 39) (N := 12) (bc1 := 47) (bs1 := 2791) G hw (by decide) (by decide) (Nat.le_of_ble_eq_true rfl) (Nat.le_of_ble_eq_true rfl) (Nat.le_of_ble_eq_true rfl) dX11_init_39 (fun q7 hw => ?_)
  refine o_putF (pc := 41) G hw hn hini g_23 rfl rfl rfl dX11_init_41 (fun hw hn => ?_)
  refine x_aload0 (pc := 44) G dX11_init_44 ?_
  refine x_bipush (pc := 45) (v := 12) G dX11_init_45 (by decide) ?_
  refine o_lnewa (pc := 47) (N := 12) (bc1 := 46) (bs1 := 2779) G hw (by decide) (by decide) (Nat.le_of_ble_eq_true rfl) (Nat.le_of_ble_eq_true rfl) (Nat.le_of_ble_eq_true rfl) dX11_init_47 (fun q8 hw => ?_)
  refine o_putF (pc := 49) G hw hn hini g_26 rfl rfl rfl dX11_init_49 (fun hw hn => ?_)
  refine x_aload0 (pc := 52) G dX11_init_52 ?_
  refine x_bipush (pc := 53) (v := 12) G dX11_init_53 (by decide) ?_
  refine o_lnewa (pc := 55) (N := 12) (bc1 := 45) (bs1 := 2767) G hw (by decide) (by decide) (Nat.le_of_ble_eq_true rfl) (Nat.le_of_ble_eq_true rfl) (Nat.le_of_ble_eq_true rfl) dX11_init_55 (fun q9 hw => ?_)
  refine o_putF (pc := 57) G hw hn hini g_29 rfl rfl rfl dX11_init_57 (fun hw hn => ?_)
  refine x_aload0 (pc := 60) G dX11_init_60 ?_
  refine x_bipush (pc := 61) (v := 54) G dX11_init_61 (by decide) ?_
  refine o_lnewa (pc := 63) (N := 54) (bc1 := 44) (bs1 := 2713) G hw (by decide) (by decide) (Nat.le_of_ble_eq_true rfl) (Nat.le_of_ble_eq_true rfl) (Nat.le_of_ble_eq_true rfl) dX11_init_63 (fun q11 hw => ?_)
  refine o_putF (pc := 65) G hw hn hini g_32 rfl rfl rfl dX11_init_65 (fun hw hn => ?_)
  refine x_aload0 (pc := 68) G dX11_init_68 ?_
  refine x_bipush (pc := 69) (v := 6) G dX11_init_69 (by decide) ?_
  refine o_znewa (pc := 71) (N := 6) (bc1 := 43) (bs1 := 2707) G hw (by decide) (by decide) (Nat.le_of_ble_eq_true rfl) (Nat.le_of_ble_eq_true rfl) (Nat.le_of_ble_eq_true rfl) dX11_init_71 (fun q12 hw => ?_)
  refine o_putF (pc := 73) G hw hn hini g_35 rfl rfl rfl dX11_init_73 (fun hw hn => ?_)
  refine x_aload0 (pc := 76) G dX11_init_76 ?_
  refine x_bipush (pc := 77) (v := 40) G dX11_init_77 (by decide) ?_
  refine o_inewa (pc := 79) (N := 40) (bc1 := 42) (bs1 := 2667) G hw (by decide) (by decide) (Nat.le_of_ble_eq_true rfl) (Nat.le_of_ble_eq_true rfl) (Nat.le_of_ble_eq_true rfl) dX11_init_79 (fun q15 hw => ?_)
  refine o_putF (pc := 81) G hw hn hini g_39 rfl rfl rfl dX11_init_81 (fun hw hn => ?_)
  refine x_aload0 (pc := 84) G dX11_init_84 ?_
  refine x_bipush (pc := 85) (v := 40) G dX11_init_85 (by decide) ?_
  refine o_inewa (pc := 87) (N := 40) (bc1 := 41) (bs1 := 2627) G hw (by decide) (by decide) (Nat.le_of_ble_eq_true rfl) (Nat.le_of_ble_eq_true rfl) (Nat.le_of_ble_eq_true rfl) dX11_init_87 (fun q16 hw => ?_)
  refine o_putF (pc := 89) G hw hn hini g_42 rfl rfl rfl dX11_init_89 (fun hw hn => ?_)
  refine x_aload0 (pc := 92) G dX11_init_92 ?_
  refine x_bipush (pc := 93) (v := 40) G dX11_init_93 (by decide) ?_
  refine o_inewa (pc := 95) (N := 40) (bc1 := 40) (bs1 := 2587) G hw (by decide) (by decide) (Nat.le_of_ble_eq_true rfl) (Nat.le_of_ble_eq_true rfl) (Nat.le_of_ble_eq_true rfl) dX11_init_95 (fun q17 hw => ?_)
  refine o_putF (pc := 97) G hw hn hini g_45 rfl rfl rfl dX11_init_97 (fun hw hn => ?_)
  refine x_aload0 (pc := 100) G dX11_init_100 ?_
  refine x_bipush (pc := 101) (v := 40) G dX11_init_101 (by decide) ?_
  refine o_inewa (pc := 103) (N := 40) (bc1 := 39) (bs1 := 2547) G hw (by decide) (by decide) (Nat.le_of_ble_eq_true rfl) (Nat.le_of_ble_eq_true rfl) (Nat.le_of_ble_eq_true rfl) dX11_init_103 (fun q18 hw => ?_)
  refine o_putF (pc := 105) G hw hn hini g_48 rfl rfl rfl dX11_init_105 (fun hw hn => ?_)
  refine x_aload0 (pc := 108) G dX11_init_108 ?_
  refine x_bipush (pc := 109) (v := 40) G dX11_init_109 (by decide) ?_
  refine o_lnewa (pc := 111) (N := 40) (bc1 := 38) (bs1 := 2507) G hw (by decide) (by decide) (Nat.le_of_ble_eq_true rfl) (Nat.le_of_ble_eq_true rfl) (Nat.le_of_ble_eq_true rfl) dX11_init_111 (fun q19 hw => ?_)
  refine o_putF (pc := 113) G hw hn hini g_51 rfl rfl rfl dX11_init_113 (fun hw hn => ?_)
  refine x_aload0 (pc := 116) G dX11_init_116 ?_
  refine x_bipush (pc := 117) (v := 40) G dX11_init_117 (by decide) ?_
  refine o_inewa (pc := 119) (N := 40) (bc1 := 37) (bs1 := 2467) G hw (by decide) (by decide) (Nat.le_of_ble_eq_true rfl) (Nat.le_of_ble_eq_true rfl) (Nat.le_of_ble_eq_true rfl) dX11_init_119 (fun q20 hw => ?_)
  refine o_putF (pc := 121) G hw hn hini g_54 rfl rfl rfl dX11_init_121 (fun hw hn => ?_)
  refine x_aload0 (pc := 124) G dX11_init_124 ?_
  refine x_bipush (pc := 125) (v := 40) G dX11_init_125 (by decide) ?_
  refine o_inewa (pc := 127) (N := 40) (bc1 := 36) (bs1 := 2427) G hw (by decide) (by decide) (Nat.le_of_ble_eq_true rfl) (Nat.le_of_ble_eq_true rfl) (Nat.le_of_ble_eq_true rfl) dX11_init_127 (fun q21 hw => ?_)
  refine o_putF (pc := 129) G hw hn hini g_57 rfl rfl rfl dX11_init_129 (fun hw hn => ?_)
  refine x_aload0 (pc := 132) G dX11_init_132 ?_
  refine x_bipush (pc := 133) (v := 40) G dX11_init_133 (by decide) ?_
  refine o_lnewa (pc := 135) (N := 40) (bc1 := 35) (bs1 := 2387) G hw (by decide) (by decide) (Nat.le_of_ble_eq_true rfl) (Nat.le_of_ble_eq_true rfl) (Nat.le_of_ble_eq_true rfl) dX11_init_135 (fun q22 hw => ?_)
  refine o_putF (pc := 137) G hw hn hini g_60 rfl rfl rfl dX11_init_137 (fun hw hn => ?_)
  refine x_aload0 (pc := 140) G dX11_init_140 ?_
  refine x_sipush (pc := 141) (v := 480) G dX11_init_141 (by decide) ?_
  refine o_inewa (pc := 144) (N := 480) (bc1 := 34) (bs1 := 1907) G hw (by decide) (by decide) (Nat.le_of_ble_eq_true rfl) (Nat.le_of_ble_eq_true rfl) (Nat.le_of_ble_eq_true rfl) dX11_init_144 (fun q23 hw => ?_)
  refine o_putF (pc := 146) G hw hn hini g_63 rfl rfl rfl dX11_init_146 (fun hw hn => ?_)
  refine x_aload0 (pc := 149) G dX11_init_149 ?_
  refine x_bipush (pc := 150) (v := 40) G dX11_init_150 (by decide) ?_
  refine o_inewa (pc := 152) (N := 40) (bc1 := 33) (bs1 := 1867) G hw (by decide) (by decide) (Nat.le_of_ble_eq_true rfl) (Nat.le_of_ble_eq_true rfl) (Nat.le_of_ble_eq_true rfl) dX11_init_152 (fun q24 hw => ?_)
  refine o_putF (pc := 154) G hw hn hini g_66 rfl rfl rfl dX11_init_154 (fun hw hn => ?_)
  refine x_aload0 (pc := 157) G dX11_init_157 ?_
  refine x_bipush (pc := 158) (v := 40) G dX11_init_158 (by decide) ?_
  refine o_inewa (pc := 160) (N := 40) (bc1 := 32) (bs1 := 1827) G hw (by decide) (by decide) (Nat.le_of_ble_eq_true rfl) (Nat.le_of_ble_eq_true rfl) (Nat.le_of_ble_eq_true rfl) dX11_init_160 (fun q25 hw => ?_)
  refine o_putF (pc := 162) G hw hn hini g_69 rfl rfl rfl dX11_init_162 (fun hw hn => ?_)
  refine x_aload0 (pc := 165) G dX11_init_165 ?_
  refine x_bipush (pc := 166) (v := 40) G dX11_init_166 (by decide) ?_
  refine o_inewa (pc := 168) (N := 40) (bc1 := 31) (bs1 := 1787) G hw (by decide) (by decide) (Nat.le_of_ble_eq_true rfl) (Nat.le_of_ble_eq_true rfl) (Nat.le_of_ble_eq_true rfl) dX11_init_168 (fun q26 hw => ?_)
  refine o_putF (pc := 170) G hw hn hini g_72 rfl rfl rfl dX11_init_170 (fun hw hn => ?_)
  refine x_aload0 (pc := 173) G dX11_init_173 ?_
  refine x_sipush (pc := 174) (v := 160) G dX11_init_174 (by decide) ?_
  refine o_znewa (pc := 177) (N := 160) (bc1 := 30) (bs1 := 1627) G hw (by decide) (by decide) (Nat.le_of_ble_eq_true rfl) (Nat.le_of_ble_eq_true rfl) (Nat.le_of_ble_eq_true rfl) dX11_init_177 (fun q27 hw => ?_)
  refine o_putF (pc := 179) G hw hn hini g_75 rfl rfl rfl dX11_init_179 (fun hw hn => ?_)
  refine x_aload0 (pc := 182) G dX11_init_182 ?_
  refine x_sipush (pc := 183) (v := 160) G dX11_init_183 (by decide) ?_
  refine o_inewa (pc := 186) (N := 160) (bc1 := 29) (bs1 := 1467) G hw (by decide) (by decide) (Nat.le_of_ble_eq_true rfl) (Nat.le_of_ble_eq_true rfl) (Nat.le_of_ble_eq_true rfl) dX11_init_186 (fun q28 hw => ?_)
  refine o_putF (pc := 188) G hw hn hini g_78 rfl rfl rfl dX11_init_188 (fun hw hn => ?_)
  refine x_aload0 (pc := 191) G dX11_init_191 ?_
  refine x_sipush (pc := 192) (v := 160) G dX11_init_192 (by decide) ?_
  refine o_inewa (pc := 195) (N := 160) (bc1 := 28) (bs1 := 1307) G hw (by decide) (by decide) (Nat.le_of_ble_eq_true rfl) (Nat.le_of_ble_eq_true rfl) (Nat.le_of_ble_eq_true rfl) dX11_init_195 (fun q29 hw => ?_)
  refine o_putF (pc := 197) G hw hn hini g_81 rfl rfl rfl dX11_init_197 (fun hw hn => ?_)
  refine x_aload0 (pc := 200) G dX11_init_200 ?_
  refine x_sipush (pc := 201) (v := 160) G dX11_init_201 (by decide) ?_
  refine o_inewa (pc := 204) (N := 160) (bc1 := 27) (bs1 := 1147) G hw (by decide) (by decide) (Nat.le_of_ble_eq_true rfl) (Nat.le_of_ble_eq_true rfl) (Nat.le_of_ble_eq_true rfl) dX11_init_204 (fun q30 hw => ?_)
  refine o_putF (pc := 206) G hw hn hini g_84 rfl rfl rfl dX11_init_206 (fun hw hn => ?_)
  refine x_aload0 (pc := 209) G dX11_init_209 ?_
  refine x_bipush (pc := 210) (v := 6) G dX11_init_210 (by decide) ?_
  refine o_inewa (pc := 212) (N := 6) (bc1 := 26) (bs1 := 1141) G hw (by decide) (by decide) (Nat.le_of_ble_eq_true rfl) (Nat.le_of_ble_eq_true rfl) (Nat.le_of_ble_eq_true rfl) dX11_init_212 (fun q31 hw => ?_)
  refine o_putF (pc := 214) G hw hn hini g_87 rfl rfl rfl dX11_init_214 (fun hw hn => ?_)
  refine x_aload0 (pc := 217) G dX11_init_217 ?_
  refine x_bipush (pc := 218) (v := 6) G dX11_init_218 (by decide) ?_
  refine o_inewa (pc := 220) (N := 6) (bc1 := 25) (bs1 := 1135) G hw (by decide) (by decide) (Nat.le_of_ble_eq_true rfl) (Nat.le_of_ble_eq_true rfl) (Nat.le_of_ble_eq_true rfl) dX11_init_220 (fun q32 hw => ?_)
  refine o_putF (pc := 222) G hw hn hini g_90 rfl rfl rfl dX11_init_222 (fun hw hn => ?_)
  refine x_aload0 (pc := 225) G dX11_init_225 ?_
  refine x_bipush (pc := 226) (v := 6) G dX11_init_226 (by decide) ?_
  refine o_inewa (pc := 228) (N := 6) (bc1 := 24) (bs1 := 1129) G hw (by decide) (by decide) (Nat.le_of_ble_eq_true rfl) (Nat.le_of_ble_eq_true rfl) (Nat.le_of_ble_eq_true rfl) dX11_init_228 (fun q33 hw => ?_)
  refine o_putF (pc := 230) G hw hn hini g_93 rfl rfl rfl dX11_init_230 (fun hw hn => ?_)
  refine x_aload0 (pc := 233) G dX11_init_233 ?_
  refine x_bipush (pc := 234) (v := 6) G dX11_init_234 (by decide) ?_
  refine o_inewa (pc := 236) (N := 6) (bc1 := 23) (bs1 := 1123) G hw (by decide) (by decide) (Nat.le_of_ble_eq_true rfl) (Nat.le_of_ble_eq_true rfl) (Nat.le_of_ble_eq_true rfl) dX11_init_236 (fun q34 hw => ?_)
  refine o_putF (pc := 238) G hw hn hini g_96 rfl rfl rfl dX11_init_238 (fun hw hn => ?_)
  refine x_aload0 (pc := 241) G dX11_init_241 ?_
  refine x_bipush (pc := 242) (v := 6) G dX11_init_242 (by decide) ?_
  refine o_inewa (pc := 244) (N := 6) (bc1 := 22) (bs1 := 1117) G hw (by decide) (by decide) (Nat.le_of_ble_eq_true rfl) (Nat.le_of_ble_eq_true rfl) (Nat.le_of_ble_eq_true rfl) dX11_init_244 (fun q35 hw => ?_)
  refine o_putF (pc := 246) G hw hn hini g_99 rfl rfl rfl dX11_init_246 (fun hw hn => ?_)
  refine x_aload0 (pc := 249) G dX11_init_249 ?_
  refine x_iconst (pc := 250) (v := 3) G dX11_init_250 (by decide) ?_
  refine o_inewa (pc := 251) (N := 3) (bc1 := 21) (bs1 := 1114) G hw (by decide) (by decide) (Nat.le_of_ble_eq_true rfl) (Nat.le_of_ble_eq_true rfl) (Nat.le_of_ble_eq_true rfl) dX11_init_251 (fun q36 hw => ?_)
  refine o_putF (pc := 253) G hw hn hini g_102 rfl rfl rfl dX11_init_253 (fun hw hn => ?_)
  refine x_aload0 (pc := 256) G dX11_init_256 ?_
  refine x_bipush (pc := 257) (v := 20) G dX11_init_257 (by decide) ?_
  refine o_putI (pc := 259) G hw hn p_105 dX11_init_259 (fun hw hn => ?_)
  refine x_aload0 (pc := 262) G dX11_init_262 ?_
  refine x_bipush (pc := 263) (v := 100) G dX11_init_263 (by decide) ?_
  refine o_putI (pc := 265) G hw hn p_109 dX11_init_265 (fun hw hn => ?_)
  refine x_aload0 (pc := 268) G dX11_init_268 ?_
  refine x_bipush (pc := 269) (v := 60) G dX11_init_269 (by decide) ?_
  refine o_inewa (pc := 271) (N := 60) (bc1 := 20) (bs1 := 1054) G hw (by decide) (by decide) (Nat.le_of_ble_eq_true rfl) (Nat.le_of_ble_eq_true rfl) (Nat.le_of_ble_eq_true rfl) dX11_init_271 (fun q40 hw => ?_)
  refine o_putF (pc := 273) G hw hn hini g_112 rfl rfl rfl dX11_init_273 (fun hw hn => ?_)
  refine x_aload0 (pc := 276) G dX11_init_276 ?_
  refine x_bipush (pc := 277) (v := 60) G dX11_init_277 (by decide) ?_
  refine o_inewa (pc := 279) (N := 60) (bc1 := 19) (bs1 := 994) G hw (by decide) (by decide) (Nat.le_of_ble_eq_true rfl) (Nat.le_of_ble_eq_true rfl) (Nat.le_of_ble_eq_true rfl) dX11_init_279 (fun q41 hw => ?_)
  refine o_putF (pc := 281) G hw hn hini g_115 rfl rfl rfl dX11_init_281 (fun hw hn => ?_)
  refine x_aload0 (pc := 284) G dX11_init_284 ?_
  refine x_bipush (pc := 285) (v := 60) G dX11_init_285 (by decide) ?_
  refine o_inewa (pc := 287) (N := 60) (bc1 := 18) (bs1 := 934) G hw (by decide) (by decide) (Nat.le_of_ble_eq_true rfl) (Nat.le_of_ble_eq_true rfl) (Nat.le_of_ble_eq_true rfl) dX11_init_287 (fun q42 hw => ?_)
  refine o_putF (pc := 289) G hw hn hini g_118 rfl rfl rfl dX11_init_289 (fun hw hn => ?_)
  refine x_aload0 (pc := 292) G dX11_init_292 ?_
  refine x_bipush (pc := 293) (v := 60) G dX11_init_293 (by decide) ?_
  refine o_lnewa (pc := 295) (N := 60) (bc1 := 17) (bs1 := 874) G hw (by decide) (by decide) (Nat.le_of_ble_eq_true rfl) (Nat.le_of_ble_eq_true rfl) (Nat.le_of_ble_eq_true rfl) dX11_init_295 (fun q43 hw => ?_)
  refine o_putF (pc := 297) G hw hn hini g_121 rfl rfl rfl dX11_init_297 (fun hw hn => ?_)
  refine x_aload0 (pc := 300) G dX11_init_300 ?_
  refine x_bipush (pc := 301) (v := 60) G dX11_init_301 (by decide) ?_
  refine o_inewa (pc := 303) (N := 60) (bc1 := 16) (bs1 := 814) G hw (by decide) (by decide) (Nat.le_of_ble_eq_true rfl) (Nat.le_of_ble_eq_true rfl) (Nat.le_of_ble_eq_true rfl) dX11_init_303 (fun q44 hw => ?_)
  refine o_putF (pc := 305) G hw hn hini g_124 rfl rfl rfl dX11_init_305 (fun hw hn => ?_)
  refine x_aload0 (pc := 308) G dX11_init_308 ?_
  refine x_bipush (pc := 309) (v := 60) G dX11_init_309 (by decide) ?_
  refine o_znewa (pc := 311) (N := 60) (bc1 := 15) (bs1 := 754) G hw (by decide) (by decide) (Nat.le_of_ble_eq_true rfl) (Nat.le_of_ble_eq_true rfl) (Nat.le_of_ble_eq_true rfl) dX11_init_311 (fun q45 hw => ?_)
  refine o_putF (pc := 313) G hw hn hini g_127 rfl rfl rfl dX11_init_313 (fun hw hn => ?_)
  refine x_aload0 (pc := 316) G dX11_init_316 ?_
  refine x_bipush (pc := 317) (v := 60) G dX11_init_317 (by decide) ?_
  refine o_lnewa (pc := 319) (N := 60) (bc1 := 14) (bs1 := 694) G hw (by decide) (by decide) (Nat.le_of_ble_eq_true rfl) (Nat.le_of_ble_eq_true rfl) (Nat.le_of_ble_eq_true rfl) dX11_init_319 (fun q46 hw => ?_)
  refine o_putF (pc := 321) G hw hn hini g_130 rfl rfl rfl dX11_init_321 (fun hw hn => ?_)
  refine x_aload0 (pc := 324) G dX11_init_324 ?_
  refine x_bipush (pc := 325) (v := 60) G dX11_init_325 (by decide) ?_
  refine o_lnewa (pc := 327) (N := 60) (bc1 := 13) (bs1 := 634) G hw (by decide) (by decide) (Nat.le_of_ble_eq_true rfl) (Nat.le_of_ble_eq_true rfl) (Nat.le_of_ble_eq_true rfl) dX11_init_327 (fun q47 hw => ?_)
  refine o_putF (pc := 329) G hw hn hini g_133 rfl rfl rfl dX11_init_329 (fun hw hn => ?_)
  refine x_aload0 (pc := 332) G dX11_init_332 ?_
  refine x_bipush (pc := 333) (v := 60) G dX11_init_333 (by decide) ?_
  refine o_lnewa (pc := 335) (N := 60) (bc1 := 12) (bs1 := 574) G hw (by decide) (by decide) (Nat.le_of_ble_eq_true rfl) (Nat.le_of_ble_eq_true rfl) (Nat.le_of_ble_eq_true rfl) dX11_init_335 (fun q48 hw => ?_)
  refine o_putF (pc := 337) G hw hn hini g_136 rfl rfl rfl dX11_init_337 (fun hw hn => ?_)
  refine x_aload0 (pc := 340) G dX11_init_340 ?_
  refine x_bipush (pc := 341) (v := 60) G dX11_init_341 (by decide) ?_
  refine o_inewa (pc := 343) (N := 60) (bc1 := 11) (bs1 := 514) G hw (by decide) (by decide) (Nat.le_of_ble_eq_true rfl) (Nat.le_of_ble_eq_true rfl) (Nat.le_of_ble_eq_true rfl) dX11_init_343 (fun q49 hw => ?_)
  refine o_putF (pc := 345) G hw hn hini g_139 rfl rfl rfl dX11_init_345 (fun hw hn => ?_)
  refine x_aload0 (pc := 348) G dX11_init_348 ?_
  refine x_bipush (pc := 349) (v := 60) G dX11_init_349 (by decide) ?_
  refine o_inewa (pc := 351) (N := 60) (bc1 := 10) (bs1 := 454) G hw (by decide) (by decide) (Nat.le_of_ble_eq_true rfl) (Nat.le_of_ble_eq_true rfl) (Nat.le_of_ble_eq_true rfl) dX11_init_351 (fun q50 hw => ?_)
  refine o_putF (pc := 353) G hw hn hini g_142 rfl rfl rfl dX11_init_353 (fun hw hn => ?_)
  refine x_aload0 (pc := 356) G dX11_init_356 ?_
  refine x_bipush (pc := 357) (v := 60) G dX11_init_357 (by decide) ?_
  refine o_inewa (pc := 359) (N := 60) (bc1 := 9) (bs1 := 394) G hw (by decide) (by decide) (Nat.le_of_ble_eq_true rfl) (Nat.le_of_ble_eq_true rfl) (Nat.le_of_ble_eq_true rfl) dX11_init_359 (fun q51 hw => ?_)
  refine o_putF (pc := 361) G hw hn hini g_145 rfl rfl rfl dX11_init_361 (fun hw hn => ?_)
  refine x_aload0 (pc := 364) G dX11_init_364 ?_
  refine x_bipush (pc := 365) (v := 60) G dX11_init_365 (by decide) ?_
  refine o_znewa (pc := 367) (N := 60) (bc1 := 8) (bs1 := 334) G hw (by decide) (by decide) (Nat.le_of_ble_eq_true rfl) (Nat.le_of_ble_eq_true rfl) (Nat.le_of_ble_eq_true rfl) dX11_init_367 (fun q52 hw => ?_)
  refine o_putF (pc := 369) G hw hn hini g_148 rfl rfl rfl dX11_init_369 (fun hw hn => ?_)
  refine x_aload0 (pc := 372) G dX11_init_372 ?_
  refine x_bipush (pc := 373) (v := 60) G dX11_init_373 (by decide) ?_
  refine o_znewa (pc := 375) (N := 60) (bc1 := 7) (bs1 := 274) G hw (by decide) (by decide) (Nat.le_of_ble_eq_true rfl) (Nat.le_of_ble_eq_true rfl) (Nat.le_of_ble_eq_true rfl) dX11_init_375 (fun q53 hw => ?_)
  refine o_putF (pc := 377) G hw hn hini g_151 rfl rfl rfl dX11_init_377 (fun hw hn => ?_)
  refine x_aload0 (pc := 380) G dX11_init_380 ?_
  refine x_bipush (pc := 381) (v := 60) G dX11_init_381 (by decide) ?_
  refine o_lnewa (pc := 383) (N := 60) (bc1 := 6) (bs1 := 214) G hw (by decide) (by decide) (Nat.le_of_ble_eq_true rfl) (Nat.le_of_ble_eq_true rfl) (Nat.le_of_ble_eq_true rfl) dX11_init_383 (fun q54 hw => ?_)
  refine o_putF (pc := 385) G hw hn hini g_154 rfl rfl rfl dX11_init_385 (fun hw hn => ?_)
  refine x_aload0 (pc := 388) G dX11_init_388 ?_
  refine x_bipush (pc := 389) (v := 60) G dX11_init_389 (by decide) ?_
  refine o_lnewa (pc := 391) (N := 60) (bc1 := 5) (bs1 := 154) G hw (by decide) (by decide) (Nat.le_of_ble_eq_true rfl) (Nat.le_of_ble_eq_true rfl) (Nat.le_of_ble_eq_true rfl) dX11_init_391 (fun q55 hw => ?_)
  refine o_putF (pc := 393) G hw hn hini g_157 rfl rfl rfl dX11_init_393 (fun hw hn => ?_)
  refine x_aload0 (pc := 396) G dX11_init_396 ?_
  refine x_iconst (pc := 397) (v := 4) G dX11_init_397 (by decide) ?_
  refine o_inewa (pc := 398) (N := 4) (bc1 := 4) (bs1 := 150) G hw (by decide) (by decide) (Nat.le_of_ble_eq_true rfl) (Nat.le_of_ble_eq_true rfl) (Nat.le_of_ble_eq_true rfl) dX11_init_398 (fun q56 hw => ?_)
  refine o_putF (pc := 400) G hw hn hini g_160 rfl rfl rfl dX11_init_400 (fun hw hn => ?_)
  refine x_aload0 (pc := 403) G dX11_init_403 ?_
  refine x_bipush (pc := 404) (v := 30) G dX11_init_404 (by decide) ?_
  refine o_lnewa (pc := 406) (N := 30) (bc1 := 3) (bs1 := 120) G hw (by decide) (by decide) (Nat.le_of_ble_eq_true rfl) (Nat.le_of_ble_eq_true rfl) (Nat.le_of_ble_eq_true rfl) dX11_init_406 (fun q58 hw => ?_)
  refine o_putF (pc := 408) G hw hn hini g_163 rfl rfl rfl dX11_init_408 (fun hw hn => ?_)
  refine x_aload0 (pc := 411) G dX11_init_411 ?_
  refine x_bipush (pc := 412) (v := 40) G dX11_init_412 (by decide) ?_
  refine o_inewa (pc := 414) (N := 40) (bc1 := 2) (bs1 := 80) G hw (by decide) (by decide) (Nat.le_of_ble_eq_true rfl) (Nat.le_of_ble_eq_true rfl) (Nat.le_of_ble_eq_true rfl) dX11_init_414 (fun q60 hw => ?_)
  refine o_putF (pc := 416) G hw hn hini g_166 rfl rfl rfl dX11_init_416 (fun hw hn => ?_)
  refine x_aload0 (pc := 419) G dX11_init_419 ?_
  refine x_bipush (pc := 420) (v := 40) G dX11_init_420 (by decide) ?_
  refine o_inewa (pc := 422) (N := 40) (bc1 := 1) (bs1 := 40) G hw (by decide) (by decide) (Nat.le_of_ble_eq_true rfl) (Nat.le_of_ble_eq_true rfl) (Nat.le_of_ble_eq_true rfl) dX11_init_422 (fun q61 hw => ?_)
  refine o_putF (pc := 424) G hw hn hini g_169 rfl rfl rfl dX11_init_424 (fun hw hn => ?_)
  refine x_aload0 (pc := 427) G dX11_init_427 ?_
  refine x_bipush (pc := 428) (v := 40) G dX11_init_428 (by decide) ?_
  refine o_znewa (pc := 430) (N := 40) (bc1 := 0) (bs1 := 0) G hw (by decide) (by decide) (Nat.le_of_ble_eq_true rfl) (Nat.le_of_ble_eq_true rfl) (Nat.le_of_ble_eq_true rfl) dX11_init_430 (fun q62 hw => ?_)
  refine o_putF (pc := 432) G hw hn hini g_172 rfl rfl rfl dX11_init_432 (fun hw hn => ?_)
  obtain ⟨ad, h2, h4, h5, h6, h7, h8, h9, h11, h12, h15, h16, h17, h18, h19, h20, h21, h22, h23, h24, h25, h26, h27, h28, h29, h30, h31, h32, h33, h34, h35, h36, h40, h41, h42, h43, h44, h45, h46, h47, h48, h49, h50, h51, h52, h53, h54, h55, h56, h58, h60, h61, h62⟩ : ∃ ad : Nat → Nat, ad 2 = q2 ∧ ad 4 = q4 ∧ ad 5 = q5 ∧ ad 6 = q6 ∧ ad 7 = q7 ∧ ad 8 = q8 ∧ ad 9 = q9 ∧ ad 11 = q11 ∧ ad 12 = q12 ∧ ad 15 = q15 ∧ ad 16 = q16 ∧ ad 17 = q17 ∧ ad 18 = q18 ∧ ad 19 = q19 ∧ ad 20 = q20 ∧ ad 21 = q21 ∧ ad 22 = q22 ∧ ad 23 = q23 ∧ ad 24 = q24 ∧ ad 25 = q25 ∧ ad 26 = q26 ∧ ad 27 = q27 ∧ ad 28 = q28 ∧ ad 29 = q29 ∧ ad 30 = q30 ∧ ad 31 = q31 ∧ ad 32 = q32 ∧ ad 33 = q33 ∧ ad 34 = q34 ∧ ad 35 = q35 ∧ ad 36 = q36 ∧ ad 40 = q40 ∧ ad 41 = q41 ∧ ad 42 = q42 ∧ ad 43 = q43 ∧ ad 44 = q44 ∧ ad 45 = q45 ∧ ad 46 = q46 ∧ ad 47 = q47 ∧ ad 48 = q48 ∧ ad 49 = q49 ∧ ad 50 = q50 ∧ ad 51 = q51 ∧ ad 52 = q52 ∧ ad 53 = q53 ∧ ad 54 = q54 ∧ ad 55 = q55 ∧ ad 56 = q56 ∧ ad 58 = q58 ∧ ad 60 = q60 ∧ ad 61 = q61 ∧ ad 62 = q62 := ⟨fun j => match j with
    | 2 => q2
    | 4 => q4
    | 5 => q5
    | 6 => q6
    | 7 => q7
    | 8 => q8
    | 9 => q9
    | 11 => q11
    | 12 => q12
    | 15 => q15
    | 16 => q16
    | 17 => q17
    | 18 => q18
    | 19 => q19
    | 20 => q20
    | 21 => q21
    | 22 => q22
    | 23 => q23
    | 24 => q24
    | 25 => q25
    | 26 => q26
    | 27 => q27
    | 28 => q28
    | 29 => q29
    | 30 => q30
    | 31 => q31
    | 32 => q32
    | 33 => q33
    | 34 => q34
    | 35 => q35
    | 36 => q36
    | 40 => q40
    | 41 => q41
    | 42 => q42
    | 43 => q43
    | 44 => q44
    | 45 => q45
    | 46 => q46
    | 47 => q47
    | 48 => q48
    | 49 => q49
    | 50 => q50
    | 51 => q51
    | 52 => q52
    | 53 => q53
    | 54 => q54
    | 55 => q55
    | 56 => q56
    | 58 => q58
    | 60 => q60
    | 61 => q61
    | 62 => q62
    | _ => 0, rfl, rfl, rfl, rfl, rfl, rfl, rfl, rfl, rfl, rfl, rfl, rfl, rfl, rfl, rfl, rfl, rfl, rfl, rfl, rfl, rfl, rfl, rfl, rfl, rfl, rfl, rfl, rfl, rfl, rfl, rfl, rfl, rfl, rfl, rfl, rfl, rfl, rfl, rfl, rfl, rfl, rfl, rfl, rfl, rfl, rfl, rfl, rfl, rfl, rfl, rfl, rfl⟩
  have hmap : mAL.map ad = [q2, q4, q5, q6, q7, q8, q9, q11, q12, q15, q16, q17, q18, q19, q20, q21, q22, q23, q24, q25, q26, q27, q28, q29, q30, q31, q32, q33, q34, q35, q36, q40, q41, q42, q43, q44, q45, q46, q47, q48, q49, q50, q51, q52, q53, q54, q55, q56, q58, q60, q61, q62] := by
    show [ad 2, ad 4, ad 5, ad 6, ad 7, ad 8, ad 9, ad 11, ad 12, ad 15, ad 16, ad 17, ad 18, ad 19, ad 20, ad 21, ad 22, ad 23, ad 24, ad 25, ad 26, ad 27, ad 28, ad 29, ad 30, ad 31, ad 32, ad 33, ad 34, ad 35, ad 36, ad 40, ad 41, ad 42, ad 43, ad 44, ad 45, ad 46, ad 47, ad 48, ad 49, ad 50, ad 51, ad 52, ad 53, ad 54, ad 55, ad 56, ad 58, ad 60, ad 61, ad 62] = _
    rw [h2, h4, h5, h6, h7, h8, h9, h11, h12, h15, h16, h17, h18, h19, h20, h21, h22, h23, h24, h25, h26, h27, h28, h29, h30, h31, h32, h33, h34, h35, h36, h40, h41, h42, h43, h44, h45, h46, h47, h48, h49, h50, h51, h52, h53, h54, h55, h56, h58, h60, h61, h62]
  have hw9 := hw
  unfold ND at hw9
  simp only [List.cons_append, List.nil_append, List.map_cons, List.map_nil] at hw9
  have hH : HM mo ad := HM_of (by rw [hmap]; exact hw9)
  have c2 : mCell k mZ 2 = .inl (k.2.2.1, 9, .inr (.inl (fun _ => (0 : Int64)))) := mCell_1 rfl
  have c4 : mCell k mZ 4 = .inl (k.2.1, 12, .inl (fun _ => (0 : Int32))) := mCell_0 rfl
  have c5 : mCell k mZ 5 = .inl (k.2.1, 12, .inl (fun _ => (0 : Int32))) := mCell_0 rfl
  have c6 : mCell k mZ 6 = .inl (k.2.1, 12, .inl (fun _ => (0 : Int32))) := mCell_0 rfl
  have c7 : mCell k mZ 7 = .inl (k.2.1, 12, .inl (fun _ => (0 : Int32))) := mCell_0 rfl
  have c8 : mCell k mZ 8 = .inl (k.2.2.1, 12, .inr (.inl (fun _ => (0 : Int64)))) := mCell_1 rfl
  have c9 : mCell k mZ 9 = .inl (k.2.2.1, 12, .inr (.inl (fun _ => (0 : Int64)))) := mCell_1 rfl
  have c11 : mCell k mZ 11 = .inl (k.2.2.1, 54, .inr (.inl (fun _ => (0 : Int64)))) := mCell_1 rfl
  have c12 : mCell k mZ 12 = .inl (k.2.2.2.1, 6, .inl (fun _ => (0 : Int32))) := mCell_2 rfl
  have c15 : mCell k mZ 15 = .inl (k.2.1, 40, .inl (fun _ => (0 : Int32))) := mCell_0 rfl
  have c16 : mCell k mZ 16 = .inl (k.2.1, 40, .inl (fun _ => (0 : Int32))) := mCell_0 rfl
  have c17 : mCell k mZ 17 = .inl (k.2.1, 40, .inl (fun _ => (0 : Int32))) := mCell_0 rfl
  have c18 : mCell k mZ 18 = .inl (k.2.1, 40, .inl (fun _ => (0 : Int32))) := mCell_0 rfl
  have c19 : mCell k mZ 19 = .inl (k.2.2.1, 40, .inr (.inl (fun _ => (0 : Int64)))) := mCell_1 rfl
  have c20 : mCell k mZ 20 = .inl (k.2.1, 40, .inl (fun _ => (0 : Int32))) := mCell_0 rfl
  have c21 : mCell k mZ 21 = .inl (k.2.1, 40, .inl (fun _ => (0 : Int32))) := mCell_0 rfl
  have c22 : mCell k mZ 22 = .inl (k.2.2.1, 40, .inr (.inl (fun _ => (0 : Int64)))) := mCell_1 rfl
  have c23 : mCell k mZ 23 = .inl (k.2.1, 480, .inl (fun _ => (0 : Int32))) := mCell_0 rfl
  have c24 : mCell k mZ 24 = .inl (k.2.1, 40, .inl (fun _ => (0 : Int32))) := mCell_0 rfl
  have c25 : mCell k mZ 25 = .inl (k.2.1, 40, .inl (fun _ => (0 : Int32))) := mCell_0 rfl
  have c26 : mCell k mZ 26 = .inl (k.2.1, 40, .inl (fun _ => (0 : Int32))) := mCell_0 rfl
  have c27 : mCell k mZ 27 = .inl (k.2.2.2.1, 160, .inl (fun _ => (0 : Int32))) := mCell_2 rfl
  have c28 : mCell k mZ 28 = .inl (k.2.1, 160, .inl (fun _ => (0 : Int32))) := mCell_0 rfl
  have c29 : mCell k mZ 29 = .inl (k.2.1, 160, .inl (fun _ => (0 : Int32))) := mCell_0 rfl
  have c30 : mCell k mZ 30 = .inl (k.2.1, 160, .inl (fun _ => (0 : Int32))) := mCell_0 rfl
  have c31 : mCell k mZ 31 = .inl (k.2.1, 6, .inl (fun _ => (0 : Int32))) := mCell_0 rfl
  have c32 : mCell k mZ 32 = .inl (k.2.1, 6, .inl (fun _ => (0 : Int32))) := mCell_0 rfl
  have c33 : mCell k mZ 33 = .inl (k.2.1, 6, .inl (fun _ => (0 : Int32))) := mCell_0 rfl
  have c34 : mCell k mZ 34 = .inl (k.2.1, 6, .inl (fun _ => (0 : Int32))) := mCell_0 rfl
  have c35 : mCell k mZ 35 = .inl (k.2.1, 6, .inl (fun _ => (0 : Int32))) := mCell_0 rfl
  have c36 : mCell k mZ 36 = .inl (k.2.1, 3, .inl (fun _ => (0 : Int32))) := mCell_0 rfl
  have c40 : mCell k mZ 40 = .inl (k.2.1, 60, .inl (fun _ => (0 : Int32))) := mCell_0 rfl
  have c41 : mCell k mZ 41 = .inl (k.2.1, 60, .inl (fun _ => (0 : Int32))) := mCell_0 rfl
  have c42 : mCell k mZ 42 = .inl (k.2.1, 60, .inl (fun _ => (0 : Int32))) := mCell_0 rfl
  have c43 : mCell k mZ 43 = .inl (k.2.2.1, 60, .inr (.inl (fun _ => (0 : Int64)))) := mCell_1 rfl
  have c44 : mCell k mZ 44 = .inl (k.2.1, 60, .inl (fun _ => (0 : Int32))) := mCell_0 rfl
  have c45 : mCell k mZ 45 = .inl (k.2.2.2.1, 60, .inl (fun _ => (0 : Int32))) := mCell_2 rfl
  have c46 : mCell k mZ 46 = .inl (k.2.2.1, 60, .inr (.inl (fun _ => (0 : Int64)))) := mCell_1 rfl
  have c47 : mCell k mZ 47 = .inl (k.2.2.1, 60, .inr (.inl (fun _ => (0 : Int64)))) := mCell_1 rfl
  have c48 : mCell k mZ 48 = .inl (k.2.2.1, 60, .inr (.inl (fun _ => (0 : Int64)))) := mCell_1 rfl
  have c49 : mCell k mZ 49 = .inl (k.2.1, 60, .inl (fun _ => (0 : Int32))) := mCell_0 rfl
  have c50 : mCell k mZ 50 = .inl (k.2.1, 60, .inl (fun _ => (0 : Int32))) := mCell_0 rfl
  have c51 : mCell k mZ 51 = .inl (k.2.1, 60, .inl (fun _ => (0 : Int32))) := mCell_0 rfl
  have c52 : mCell k mZ 52 = .inl (k.2.2.2.1, 60, .inl (fun _ => (0 : Int32))) := mCell_2 rfl
  have c53 : mCell k mZ 53 = .inl (k.2.2.2.1, 60, .inl (fun _ => (0 : Int32))) := mCell_2 rfl
  have c54 : mCell k mZ 54 = .inl (k.2.2.1, 60, .inr (.inl (fun _ => (0 : Int64)))) := mCell_1 rfl
  have c55 : mCell k mZ 55 = .inl (k.2.2.1, 60, .inr (.inl (fun _ => (0 : Int64)))) := mCell_1 rfl
  have c56 : mCell k mZ 56 = .inl (k.2.1, 4, .inl (fun _ => (0 : Int32))) := mCell_0 rfl
  have c58 : mCell k mZ 58 = .inl (k.2.2.1, 30, .inr (.inl (fun _ => (0 : Int64)))) := mCell_1 rfl
  have c60 : mCell k mZ 60 = .inl (k.2.1, 40, .inl (fun _ => (0 : Int32))) := mCell_0 rfl
  have c61 : mCell k mZ 61 = .inl (k.2.1, 40, .inl (fun _ => (0 : Int32))) := mCell_0 rfl
  have c62 : mCell k mZ 62 = .inl (k.2.2.2.1, 40, .inl (fun _ => (0 : Int32))) := mCell_2 rfl
  have hA : mAL.map (fun j => (ad j, mCell k mZ j)) = [(q2, .inl (k.2.2.1, 9, .inr (.inl (fun _ => (0 : Int64))))), (q4, .inl (k.2.1, 12, .inl (fun _ => (0 : Int32)))), (q5, .inl (k.2.1, 12, .inl (fun _ => (0 : Int32)))), (q6, .inl (k.2.1, 12, .inl (fun _ => (0 : Int32)))), (q7, .inl (k.2.1, 12, .inl (fun _ => (0 : Int32)))), (q8, .inl (k.2.2.1, 12, .inr (.inl (fun _ => (0 : Int64))))), (q9, .inl (k.2.2.1, 12, .inr (.inl (fun _ => (0 : Int64))))), (q11, .inl (k.2.2.1, 54, .inr (.inl (fun _ => (0 : Int64))))), (q12, .inl (k.2.2.2.1, 6, .inl (fun _ => (0 : Int32)))), (q15, .inl (k.2.1, 40, .inl (fun _ => (0 : Int32)))), (q16, .inl (k.2.1, 40, .inl (fun _ => (0 : Int32)))), (q17, .inl (k.2.1, 40, .inl (fun _ => (0 : Int32)))), (q18, .inl (k.2.1, 40, .inl (fun _ => (0 : Int32)))), (q19, .inl (k.2.2.1, 40, .inr (.inl (fun _ => (0 : Int64))))), (q20, .inl (k.2.1, 40, .inl (fun _ => (0 : Int32)))), (q21, .inl (k.2.1, 40, .inl (fun _ => (0 : Int32)))), (q22, .inl (k.2.2.1, 40, .inr (.inl (fun _ => (0 : Int64))))), (q23, .inl (k.2.1, 480, .inl (fun _ => (0 : Int32)))), (q24, .inl (k.2.1, 40, .inl (fun _ => (0 : Int32)))), (q25, .inl (k.2.1, 40, .inl (fun _ => (0 : Int32)))), (q26, .inl (k.2.1, 40, .inl (fun _ => (0 : Int32)))), (q27, .inl (k.2.2.2.1, 160, .inl (fun _ => (0 : Int32)))), (q28, .inl (k.2.1, 160, .inl (fun _ => (0 : Int32)))), (q29, .inl (k.2.1, 160, .inl (fun _ => (0 : Int32)))), (q30, .inl (k.2.1, 160, .inl (fun _ => (0 : Int32)))), (q31, .inl (k.2.1, 6, .inl (fun _ => (0 : Int32)))), (q32, .inl (k.2.1, 6, .inl (fun _ => (0 : Int32)))), (q33, .inl (k.2.1, 6, .inl (fun _ => (0 : Int32)))), (q34, .inl (k.2.1, 6, .inl (fun _ => (0 : Int32)))), (q35, .inl (k.2.1, 6, .inl (fun _ => (0 : Int32)))), (q36, .inl (k.2.1, 3, .inl (fun _ => (0 : Int32)))), (q40, .inl (k.2.1, 60, .inl (fun _ => (0 : Int32)))), (q41, .inl (k.2.1, 60, .inl (fun _ => (0 : Int32)))), (q42, .inl (k.2.1, 60, .inl (fun _ => (0 : Int32)))), (q43, .inl (k.2.2.1, 60, .inr (.inl (fun _ => (0 : Int64))))), (q44, .inl (k.2.1, 60, .inl (fun _ => (0 : Int32)))), (q45, .inl (k.2.2.2.1, 60, .inl (fun _ => (0 : Int32)))), (q46, .inl (k.2.2.1, 60, .inr (.inl (fun _ => (0 : Int64))))), (q47, .inl (k.2.2.1, 60, .inr (.inl (fun _ => (0 : Int64))))), (q48, .inl (k.2.2.1, 60, .inr (.inl (fun _ => (0 : Int64))))), (q49, .inl (k.2.1, 60, .inl (fun _ => (0 : Int32)))), (q50, .inl (k.2.1, 60, .inl (fun _ => (0 : Int32)))), (q51, .inl (k.2.1, 60, .inl (fun _ => (0 : Int32)))), (q52, .inl (k.2.2.2.1, 60, .inl (fun _ => (0 : Int32)))), (q53, .inl (k.2.2.2.1, 60, .inl (fun _ => (0 : Int32)))), (q54, .inl (k.2.2.1, 60, .inr (.inl (fun _ => (0 : Int64))))), (q55, .inl (k.2.2.1, 60, .inr (.inl (fun _ => (0 : Int64))))), (q56, .inl (k.2.1, 4, .inl (fun _ => (0 : Int32)))), (q58, .inl (k.2.2.1, 30, .inr (.inl (fun _ => (0 : Int64))))), (q60, .inl (k.2.1, 40, .inl (fun _ => (0 : Int32)))), (q61, .inl (k.2.1, 40, .inl (fun _ => (0 : Int32)))), (q62, .inl (k.2.2.2.1, 40, .inl (fun _ => (0 : Int32))))] := by
    show [(ad 2, mCell k mZ 2), (ad 4, mCell k mZ 4), (ad 5, mCell k mZ 5), (ad 6, mCell k mZ 6), (ad 7, mCell k mZ 7), (ad 8, mCell k mZ 8), (ad 9, mCell k mZ 9), (ad 11, mCell k mZ 11), (ad 12, mCell k mZ 12), (ad 15, mCell k mZ 15), (ad 16, mCell k mZ 16), (ad 17, mCell k mZ 17), (ad 18, mCell k mZ 18), (ad 19, mCell k mZ 19), (ad 20, mCell k mZ 20), (ad 21, mCell k mZ 21), (ad 22, mCell k mZ 22), (ad 23, mCell k mZ 23), (ad 24, mCell k mZ 24), (ad 25, mCell k mZ 25), (ad 26, mCell k mZ 26), (ad 27, mCell k mZ 27), (ad 28, mCell k mZ 28), (ad 29, mCell k mZ 29), (ad 30, mCell k mZ 30), (ad 31, mCell k mZ 31), (ad 32, mCell k mZ 32), (ad 33, mCell k mZ 33), (ad 34, mCell k mZ 34), (ad 35, mCell k mZ 35), (ad 36, mCell k mZ 36), (ad 40, mCell k mZ 40), (ad 41, mCell k mZ 41), (ad 42, mCell k mZ 42), (ad 43, mCell k mZ 43), (ad 44, mCell k mZ 44), (ad 45, mCell k mZ 45), (ad 46, mCell k mZ 46), (ad 47, mCell k mZ 47), (ad 48, mCell k mZ 48), (ad 49, mCell k mZ 49), (ad 50, mCell k mZ 50), (ad 51, mCell k mZ 51), (ad 52, mCell k mZ 52), (ad 53, mCell k mZ 53), (ad 54, mCell k mZ 54), (ad 55, mCell k mZ 55), (ad 56, mCell k mZ 56), (ad 58, mCell k mZ 58), (ad 60, mCell k mZ 60), (ad 61, mCell k mZ 61), (ad 62, mCell k mZ 62)] = _
    rw [h2, c2, h4, c4, h5, c5, h6, c6, h7, c7, h8, c8, h9, c9, h11, c11, h12, c12, h15, c15, h16, c16, h17, c17, h18, c18, h19, c19, h20, c20, h21, c21, h22, c22, h23, c23, h24, c24, h25, c25, h26, c26, h27, c27, h28, c28, h29, c29, h30, c30, h31, c31, h32, c32, h33, c33, h34, c34, h35, c35, h36, c36, h40, c40, h41, c41, h42, c42, h43, c43, h44, c44, h45, c45, h46, c46, h47, c47, h48, c48, h49, c49, h50, c50, h51, c51, h52, c52, h53, c53, h54, c54, h55, c55, h56, c56, h58, c58, h60, c60, h61, c61, h62, c62]
  have hF : mF ad mZ = [.int 0, .int 0, .ref q2, .int 0, .ref q4, .ref q5, .ref q6, .ref q7, .ref q8, .ref q9, .int 0, .ref q11, .ref q12, .int 0, .int 0, .ref q15, .ref q16, .ref q17, .ref q18, .ref q19, .ref q20, .ref q21, .ref q22, .ref q23, .ref q24, .ref q25, .ref q26, .ref q27, .ref q28, .ref q29, .ref q30, .ref q31, .ref q32, .ref q33, .ref q34, .ref q35, .ref q36, .int 20, .int 100, .int 0, .ref q40, .ref q41, .ref q42, .ref q43, .ref q44, .ref q45, .ref q46, .ref q47, .ref q48, .ref q49, .ref q50, .ref q51, .ref q52, .ref q53, .ref q54, .ref q55, .ref q56, .int 0, .ref q58, .int 0, .ref q60, .ref q61, .ref q62, .long 0, .int 0, .int 0] := by
    unfold mF
    rw [h2, h4, h5, h6, h7, h8, h9, h11, h12, h15, h16, h17, h18, h19, h20, h21, h22, h23, h24, h25, h26, h27, h28, h29, h30, h31, h32, h33, h34, h35, h36, h40, h41, h42, h43, h44, h45, h46, h47, h48, h49, h50, h51, h52, h53, h54, h55, h56, h58, h60, h61, h62]
    rfl
  refine Wx_congr (h2 := mW k mo ad mZ) (by rw [wl_wO hw, wl_mW hH, hA, hF]; simp only [List.cons_append, List.nil_append, List.set_cons_zero, List.set_cons_succ]) ?_
  refine x_iconst (pc := 435) (v := 0) G dX11_init_435 (by decide) ?_
  refine x_istore1 (pc := 436) G dX11_init_436 (by decide) rfl ?_
  refine x_iload1 (pc := 437) G dX11_init_437 ?_
  refine x_iconst (pc := 438) (v := 3) G dX11_init_438 (by decide) ?_
  refine x_icmp_ge (pc := 439) (tgt := 457) G dX11_init_439 rfl (fun z => absurd z (by decide)) (fun _ => ?_)
  refine x_aload0 (pc := 442) G dX11_init_442 ?_
  refine y_gA (pc := 443) G g_102 (j := 36) rfl dX11_init_443 ?_
  refine x_iload1 (pc := 446) G dX11_init_446 ?_
  refine x_sipush (pc := 447) (v := 1000) G dX11_init_447 (by decide) ?_
  refine y_iast (pc := 450) G hH (j := 36) a_36 (vin_lit (by decide)) dX11_init_450 ?_
  refine x_iinc1 (pc := 451) (v := 1) G dX11_init_451 (by decide) (by decide) rfl ?_
  refine x_goto (pc := 454) (tgt := 437) G dX11_init_454 rfl ?_
  refine x_iload1 (pc := 437) G dX11_init_437 ?_
  refine x_iconst (pc := 438) (v := 3) G dX11_init_438 (by decide) ?_
  refine x_icmp_ge (pc := 439) (tgt := 457) G dX11_init_439 rfl (fun z => absurd z (by decide)) (fun _ => ?_)
  refine x_aload0 (pc := 442) G dX11_init_442 ?_
  refine y_gA (pc := 443) G g_102 (j := 36) rfl dX11_init_443 ?_
  refine x_iload1 (pc := 446) G dX11_init_446 ?_
  refine x_sipush (pc := 447) (v := 1000) G dX11_init_447 (by decide) ?_
  refine y_iast (pc := 450) G hH (j := 36) a_36 (vin_lit (by decide)) dX11_init_450 ?_
  refine x_iinc1 (pc := 451) (v := 2) G dX11_init_451 (by decide) (by decide) rfl ?_
  refine x_goto (pc := 454) (tgt := 437) G dX11_init_454 rfl ?_
  refine x_iload1 (pc := 437) G dX11_init_437 ?_
  refine x_iconst (pc := 438) (v := 3) G dX11_init_438 (by decide) ?_
  refine x_icmp_ge (pc := 439) (tgt := 457) G dX11_init_439 rfl (fun z => absurd z (by decide)) (fun _ => ?_)
  refine x_aload0 (pc := 442) G dX11_init_442 ?_
  refine y_gA (pc := 443) G g_102 (j := 36) rfl dX11_init_443 ?_
  refine x_iload1 (pc := 446) G dX11_init_446 ?_
  refine x_sipush (pc := 447) (v := 1000) G dX11_init_447 (by decide) ?_
  refine y_iast (pc := 450) G hH (j := 36) a_36 (vin_lit (by decide)) dX11_init_450 ?_
  refine x_iinc1 (pc := 451) (v := 3) G dX11_init_451 (by decide) (by decide) rfl ?_
  refine x_goto (pc := 454) (tgt := 437) G dX11_init_454 rfl ?_
  refine x_iload1 (pc := 437) G dX11_init_437 ?_
  refine x_iconst (pc := 438) (v := 3) G dX11_init_438 (by decide) ?_
  refine x_icmp_ge (pc := 439) (tgt := 457) G dX11_init_439 rfl (fun _ => ?_) (fun z => absurd (by decide) z)
  exact x_vret (pc := 457) G B rfl dX11_init_457 ⟨ad, hH, rfl, rfl⟩
