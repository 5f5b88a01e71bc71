theorem dX9_init_0 : decode cX9_init 0 = .ok (.aload_n 0, 1) := by decide +kernel
theorem dX9_init_1 : decode cX9_init 1 = .ok (.invokespecial 1, 3) := by decide +kernel
theorem dX9_init_4 : decode cX9_init 4 = .ok (.aload_n 0, 1) := by decide +kernel
theorem dX9_init_5 : decode cX9_init 5 = .ok (.sipush 1001, 3) := by decide +kernel
theorem dX9_init_8 : decode cX9_init 8 = .ok (.newarray .boolean, 2) := by decide +kernel
theorem dX9_init_10 : decode cX9_init 10 = .ok (.putfield 7, 3) := by decide +kernel
theorem dX9_init_13 : decode cX9_init 13 = .ok (.aload_n 0, 1) := by decide +kernel
theorem dX9_init_14 : decode cX9_init 14 = .ok (.iconst 5, 1) := by decide +kernel
theorem dX9_init_15 : decode cX9_init 15 = .ok (.newarray .int, 2) := by decide +kernel
theorem dX9_init_17 : decode cX9_init 17 = .ok (.putfield 13, 3) := by decide +kernel
theorem dX9_init_20 : decode cX9_init 20 = .ok (.aload_n 0, 1) := by decide +kernel
theorem dX9_init_21 : decode cX9_init 21 = .ok (.iconst 5, 1) := by decide +kernel
theorem dX9_init_22 : decode cX9_init 22 = .ok (.newarray .boolean, 2) := by decide +kernel
theorem dX9_init_24 : decode cX9_init 24 = .ok (.putfield 17, 3) := by decide +kernel
theorem dX9_init_27 : decode cX9_init 27 = .ok (.aload_n 0, 1) := by decide +kernel
theorem dX9_init_28 : decode cX9_init 28 = .ok (.bipush 8, 2) := by decide +kernel
theorem dX9_init_30 : decode cX9_init 30 = .ok (.newarray .int, 2) := by decide +kernel
theorem dX9_init_32 : decode cX9_init 32 = .ok (.putfield 20, 3) := by decide +kernel
theorem dX9_init_35 : decode cX9_init 35 = .ok (.aload_n 0, 1) := by decide +kernel
theorem dX9_init_36 : decode cX9_init 36 = .ok (.bipush 8, 2) := by decide +kernel
theorem dX9_init_38 : decode cX9_init 38 = .ok (.newarray .int, 2) := by decide +kernel
theorem dX9_init_40 : decode cX9_init 40 = .ok (.putfield 23, 3) := by decide +kernel
theorem dX9_init_43 : decode cX9_init 43 = .ok (.aload_n 0, 1) := by decide +kernel
theorem dX9_init_44 : decode cX9_init 44 = .ok (.sipush 128, 3) := by decide +kernel
theorem dX9_init_47 : decode cX9_init 47 = .ok (.newarray .int, 2) := by decide +kernel
theorem dX9_init_49 : decode cX9_init 49 = .ok (.putfield 26, 3) := by decide +kernel
theorem dX9_init_52 : decode cX9_init 52 = .ok (.aload_n 0, 1) := by decide +kernel
theorem dX9_init_53 : decode cX9_init 53 = .ok (.sipush 128, 3) := by decide +kernel
theorem dX9_init_56 : decode cX9_init 56 = .ok (.newarray .int, 2) := by decide +kernel
theorem dX9_init_58 : decode cX9_init 58 = .ok (.putfield 29, 3) := by decide +kernel
theorem dX9_init_61 : decode cX9_init 61 = .ok (.aload_n 0, 1) := by decide +kernel
theorem dX9_init_62 : decode cX9_init 62 = .ok (.bipush 24, 2) := by decide +kernel
theorem dX9_init_64 : decode cX9_init 64 = .ok (.newarray .int, 2) := by decide +kernel
theorem dX9_init_66 : decode cX9_init 66 = .ok (.putfield 32, 3) := by decide +kernel
theorem dX9_init_69 : decode cX9_init 69 = .ok (.aload_n 0, 1) := by decide +kernel
theorem dX9_init_70 : decode cX9_init 70 = .ok (.bipush 24, 2) := by decide +kernel
theorem dX9_init_72 : decode cX9_init 72 = .ok (.newarray .int, 2) := by decide +kernel
theorem dX9_init_74 : decode cX9_init 74 = .ok (.putfield 35, 3) := by decide +kernel
theorem dX9_init_77 : decode cX9_init 77 = .ok (.aload_n 0, 1) := by decide +kernel
theorem dX9_init_78 : decode cX9_init 78 = .ok (.bipush 24, 2) := by decide +kernel
theorem dX9_init_80 : decode cX9_init 80 = .ok (.newarray .int, 2) := by decide +kernel
theorem dX9_init_82 : decode cX9_init 82 = .ok (.putfield 38, 3) := by decide +kernel
theorem dX9_init_85 : decode cX9_init 85 = .ok (.aload_n 0, 1) := by decide +kernel
theorem dX9_init_86 : decode cX9_init 86 = .ok (.bipush 24, 2) := by decide +kernel
theorem dX9_init_88 : decode cX9_init 88 = .ok (.newarray .int, 2) := by decide +kernel
theorem dX9_init_90 : decode cX9_init 90 = .ok (.putfield 41, 3) := by decide +kernel
theorem dX9_init_93 : decode cX9_init 93 = .ok (.aload_n 0, 1) := by decide +kernel
theorem dX9_init_94 : decode cX9_init 94 = .ok (.bipush 24, 2) := by decide +kernel
theorem dX9_init_96 : decode cX9_init 96 = .ok (.newarray .int, 2) := by decide +kernel
theorem dX9_init_98 : decode cX9_init 98 = .ok (.putfield 44, 3) := by decide +kernel
theorem dX9_init_101 : decode cX9_init 101 = .ok (.aload_n 0, 1) := by decide +kernel
theorem dX9_init_102 : decode cX9_init 102 = .ok (.bipush 24, 2) := by decide +kernel
theorem dX9_init_104 : decode cX9_init 104 = .ok (.newarray .int, 2) := by decide +kernel
theorem dX9_init_106 : decode cX9_init 106 = .ok (.putfield 47, 3) := by decide +kernel
theorem dX9_init_109 : decode cX9_init 109 = .ok (.aload_n 0, 1) := by decide +kernel
theorem dX9_init_110 : decode cX9_init 110 = .ok (.bipush 24, 2) := by decide +kernel
theorem dX9_init_112 : decode cX9_init 112 = .ok (.newarray .int, 2) := by decide +kernel
theorem dX9_init_114 : decode cX9_init 114 = .ok (.putfield 50, 3) := by decide +kernel
theorem dX9_init_117 : decode cX9_init 117 = .ok (.aload_n 0, 1) := by decide +kernel
theorem dX9_init_118 : decode cX9_init 118 = .ok (.bipush 24, 2) := by decide +kernel
theorem dX9_init_120 : decode cX9_init 120 = .ok (.newarray .int, 2) := by decide +kernel
theorem dX9_init_122 : decode cX9_init 122 = .ok (.putfield 53, 3) := by decide +kernel
theorem dX9_init_125 : decode cX9_init 125 = .ok (.aload_n 0, 1) := by decide +kernel
theorem dX9_init_126 : decode cX9_init 126 = .ok (.bipush 24, 2) := by decide +kernel
theorem dX9_init_128 : decode cX9_init 128 = .ok (.newarray .int, 2) := by decide +kernel
theorem dX9_init_130 : decode cX9_init 130 = .ok (.putfield 56, 3) := by decide +kernel
theorem dX9_init_133 : decode cX9_init 133 = .ok (.aload_n 0, 1) := by decide +kernel
theorem dX9_init_134 : decode cX9_init 134 = .ok (.bipush 24, 2) := by decide +kernel
theorem dX9_init_136 : decode cX9_init 136 = .ok (.newarray .int, 2) := by decide +kernel
theorem dX9_init_138 : decode cX9_init 138 = .ok (.putfield 59, 3) := by decide +kernel
theorem dX9_init_141 : decode cX9_init 141 = .ok (.aload_n 0, 1) := by decide +kernel
theorem dX9_init_142 : decode cX9_init 142 = .ok (.bipush 24, 2) := by decide +kernel
theorem dX9_init_144 : decode cX9_init 144 = .ok (.newarray .int, 2) := by decide +kernel
theorem dX9_init_146 : decode cX9_init 146 = .ok (.putfield 62, 3) := by decide +kernel
theorem dX9_init_149 : decode cX9_init 149 = .ok (.aload_n 0, 1) := by decide +kernel
theorem dX9_init_150 : decode cX9_init 150 = .ok (.sipush 160, 3) := by decide +kernel
theorem dX9_init_153 : decode cX9_init 153 = .ok (.newarray .int, 2) := by decide +kernel
theorem dX9_init_155 : decode cX9_init 155 = .ok (.putfield 65, 3) := by decide +kernel
theorem dX9_init_158 : decode cX9_init 158 = .ok (.aload_n 0, 1) := by decide +kernel
theorem dX9_init_159 : decode cX9_init 159 = .ok (.sipush 160, 3) := by decide +kernel
theorem dX9_init_162 : decode cX9_init 162 = .ok (.newarray .int, 2) := by decide +kernel
theorem dX9_init_164 : decode cX9_init 164 = .ok (.putfield 68, 3) := by decide +kernel
theorem dX9_init_167 : decode cX9_init 167 = .ok (.aload_n 0, 1) := by decide +kernel
theorem dX9_init_168 : decode cX9_init 168 = .ok (.sipush 160, 3) := by decide +kernel
theorem dX9_init_171 : decode cX9_init 171 = .ok (.newarray .int, 2) := by decide +kernel
theorem dX9_init_173 : decode cX9_init 173 = .ok (.putfield 71, 3) := by decide +kernel
theorem dX9_init_176 : decode cX9_init 176 = .ok (.aload_n 0, 1) := by decide +kernel
theorem dX9_init_177 : decode cX9_init 177 = .ok (.sipush 160, 3) := by decide +kernel
theorem dX9_init_180 : decode cX9_init 180 = .ok (.newarray .int, 2) := by decide +kernel
theorem dX9_init_182 : decode cX9_init 182 = .ok (.putfield 74, 3) := by decide +kernel
theorem dX9_init_185 : decode cX9_init 185 = .ok (.aload_n 0, 1) := by decide +kernel
theorem dX9_init_186 : decode cX9_init 186 = .ok (.sipush 160, 3) := by decide +kernel
theorem dX9_init_189 : decode cX9_init 189 = .ok (.newarray .int, 2) := by decide +kernel
theorem dX9_init_191 : decode cX9_init 191 = .ok (.putfield 77, 3) := by decide +kernel
theorem dX9_init_194 : decode cX9_init 194 = .ok (.aload_n 0, 1) := by decide +kernel
theorem dX9_init_195 : decode cX9_init 195 = .ok (.sipush 160, 3) := by decide +kernel
theorem dX9_init_198 : decode cX9_init 198 = .ok (.newarray .int, 2) := by decide +kernel
theorem dX9_init_200 : decode cX9_init 200 = .ok (.putfield 80, 3) := by decide +kernel
theorem dX9_init_203 : decode cX9_init 203 = .ok (.aload_n 0, 1) := by decide +kernel
theorem dX9_init_204 : decode cX9_init 204 = .ok (.sipush 160, 3) := by decide +kernel
theorem dX9_init_207 : decode cX9_init 207 = .ok (.newarray .boolean, 2) := by decide +kernel
theorem dX9_init_209 : decode cX9_init 209 = .ok (.putfield 83, 3) := by decide +kernel
theorem dX9_init_212 : decode cX9_init 212 = .ok (.aload_n 0, 1) := by decide +kernel
theorem dX9_init_213 : decode cX9_init 213 = .ok (.sipush 160, 3) := by decide +kernel
theorem dX9_init_216 : decode cX9_init 216 = .ok (.newarray .int, 2) := by decide +kernel
theorem dX9_init_218 : decode cX9_init 218 = .ok (.putfield 86, 3) := by decide +kernel
theorem dX9_init_221 : decode cX9_init 221 = .ok (.aload_n 0, 1) := by decide +kernel
theorem dX9_init_222 : decode cX9_init 222 = .ok (.sipush 160, 3) := by decide +kernel
theorem dX9_init_225 : decode cX9_init 225 = .ok (.newarray .int, 2) := by decide +kernel
theorem dX9_init_227 : decode cX9_init 227 = .ok (.putfield 89, 3) := by decide +kernel
theorem dX9_init_230 : decode cX9_init 230 = .ok (.aload_n 0, 1) := by decide +kernel
theorem dX9_init_231 : decode cX9_init 231 = .ok (.sipush 160, 3) := by decide +kernel
theorem dX9_init_234 : decode cX9_init 234 = .ok (.newarray .int, 2) := by decide +kernel
theorem dX9_init_236 : decode cX9_init 236 = .ok (.putfield 92, 3) := by decide +kernel
theorem dX9_init_239 : decode cX9_init 239 = .ok (.aload_n 0, 1) := by decide +kernel
theorem dX9_init_240 : decode cX9_init 240 = .ok (.sipush 160, 3) := by decide +kernel
theorem dX9_init_243 : decode cX9_init 243 = .ok (.newarray .boolean, 2) := by decide +kernel
theorem dX9_init_245 : decode cX9_init 245 = .ok (.putfield 95, 3) := by decide +kernel
theorem dX9_init_248 : decode cX9_init 248 = .ok (.aload_n 0, 1) := by decide +kernel
theorem dX9_init_249 : decode cX9_init 249 = .ok (.sipush 160, 3) := by decide +kernel
theorem dX9_init_252 : decode cX9_init 252 = .ok (.newarray .int, 2) := by decide +kernel
theorem dX9_init_254 : decode cX9_init 254 = .ok (.putfield 98, 3) := by decide +kernel
theorem dX9_init_257 : decode cX9_init 257 = .ok (.aload_n 0, 1) := by decide +kernel
theorem dX9_init_258 : decode cX9_init 258 = .ok (.sipush 160, 3) := by decide +kernel
theorem dX9_init_261 : decode cX9_init 261 = .ok (.newarray .int, 2) := by decide +kernel
theorem dX9_init_263 : decode cX9_init 263 = .ok (.putfield 101, 3) := by decide +kernel
theorem dX9_init_266 : decode cX9_init 266 = .ok (.aload_n 0, 1) := by decide +kernel
theorem dX9_init_267 : decode cX9_init 267 = .ok (.sipush 160, 3) := by decide +kernel
theorem dX9_init_270 : decode cX9_init 270 = .ok (.newarray .int, 2) := by decide +kernel
theorem dX9_init_272 : decode cX9_init 272 = .ok (.putfield 104, 3) := by decide +kernel
theorem dX9_init_275 : decode cX9_init 275 = .ok (.aload_n 0, 1) := by decide +kernel
theorem dX9_init_276 : decode cX9_init 276 = .ok (.sipush 160, 3) := by decide +kernel
theorem dX9_init_279 : decode cX9_init 279 = .ok (.newarray .boolean, 2) := by decide +kernel
theorem dX9_init_281 : decode cX9_init 281 = .ok (.putfield 107, 3) := by decide +kernel
theorem dX9_init_284 : decode cX9_init 284 = .ok (.aload_n 0, 1) := by decide +kernel
theorem dX9_init_285 : decode cX9_init 285 = .ok (.sipush 160, 3) := by decide +kernel
theorem dX9_init_288 : decode cX9_init 288 = .ok (.newarray .boolean, 2) := by decide +kernel
theorem dX9_init_290 : decode cX9_init 290 = .ok (.putfield 110, 3) := by decide +kernel
theorem dX9_init_293 : decode cX9_init 293 = .ok (.aload_n 0, 1) := by decide +kernel
theorem dX9_init_294 : decode cX9_init 294 = .ok (.ldc 113, 2) := by decide +kernel
theorem dX9_init_296 : decode cX9_init 296 = .ok (.newarray .boolean, 2) := by decide +kernel
theorem dX9_init_298 : decode cX9_init 298 = .ok (.putfield 114, 3) := by decide +kernel
theorem dX9_init_301 : decode cX9_init 301 = .ok (.aload_n 0, 1) := by decide +kernel
theorem dX9_init_302 : decode cX9_init 302 = .ok (.bipush 40, 2) := by decide +kernel
theorem dX9_init_304 : decode cX9_init 304 = .ok (.newarray .int, 2) := by decide +kernel
theorem dX9_init_306 : decode cX9_init 306 = .ok (.putfield 117, 3) := by decide +kernel
theorem dX9_init_309 : decode cX9_init 309 = .ok (.aload_n 0, 1) := by decide +kernel
theorem dX9_init_310 : decode cX9_init 310 = .ok (.bipush 40, 2) := by decide +kernel
theorem dX9_init_312 : decode cX9_init 312 = .ok (.newarray .int, 2) := by decide +kernel
theorem dX9_init_314 : decode cX9_init 314 = .ok (.putfield 120, 3) := by decide +kernel
theorem dX9_init_317 : decode cX9_init 317 = .ok (.aload_n 0, 1) := by decide +kernel
theorem dX9_init_318 : decode cX9_init 318 = .ok (.bipush 40, 2) := by decide +kernel
theorem dX9_init_320 : decode cX9_init 320 = .ok (.newarray .int, 2) := by decide +kernel
theorem dX9_init_322 : decode cX9_init 322 = .ok (.putfield 123, 3) := by decide +kernel
theorem dX9_init_325 : decode cX9_init 325 = .ok (.aload_n 0, 1) := by decide +kernel
theorem dX9_init_326 : decode cX9_init 326 = .ok (.bipush 8, 2) := by decide +kernel
theorem dX9_init_328 : decode cX9_init 328 = .ok (.newarray .int, 2) := by decide +kernel
theorem dX9_init_330 : decode cX9_init 330 = .ok (.putfield 126, 3) := by decide +kernel
theorem dX9_init_333 : decode cX9_init 333 = .ok (.aload_n 0, 1) := by decide +kernel
theorem dX9_init_334 : decode cX9_init 334 = .ok (.bipush 112, 2) := by decide +kernel
theorem dX9_init_336 : decode cX9_init 336 = .ok (.newarray .boolean, 2) := by decide +kernel
theorem dX9_init_338 : decode cX9_init 338 = .ok (.putfield 129, 3) := by decide +kernel
theorem dX9_init_341 : decode cX9_init 341 = .ok (.aload_n 0, 1) := by decide +kernel
theorem dX9_init_342 : decode cX9_init 342 = .ok (.bipush 64, 2) := by decide +kernel
theorem dX9_init_344 : decode cX9_init 344 = .ok (.newarray .int, 2) := by decide +kernel
theorem dX9_init_346 : decode cX9_init 346 = .ok (.putfield 132, 3) := by decide +kernel
theorem dX9_init_349 : decode cX9_init 349 = .ok (.aload_n 0, 1) := by decide +kernel
theorem dX9_init_350 : decode cX9_init 350 = .ok (.bipush 12, 2) := by decide +kernel
theorem dX9_init_352 : decode cX9_init 352 = .ok (.newarray .int, 2) := by decide +kernel
theorem dX9_init_354 : decode cX9_init 354 = .ok (.putfield 135, 3) := by decide +kernel
theorem dX9_init_357 : decode cX9_init 357 = .ok (.aload_n 0, 1) := by decide +kernel
theorem dX9_init_358 : decode cX9_init 358 = .ok (.bipush 12, 2) := by decide +kernel
theorem dX9_init_360 : decode cX9_init 360 = .ok (.newarray .boolean, 2) := by decide +kernel
theorem dX9_init_362 : decode cX9_init 362 = .ok (.putfield 138, 3) := by decide +kernel
theorem dX9_init_365 : decode cX9_init 365 = .ok (.aload_n 0, 1) := by decide +kernel
theorem dX9_init_366 : decode cX9_init 366 = .ok (.bipush 24, 2) := by decide +kernel
theorem dX9_init_368 : decode cX9_init 368 = .ok (.newarray .int, 2) := by decide +kernel
theorem dX9_init_370 : decode cX9_init 370 = .ok (.putfield 141, 3) := by decide +kernel
theorem dX9_init_373 : decode cX9_init 373 = .ok (.aload_n 0, 1) := by decide +kernel
theorem dX9_init_374 : decode cX9_init 374 = .ok (.getfield 13, 3) := by decide +kernel
theorem dX9_init_377 : decode cX9_init 377 = .ok (.iconst 0, 1) := by decide +kernel
theorem dX9_init_378 : decode cX9_init 378 = .ok (.bipush 21, 2) := by decide +kernel
theorem dX9_init_380 : decode cX9_init 380 = .ok (.iastore, 1) := by decide +kernel
theorem dX9_init_381 : decode cX9_init 381 = .ok (.aload_n 0, 1) := by decide +kernel
theorem dX9_init_382 : decode cX9_init 382 = .ok (.getfield 13, 3) := by decide +kernel
theorem dX9_init_385 : decode cX9_init 385 = .ok (.iconst 1, 1) := by decide +kernel
theorem dX9_init_386 : decode cX9_init 386 = .ok (.bipush 14, 2) := by decide +kernel
theorem dX9_init_388 : decode cX9_init 388 = .ok (.iastore, 1) := by decide +kernel
theorem dX9_init_389 : decode cX9_init 389 = .ok (.aload_n 0, 1) := by decide +kernel
theorem dX9_init_390 : decode cX9_init 390 = .ok (.getfield 13, 3) := by decide +kernel
theorem dX9_init_393 : decode cX9_init 393 = .ok (.iconst 2, 1) := by decide +kernel
theorem dX9_init_394 : decode cX9_init 394 = .ok (.bipush 30, 2) := by decide +kernel
theorem dX9_init_396 : decode cX9_init 396 = .ok (.iastore, 1) := by decide +kernel
theorem dX9_init_397 : decode cX9_init 397 = .ok (.aload_n 0, 1) := by decide +kernel
theorem dX9_init_398 : decode cX9_init 398 = .ok (.getfield 13, 3) := by decide +kernel
theorem dX9_init_401 : decode cX9_init 401 = .ok (.iconst 3, 1) := by decide +kernel
theorem dX9_init_402 : decode cX9_init 402 = .ok (.bipush 14, 2) := by decide +kernel
theorem dX9_init_404 : decode cX9_init 404 = .ok (.iastore, 1) := by decide +kernel
theorem dX9_init_405 : decode cX9_init 405 = .ok (.aload_n 0, 1) := by decide +kernel
theorem dX9_init_406 : decode cX9_init 406 = .ok (.getfield 13, 3) := by decide +kernel
theorem dX9_init_409 : decode cX9_init 409 = .ok (.iconst 4, 1) := by decide +kernel
theorem dX9_init_410 : decode cX9_init 410 = .ok (.iconst 5, 1) := by decide +kernel
theorem dX9_init_411 : decode cX9_init 411 = .ok (.iastore, 1) := by decide +kernel
theorem dX9_init_412 : decode cX9_init 412 = .ok (.aload_n 0, 1) := by decide +kernel
theorem dX9_init_413 : decode cX9_init 413 = .ok (.getfield 17, 3) := by decide +kernel
theorem dX9_init_416 : decode cX9_init 416 = .ok (.iconst 4, 1) := by decide +kernel
theorem dX9_init_417 : decode cX9_init 417 = .ok (.iconst 1, 1) := by decide +kernel
theorem dX9_init_418 : decode cX9_init 418 = .ok (.bastore, 1) := by decide +kernel
theorem dX9_init_419 : decode cX9_init 419 = .ok (.iconst 0, 1) := by decide +kernel
theorem dX9_init_420 : decode cX9_init 420 = .ok (.istore_n 1, 1) := by decide +kernel
theorem dX9_init_421 : decode cX9_init 421 = .ok (.iload_n 1, 1) := by decide +kernel
theorem dX9_init_422 : decode cX9_init 422 = .ok (.sipush 128, 3) := by decide +kernel
theorem dX9_init_425 : decode cX9_init 425 = .ok (.if_icmp .ge 16, 3) := by decide +kernel
theorem dX9_init_428 : decode cX9_init 428 = .ok (.aload_n 0, 1) := by decide +kernel
theorem dX9_init_429 : decode cX9_init 429 = .ok (.getfield 26, 3) := by decide +kernel
theorem dX9_init_432 : decode cX9_init 432 = .ok (.iload_n 1, 1) := by decide +kernel
theorem dX9_init_433 : decode cX9_init 433 = .ok (.iconst (-1), 1) := by decide +kernel
theorem dX9_init_434 : decode cX9_init 434 = .ok (.iastore, 1) := by decide +kernel
theorem dX9_init_435 : decode cX9_init 435 = .ok (.iinc 1 1, 3) := by decide +kernel
theorem dX9_init_438 : decode cX9_init 438 = .ok (.goto (-17), 3) := by decide +kernel
theorem dX9_init_441 : decode cX9_init 441 = .ok (.iconst 0, 1) := by decide +kernel
theorem dX9_init_442 : decode cX9_init 442 = .ok (.istore_n 1, 1) := by decide +kernel
theorem dX9_init_443 : decode cX9_init 443 = .ok (.iload_n 1, 1) := by decide +kernel
theorem dX9_init_444 : decode cX9_init 444 = .ok (.bipush 64, 2) := by decide +kernel
theorem dX9_init_446 : decode cX9_init 446 = .ok (.if_icmp .ge 16, 3) := by decide +kernel
theorem dX9_init_449 : decode cX9_init 449 = .ok (.aload_n 0, 1) := by decide +kernel
theorem dX9_init_450 : decode cX9_init 450 = .ok (.getfield 132, 3) := by decide +kernel
theorem dX9_init_453 : decode cX9_init 453 = .ok (.iload_n 1, 1) := by decide +kernel
theorem dX9_init_454 : decode cX9_init 454 = .ok (.iconst (-1), 1) := by decide +kernel
theorem dX9_init_455 : decode cX9_init 455 = .ok (.iastore, 1) := by decide +kernel
theorem dX9_init_456 : decode cX9_init 456 = .ok (.iinc 1 1, 3) := by decide +kernel
theorem dX9_init_459 : decode cX9_init 459 = .ok (.goto (-16), 3) := by decide +kernel
theorem dX9_init_462 : decode cX9_init 462 = .ok (.return_, 1) := by decide +kernel
theorem dX9_thrown_0 : decode cX9_thrown 0 = .ok (.aload_n 0, 1) := by decide +kernel
theorem dX9_thrown_1 : decode cX9_thrown 1 = .ok (.getfield 144, 3) := by decide +kernel
theorem dX9_thrown_4 : decode cX9_thrown 4 = .ok (.ireturn, 1) := by decide +kernel
theorem dX9_refused_0 : decode cX9_refused 0 = .ok (.aload_n 0, 1) := by decide +kernel
theorem dX9_refused_1 : decode cX9_refused 1 = .ok (.iload_n 1, 1) := by decide +kernel
theorem dX9_refused_2 : decode cX9_refused 2 = .ok (.putfield 144, 3) := by decide +kernel
theorem dX9_refused_5 : decode cX9_refused 5 = .ok (.iload_n 1, 1) := by decide +kernel
theorem dX9_refused_6 : decode cX9_refused 6 = .ok (.ifCond .eq 7, 3) := by decide +kernel
theorem dX9_refused_9 : decode cX9_refused 9 = .ok (.iconst 1, 1) := by decide +kernel
theorem dX9_refused_10 : decode cX9_refused 10 = .ok (.goto 4, 3) := by decide +kernel
theorem dX9_refused_13 : decode cX9_refused 13 = .ok (.iconst 0, 1) := by decide +kernel
theorem dX9_refused_14 : decode cX9_refused 14 = .ok (.ireturn, 1) := by decide +kernel
theorem dX9_within_0 : decode cX9_within 0 = .ok (.iload_n 0, 1) := by decide +kernel
theorem dX9_within_1 : decode cX9_within 1 = .ok (.iload_n 1, 1) := by decide +kernel
theorem dX9_within_2 : decode cX9_within 2 = .ok (.if_icmp .lt 12, 3) := by decide +kernel
theorem dX9_within_5 : decode cX9_within 5 = .ok (.iload_n 0, 1) := by decide +kernel
theorem dX9_within_6 : decode cX9_within 6 = .ok (.iload_n 2, 1) := by decide +kernel
theorem dX9_within_7 : decode cX9_within 7 = .ok (.if_icmp .gt 7, 3) := by decide +kernel
theorem dX9_within_10 : decode cX9_within 10 = .ok (.iconst 1, 1) := by decide +kernel
theorem dX9_within_11 : decode cX9_within 11 = .ok (.goto 4, 3) := by decide +kernel
theorem dX9_within_14 : decode cX9_within 14 = .ok (.iconst 0, 1) := by decide +kernel
theorem dX9_within_15 : decode cX9_within 15 = .ok (.ireturn, 1) := by decide +kernel
theorem dX9_isFree_0 : decode cX9_isFree 0 = .ok (.iload_n 1, 1) := by decide +kernel
theorem dX9_isFree_1 : decode cX9_isFree 1 = .ok (.bipush 7, 2) := by decide +kernel
theorem dX9_isFree_3 : decode cX9_isFree 3 = .ok (.irem, 1) := by decide +kernel
theorem dX9_isFree_4 : decode cX9_isFree 4 = .ok (.iconst 5, 1) := by decide +kernel
theorem dX9_isFree_5 : decode cX9_isFree 5 = .ok (.if_icmp .ge 19, 3) := by decide +kernel
theorem dX9_isFree_8 : decode cX9_isFree 8 = .ok (.iload_n 1, 1) := by decide +kernel
theorem dX9_isFree_9 : decode cX9_isFree 9 = .ok (.sipush 1000, 3) := by decide +kernel
theorem dX9_isFree_12 : decode cX9_isFree 12 = .ok (.if_icmp .gt 16, 3) := by decide +kernel
theorem dX9_isFree_15 : decode cX9_isFree 15 = .ok (.aload_n 0, 1) := by decide +kernel
theorem dX9_isFree_16 : decode cX9_isFree 16 = .ok (.getfield 7, 3) := by decide +kernel
theorem dX9_isFree_19 : decode cX9_isFree 19 = .ok (.iload_n 1, 1) := by decide +kernel
theorem dX9_isFree_20 : decode cX9_isFree 20 = .ok (.baload, 1) := by decide +kernel
theorem dX9_isFree_21 : decode cX9_isFree 21 = .ok (.ifCond .eq 7, 3) := by decide +kernel
theorem dX9_isFree_24 : decode cX9_isFree 24 = .ok (.iconst 1, 1) := by decide +kernel
theorem dX9_isFree_25 : decode cX9_isFree 25 = .ok (.goto 4, 3) := by decide +kernel
theorem dX9_isFree_28 : decode cX9_isFree 28 = .ok (.iconst 0, 1) := by decide +kernel
theorem dX9_isFree_29 : decode cX9_isFree 29 = .ok (.ireturn, 1) := by decide +kernel
theorem dX9_pass_0 : decode cX9_pass 0 = .ok (.aload_n 0, 1) := by decide +kernel
theorem dX9_pass_1 : decode cX9_pass 1 = .ok (.iload_n 1, 1) := by decide +kernel
theorem dX9_pass_2 : decode cX9_pass 2 = .ok (.iconst 1, 1) := by decide +kernel
theorem dX9_pass_3 : decode cX9_pass 3 = .ok (.bipush 60, 2) := by decide +kernel
theorem dX9_pass_5 : decode cX9_pass 5 = .ok (.invokestatic 148, 3) := by decide +kernel
theorem dX9_pass_8 : decode cX9_pass 8 = .ok (.ifCond .ne 7, 3) := by decide +kernel
theorem dX9_pass_11 : decode cX9_pass 11 = .ok (.iconst 1, 1) := by decide +kernel
theorem dX9_pass_12 : decode cX9_pass 12 = .ok (.goto 20, 3) := by decide +kernel
theorem dX9_pass_15 : decode cX9_pass 15 = .ok (.aload_n 0, 1) := by decide +kernel
theorem dX9_pass_16 : decode cX9_pass 16 = .ok (.getfield 152, 3) := by decide +kernel
theorem dX9_pass_19 : decode cX9_pass 19 = .ok (.iload_n 1, 1) := by decide +kernel
theorem dX9_pass_20 : decode cX9_pass 20 = .ok (.iadd, 1) := by decide +kernel
theorem dX9_pass_21 : decode cX9_pass 21 = .ok (.sipush 900, 3) := by decide +kernel
theorem dX9_pass_24 : decode cX9_pass 24 = .ok (.if_icmp .le 7, 3) := by decide +kernel
theorem dX9_pass_27 : decode cX9_pass 27 = .ok (.iconst 2, 1) := by decide +kernel
theorem dX9_pass_28 : decode cX9_pass 28 = .ok (.goto 4, 3) := by decide +kernel
theorem dX9_pass_31 : decode cX9_pass 31 = .ok (.iconst 0, 1) := by decide +kernel
theorem dX9_pass_32 : decode cX9_pass 32 = .ok (.invokevirtual 155, 3) := by decide +kernel
theorem dX9_pass_35 : decode cX9_pass 35 = .ok (.ifCond .eq 5, 3) := by decide +kernel
theorem dX9_pass_38 : decode cX9_pass 38 = .ok (.iconst 0, 1) := by decide +kernel
theorem dX9_pass_39 : decode cX9_pass 39 = .ok (.ireturn, 1) := by decide +kernel
theorem dX9_pass_40 : decode cX9_pass 40 = .ok (.aload_n 0, 1) := by decide +kernel
theorem dX9_pass_41 : decode cX9_pass 41 = .ok (.dup, 1) := by decide +kernel
theorem dX9_pass_42 : decode cX9_pass 42 = .ok (.getfield 152, 3) := by decide +kernel
theorem dX9_pass_45 : decode cX9_pass 45 = .ok (.iload_n 1, 1) := by decide +kernel
theorem dX9_pass_46 : decode cX9_pass 46 = .ok (.iadd, 1) := by decide +kernel
theorem dX9_pass_47 : decode cX9_pass 47 = .ok (.putfield 152, 3) := by decide +kernel
theorem dX9_pass_50 : decode cX9_pass 50 = .ok (.aload_n 0, 1) := by decide +kernel
theorem dX9_pass_51 : decode cX9_pass 51 = .ok (.getfield 152, 3) := by decide +kernel
theorem dX9_pass_54 : decode cX9_pass 54 = .ok (.ireturn, 1) := by decide +kernel
theorem dX9_holiday_0 : decode cX9_holiday 0 = .ok (.iload_n 1, 1) := by decide +kernel
theorem dX9_holiday_1 : decode cX9_holiday 1 = .ok (.iconst 0, 1) := by decide +kernel
theorem dX9_holiday_2 : decode cX9_holiday 2 = .ok (.sipush 1000, 3) := by decide +kernel
theorem dX9_holiday_5 : decode cX9_holiday 5 = .ok (.invokestatic 148, 3) := by decide +kernel
theorem dX9_holiday_8 : decode cX9_holiday 8 = .ok (.istore_n 2, 1) := by decide +kernel
theorem dX9_holiday_9 : decode cX9_holiday 9 = .ok (.aload_n 0, 1) := by decide +kernel
theorem dX9_holiday_10 : decode cX9_holiday 10 = .ok (.iload_n 2, 1) := by decide +kernel
theorem dX9_holiday_11 : decode cX9_holiday 11 = .ok (.ifCond .ne 7, 3) := by decide +kernel
theorem dX9_holiday_14 : decode cX9_holiday 14 = .ok (.iconst 1, 1) := by decide +kernel
theorem dX9_holiday_15 : decode cX9_holiday 15 = .ok (.goto 34, 3) := by decide +kernel
theorem dX9_holiday_18 : decode cX9_holiday 18 = .ok (.iload_n 1, 1) := by decide +kernel
theorem dX9_holiday_19 : decode cX9_holiday 19 = .ok (.aload_n 0, 1) := by decide +kernel
theorem dX9_holiday_20 : decode cX9_holiday 20 = .ok (.getfield 152, 3) := by decide +kernel
theorem dX9_holiday_23 : decode cX9_holiday 23 = .ok (.if_icmp .le 21, 3) := by decide +kernel
theorem dX9_holiday_26 : decode cX9_holiday 26 = .ok (.aload_n 0, 1) := by decide +kernel
theorem dX9_holiday_27 : decode cX9_holiday 27 = .ok (.getfield 7, 3) := by decide +kernel
theorem dX9_holiday_30 : decode cX9_holiday 30 = .ok (.iload_n 1, 1) := by decide +kernel
theorem dX9_holiday_31 : decode cX9_holiday 31 = .ok (.baload, 1) := by decide +kernel
theorem dX9_holiday_32 : decode cX9_holiday 32 = .ok (.ifCond .ne 12, 3) := by decide +kernel
theorem dX9_holiday_35 : decode cX9_holiday 35 = .ok (.aload_n 0, 1) := by decide +kernel
theorem dX9_holiday_36 : decode cX9_holiday 36 = .ok (.getfield 159, 3) := by decide +kernel
theorem dX9_holiday_39 : decode cX9_holiday 39 = .ok (.bipush 30, 2) := by decide +kernel
theorem dX9_holiday_41 : decode cX9_holiday 41 = .ok (.if_icmp .ne 7, 3) := by decide +kernel
theorem dX9_holiday_44 : decode cX9_holiday 44 = .ok (.iconst 2, 1) := by decide +kernel
theorem dX9_holiday_45 : decode cX9_holiday 45 = .ok (.goto 4, 3) := by decide +kernel
theorem dX9_holiday_48 : decode cX9_holiday 48 = .ok (.iconst 0, 1) := by decide +kernel
theorem dX9_holiday_49 : decode cX9_holiday 49 = .ok (.invokevirtual 155, 3) := by decide +kernel
theorem dX9_holiday_52 : decode cX9_holiday 52 = .ok (.ifCond .eq 5, 3) := by decide +kernel
theorem dX9_holiday_55 : decode cX9_holiday 55 = .ok (.iconst 0, 1) := by decide +kernel
theorem dX9_holiday_56 : decode cX9_holiday 56 = .ok (.ireturn, 1) := by decide +kernel
theorem dX9_holiday_57 : decode cX9_holiday 57 = .ok (.aload_n 0, 1) := by decide +kernel
theorem dX9_holiday_58 : decode cX9_holiday 58 = .ok (.iload_n 1, 1) := by decide +kernel
theorem dX9_holiday_59 : decode cX9_holiday 59 = .ok (.invokevirtual 162, 3) := by decide +kernel
theorem dX9_holiday_62 : decode cX9_holiday 62 = .ok (.istore_n 3, 1) := by decide +kernel
theorem dX9_holiday_63 : decode cX9_holiday 63 = .ok (.aload_n 0, 1) := by decide +kernel
theorem dX9_holiday_64 : decode cX9_holiday 64 = .ok (.getfield 7, 3) := by decide +kernel
theorem dX9_holiday_67 : decode cX9_holiday 67 = .ok (.iload_n 1, 1) := by decide +kernel
theorem dX9_holiday_68 : decode cX9_holiday 68 = .ok (.iconst 1, 1) := by decide +kernel
theorem dX9_holiday_69 : decode cX9_holiday 69 = .ok (.bastore, 1) := by decide +kernel
theorem dX9_holiday_70 : decode cX9_holiday 70 = .ok (.aload_n 0, 1) := by decide +kernel
theorem dX9_holiday_71 : decode cX9_holiday 71 = .ok (.dup, 1) := by decide +kernel
theorem dX9_holiday_72 : decode cX9_holiday 72 = .ok (.getfield 159, 3) := by decide +kernel
theorem dX9_holiday_75 : decode cX9_holiday 75 = .ok (.iconst 1, 1) := by decide +kernel
theorem dX9_holiday_76 : decode cX9_holiday 76 = .ok (.iadd, 1) := by decide +kernel
theorem dX9_holiday_77 : decode cX9_holiday 77 = .ok (.putfield 159, 3) := by decide +kernel
theorem dX9_holiday_80 : decode cX9_holiday 80 = .ok (.iload_n 3, 1) := by decide +kernel
theorem dX9_holiday_81 : decode cX9_holiday 81 = .ok (.ifCond .ne 7, 3) := by decide +kernel
theorem dX9_holiday_84 : decode cX9_holiday 84 = .ok (.iconst 1, 1) := by decide +kernel
theorem dX9_holiday_85 : decode cX9_holiday 85 = .ok (.goto 4, 3) := by decide +kernel
theorem dX9_holiday_88 : decode cX9_holiday 88 = .ok (.iconst 0, 1) := by decide +kernel
theorem dX9_holiday_89 : decode cX9_holiday 89 = .ok (.ireturn, 1) := by decide +kernel
theorem dX9_setRule_0 : decode cX9_setRule 0 = .ok (.aload_n 0, 1) := by decide +kernel
theorem dX9_setRule_1 : decode cX9_setRule 1 = .ok (.iload_n 1, 1) := by decide +kernel
theorem dX9_setRule_2 : decode cX9_setRule 2 = .ok (.iconst 0, 1) := by decide +kernel
theorem dX9_setRule_3 : decode cX9_setRule 3 = .ok (.iconst 4, 1) := by decide +kernel
theorem dX9_setRule_4 : decode cX9_setRule 4 = .ok (.invokestatic 148, 3) := by decide +kernel
theorem dX9_setRule_7 : decode cX9_setRule 7 = .ok (.ifCond .ne 7, 3) := by decide +kernel
theorem dX9_setRule_10 : decode cX9_setRule 10 = .ok (.iconst 1, 1) := by decide +kernel
theorem dX9_setRule_11 : decode cX9_setRule 11 = .ok (.goto 18, 3) := by decide +kernel
theorem dX9_setRule_14 : decode cX9_setRule 14 = .ok (.iload_n 2, 1) := by decide +kernel
theorem dX9_setRule_15 : decode cX9_setRule 15 = .ok (.iconst 1, 1) := by decide +kernel
theorem dX9_setRule_16 : decode cX9_setRule 16 = .ok (.bipush 60, 2) := by decide +kernel
theorem dX9_setRule_18 : decode cX9_setRule 18 = .ok (.invokestatic 148, 3) := by decide +kernel
theorem dX9_setRule_21 : decode cX9_setRule 21 = .ok (.ifCond .ne 7, 3) := by decide +kernel
theorem dX9_setRule_24 : decode cX9_setRule 24 = .ok (.iconst 2, 1) := by decide +kernel
theorem dX9_setRule_25 : decode cX9_setRule 25 = .ok (.goto 4, 3) := by decide +kernel
theorem dX9_setRule_28 : decode cX9_setRule 28 = .ok (.iconst 0, 1) := by decide +kernel
theorem dX9_setRule_29 : decode cX9_setRule 29 = .ok (.invokevirtual 155, 3) := by decide +kernel
theorem dX9_setRule_32 : decode cX9_setRule 32 = .ok (.ifCond .eq 5, 3) := by decide +kernel
theorem dX9_setRule_35 : decode cX9_setRule 35 = .ok (.iconst 0, 1) := by decide +kernel
theorem dX9_setRule_36 : decode cX9_setRule 36 = .ok (.ireturn, 1) := by decide +kernel
theorem dX9_setRule_37 : decode cX9_setRule 37 = .ok (.aload_n 0, 1) := by decide +kernel
theorem dX9_setRule_38 : decode cX9_setRule 38 = .ok (.getfield 13, 3) := by decide +kernel
theorem dX9_setRule_41 : decode cX9_setRule 41 = .ok (.iload_n 1, 1) := by decide +kernel
theorem dX9_setRule_42 : decode cX9_setRule 42 = .ok (.iaload, 1) := by decide +kernel
theorem dX9_setRule_43 : decode cX9_setRule 43 = .ok (.istore 4, 2) := by decide +kernel
theorem dX9_setRule_45 : decode cX9_setRule 45 = .ok (.aload_n 0, 1) := by decide +kernel
theorem dX9_setRule_46 : decode cX9_setRule 46 = .ok (.getfield 13, 3) := by decide +kernel
theorem dX9_setRule_49 : decode cX9_setRule 49 = .ok (.iload_n 1, 1) := by decide +kernel
theorem dX9_setRule_50 : decode cX9_setRule 50 = .ok (.iload_n 2, 1) := by decide +kernel
theorem dX9_setRule_51 : decode cX9_setRule 51 = .ok (.iastore, 1) := by decide +kernel
theorem dX9_setRule_52 : decode cX9_setRule 52 = .ok (.aload_n 0, 1) := by decide +kernel
theorem dX9_setRule_53 : decode cX9_setRule 53 = .ok (.getfield 17, 3) := by decide +kernel
theorem dX9_setRule_56 : decode cX9_setRule 56 = .ok (.iload_n 1, 1) := by decide +kernel
theorem dX9_setRule_57 : decode cX9_setRule 57 = .ok (.iload_n 3, 1) := by decide +kernel
theorem dX9_setRule_58 : decode cX9_setRule 58 = .ok (.bastore, 1) := by decide +kernel
theorem dX9_setRule_59 : decode cX9_setRule 59 = .ok (.iload 4, 2) := by decide +kernel
theorem dX9_setRule_61 : decode cX9_setRule 61 = .ok (.ireturn, 1) := by decide +kernel
theorem dX9_isCase_0 : decode cX9_isCase 0 = .ok (.iload_n 1, 1) := by decide +kernel
theorem dX9_isCase_1 : decode cX9_isCase 1 = .ok (.iconst 0, 1) := by decide +kernel
theorem dX9_isCase_2 : decode cX9_isCase 2 = .ok (.aload_n 0, 1) := by decide +kernel
theorem dX9_isCase_3 : decode cX9_isCase 3 = .ok (.getfield 165, 3) := by decide +kernel
theorem dX9_isCase_6 : decode cX9_isCase 6 = .ok (.iconst 1, 1) := by decide +kernel
theorem dX9_isCase_7 : decode cX9_isCase 7 = .ok (.isub, 1) := by decide +kernel
theorem dX9_isCase_8 : decode cX9_isCase 8 = .ok (.invokestatic 148, 3) := by decide +kernel
theorem dX9_isCase_11 : decode cX9_isCase 11 = .ok (.ireturn, 1) := by decide +kernel
theorem dX9_isPerson_0 : decode cX9_isPerson 0 = .ok (.iload_n 0, 1) := by decide +kernel
theorem dX9_isPerson_1 : decode cX9_isPerson 1 = .ok (.iconst 0, 1) := by decide +kernel
theorem dX9_isPerson_2 : decode cX9_isPerson 2 = .ok (.bipush 15, 2) := by decide +kernel
theorem dX9_isPerson_4 : decode cX9_isPerson 4 = .ok (.invokestatic 148, 3) := by decide +kernel
theorem dX9_isPerson_7 : decode cX9_isPerson 7 = .ok (.ireturn, 1) := by decide +kernel
theorem dX9_isClaim_0 : decode cX9_isClaim 0 = .ok (.iload_n 1, 1) := by decide +kernel
theorem dX9_isClaim_1 : decode cX9_isClaim 1 = .ok (.iconst 0, 1) := by decide +kernel
theorem dX9_isClaim_2 : decode cX9_isClaim 2 = .ok (.aload_n 0, 1) := by decide +kernel
theorem dX9_isClaim_3 : decode cX9_isClaim 3 = .ok (.getfield 168, 3) := by decide +kernel
theorem dX9_isClaim_6 : decode cX9_isClaim 6 = .ok (.iconst 1, 1) := by decide +kernel
theorem dX9_isClaim_7 : decode cX9_isClaim 7 = .ok (.isub, 1) := by decide +kernel
theorem dX9_isClaim_8 : decode cX9_isClaim 8 = .ok (.invokestatic 148, 3) := by decide +kernel
theorem dX9_isClaim_11 : decode cX9_isClaim 11 = .ok (.ireturn, 1) := by decide +kernel
theorem dX9_isEntry_0 : decode cX9_isEntry 0 = .ok (.iload_n 1, 1) := by decide +kernel
theorem dX9_isEntry_1 : decode cX9_isEntry 1 = .ok (.iconst 0, 1) := by decide +kernel
theorem dX9_isEntry_2 : decode cX9_isEntry 2 = .ok (.aload_n 0, 1) := by decide +kernel
theorem dX9_isEntry_3 : decode cX9_isEntry 3 = .ok (.getfield 171, 3) := by decide +kernel
theorem dX9_isEntry_6 : decode cX9_isEntry 6 = .ok (.iconst 1, 1) := by decide +kernel
theorem dX9_isEntry_7 : decode cX9_isEntry 7 = .ok (.isub, 1) := by decide +kernel
theorem dX9_isEntry_8 : decode cX9_isEntry 8 = .ok (.invokestatic 148, 3) := by decide +kernel
theorem dX9_isEntry_11 : decode cX9_isEntry 11 = .ok (.ireturn, 1) := by decide +kernel
theorem dX9_isMotion_0 : decode cX9_isMotion 0 = .ok (.aload_n 0, 1) := by decide +kernel
theorem dX9_isMotion_1 : decode cX9_isMotion 1 = .ok (.iload_n 1, 1) := by decide +kernel
theorem dX9_isMotion_2 : decode cX9_isMotion 2 = .ok (.invokevirtual 174, 3) := by decide +kernel
theorem dX9_isMotion_5 : decode cX9_isMotion 5 = .ok (.ifCond .eq 17, 3) := by decide +kernel
theorem dX9_isMotion_8 : decode cX9_isMotion 8 = .ok (.aload_n 0, 1) := by decide +kernel
theorem dX9_isMotion_9 : decode cX9_isMotion 9 = .ok (.getfield 65, 3) := by decide +kernel
theorem dX9_isMotion_12 : decode cX9_isMotion 12 = .ok (.iload_n 1, 1) := by decide +kernel
theorem dX9_isMotion_13 : decode cX9_isMotion 13 = .ok (.iaload, 1) := by decide +kernel
theorem dX9_isMotion_14 : decode cX9_isMotion 14 = .ok (.iconst 2, 1) := by decide +kernel
theorem dX9_isMotion_15 : decode cX9_isMotion 15 = .ok (.if_icmp .ne 7, 3) := by decide +kernel
theorem dX9_isMotion_18 : decode cX9_isMotion 18 = .ok (.iconst 1, 1) := by decide +kernel
theorem dX9_isMotion_19 : decode cX9_isMotion 19 = .ok (.goto 4, 3) := by decide +kernel
theorem dX9_isMotion_22 : decode cX9_isMotion 22 = .ok (.iconst 0, 1) := by decide +kernel
theorem dX9_isMotion_23 : decode cX9_isMotion 23 = .ok (.ireturn, 1) := by decide +kernel
theorem dX9_newCase_0 : decode cX9_newCase 0 = .ok (.aload_n 0, 1) := by decide +kernel
theorem dX9_newCase_1 : decode cX9_newCase 1 = .ok (.getfield 20, 3) := by decide +kernel
theorem dX9_newCase_4 : decode cX9_newCase 4 = .ok (.aload_n 0, 1) := by decide +kernel
theorem dX9_newCase_5 : decode cX9_newCase 5 = .ok (.getfield 165, 3) := by decide +kernel
theorem dX9_newCase_8 : decode cX9_newCase 8 = .ok (.iload_n 1, 1) := by decide +kernel
theorem dX9_newCase_9 : decode cX9_newCase 9 = .ok (.iastore, 1) := by decide +kernel
theorem dX9_newCase_10 : decode cX9_newCase 10 = .ok (.aload_n 0, 1) := by decide +kernel
theorem dX9_newCase_11 : decode cX9_newCase 11 = .ok (.getfield 23, 3) := by decide +kernel
theorem dX9_newCase_14 : decode cX9_newCase 14 = .ok (.aload_n 0, 1) := by decide +kernel
theorem dX9_newCase_15 : decode cX9_newCase 15 = .ok (.getfield 165, 3) := by decide +kernel
theorem dX9_newCase_18 : decode cX9_newCase 18 = .ok (.iconst (-1), 1) := by decide +kernel
theorem dX9_newCase_19 : decode cX9_newCase 19 = .ok (.iastore, 1) := by decide +kernel
theorem dX9_newCase_20 : decode cX9_newCase 20 = .ok (.aload_n 0, 1) := by decide +kernel
theorem dX9_newCase_21 : decode cX9_newCase 21 = .ok (.dup, 1) := by decide +kernel
theorem dX9_newCase_22 : decode cX9_newCase 22 = .ok (.getfield 165, 3) := by decide +kernel
theorem dX9_newCase_25 : decode cX9_newCase 25 = .ok (.iconst 1, 1) := by decide +kernel
theorem dX9_newCase_26 : decode cX9_newCase 26 = .ok (.iadd, 1) := by decide +kernel
theorem dX9_newCase_27 : decode cX9_newCase 27 = .ok (.putfield 165, 3) := by decide +kernel
theorem dX9_newCase_30 : decode cX9_newCase 30 = .ok (.aload_n 0, 1) := by decide +kernel
theorem dX9_newCase_31 : decode cX9_newCase 31 = .ok (.getfield 165, 3) := by decide +kernel
theorem dX9_newCase_34 : decode cX9_newCase 34 = .ok (.iconst 1, 1) := by decide +kernel
theorem dX9_newCase_35 : decode cX9_newCase 35 = .ok (.isub, 1) := by decide +kernel
theorem dX9_newCase_36 : decode cX9_newCase 36 = .ok (.ireturn, 1) := by decide +kernel
theorem dX9_open_0 : decode cX9_open 0 = .ok (.aload_n 0, 1) := by decide +kernel
theorem dX9_open_1 : decode cX9_open 1 = .ok (.iload_n 1, 1) := by decide +kernel
theorem dX9_open_2 : decode cX9_open 2 = .ok (.iconst 0, 1) := by decide +kernel
theorem dX9_open_3 : decode cX9_open 3 = .ok (.iconst 2, 1) := by decide +kernel
theorem dX9_open_4 : decode cX9_open 4 = .ok (.invokestatic 148, 3) := by decide +kernel
theorem dX9_open_7 : decode cX9_open 7 = .ok (.ifCond .ne 7, 3) := by decide +kernel
theorem dX9_open_10 : decode cX9_open 10 = .ok (.iconst 1, 1) := by decide +kernel
theorem dX9_open_11 : decode cX9_open 11 = .ok (.goto 17, 3) := by decide +kernel
theorem dX9_open_14 : decode cX9_open 14 = .ok (.aload_n 0, 1) := by decide +kernel
theorem dX9_open_15 : decode cX9_open 15 = .ok (.getfield 165, 3) := by decide +kernel
theorem dX9_open_18 : decode cX9_open 18 = .ok (.bipush 8, 2) := by decide +kernel
theorem dX9_open_20 : decode cX9_open 20 = .ok (.if_icmp .ne 7, 3) := by decide +kernel
theorem dX9_open_23 : decode cX9_open 23 = .ok (.iconst 2, 1) := by decide +kernel
theorem dX9_open_24 : decode cX9_open 24 = .ok (.goto 4, 3) := by decide +kernel
theorem dX9_open_27 : decode cX9_open 27 = .ok (.iconst 0, 1) := by decide +kernel
theorem dX9_open_28 : decode cX9_open 28 = .ok (.invokevirtual 155, 3) := by decide +kernel
theorem dX9_open_31 : decode cX9_open 31 = .ok (.ifCond .eq 7, 3) := by decide +kernel
theorem dX9_open_34 : decode cX9_open 34 = .ok (.iconst 0, 1) := by decide +kernel
theorem dX9_open_35 : decode cX9_open 35 = .ok (.goto 8, 3) := by decide +kernel
theorem dX9_open_38 : decode cX9_open 38 = .ok (.aload_n 0, 1) := by decide +kernel
theorem dX9_open_39 : decode cX9_open 39 = .ok (.iload_n 1, 1) := by decide +kernel
theorem dX9_open_40 : decode cX9_open 40 = .ok (.invokevirtual 177, 3) := by decide +kernel
theorem dX9_open_43 : decode cX9_open 43 = .ok (.ireturn, 1) := by decide +kernel
theorem dX9_isParty_0 : decode cX9_isParty 0 = .ok (.aload_n 0, 1) := by decide +kernel
theorem dX9_isParty_1 : decode cX9_isParty 1 = .ok (.getfield 26, 3) := by decide +kernel
theorem dX9_isParty_4 : decode cX9_isParty 4 = .ok (.bipush 16, 2) := by decide +kernel
theorem dX9_isParty_6 : decode cX9_isParty 6 = .ok (.iload_n 1, 1) := by decide +kernel
theorem dX9_isParty_7 : decode cX9_isParty 7 = .ok (.imul, 1) := by decide +kernel
theorem dX9_isParty_8 : decode cX9_isParty 8 = .ok (.iload_n 2, 1) := by decide +kernel
theorem dX9_isParty_9 : decode cX9_isParty 9 = .ok (.iadd, 1) := by decide +kernel
theorem dX9_isParty_10 : decode cX9_isParty 10 = .ok (.iaload, 1) := by decide +kernel
theorem dX9_isParty_11 : decode cX9_isParty 11 = .ok (.iconst (-1), 1) := by decide +kernel
theorem dX9_isParty_12 : decode cX9_isParty 12 = .ok (.if_icmp .eq 7, 3) := by decide +kernel
theorem dX9_isParty_15 : decode cX9_isParty 15 = .ok (.iconst 1, 1) := by decide +kernel
theorem dX9_isParty_16 : decode cX9_isParty 16 = .ok (.goto 4, 3) := by decide +kernel
theorem dX9_isParty_19 : decode cX9_isParty 19 = .ok (.iconst 0, 1) := by decide +kernel
theorem dX9_isParty_20 : decode cX9_isParty 20 = .ok (.ireturn, 1) := by decide +kernel
theorem dX9_join_0 : decode cX9_join 0 = .ok (.aload_n 0, 1) := by decide +kernel
theorem dX9_join_1 : decode cX9_join 1 = .ok (.iload_n 1, 1) := by decide +kernel
theorem dX9_join_2 : decode cX9_join 2 = .ok (.invokevirtual 181, 3) := by decide +kernel
theorem dX9_join_5 : decode cX9_join 5 = .ok (.ifCond .eq 23, 3) := by decide +kernel
theorem dX9_join_8 : decode cX9_join 8 = .ok (.iload_n 2, 1) := by decide +kernel
theorem dX9_join_9 : decode cX9_join 9 = .ok (.invokestatic 184, 3) := by decide +kernel
theorem dX9_join_12 : decode cX9_join 12 = .ok (.ifCond .eq 16, 3) := by decide +kernel
theorem dX9_join_15 : decode cX9_join 15 = .ok (.iload_n 3, 1) := by decide +kernel
theorem dX9_join_16 : decode cX9_join 16 = .ok (.iconst 0, 1) := by decide +kernel
theorem dX9_join_17 : decode cX9_join 17 = .ok (.iconst 1, 1) := by decide +kernel
theorem dX9_join_18 : decode cX9_join 18 = .ok (.invokestatic 148, 3) := by decide +kernel
theorem dX9_join_21 : decode cX9_join 21 = .ok (.ifCond .eq 7, 3) := by decide +kernel
theorem dX9_join_24 : decode cX9_join 24 = .ok (.iconst 1, 1) := by decide +kernel
theorem dX9_join_25 : decode cX9_join 25 = .ok (.goto 4, 3) := by decide +kernel
theorem dX9_join_28 : decode cX9_join 28 = .ok (.iconst 0, 1) := by decide +kernel
theorem dX9_join_29 : decode cX9_join 29 = .ok (.istore 4, 2) := by decide +kernel
theorem dX9_join_31 : decode cX9_join 31 = .ok (.aload_n 0, 1) := by decide +kernel
theorem dX9_join_32 : decode cX9_join 32 = .ok (.iload 4, 2) := by decide +kernel
theorem dX9_join_34 : decode cX9_join 34 = .ok (.ifCond .ne 7, 3) := by decide +kernel
theorem dX9_join_37 : decode cX9_join 37 = .ok (.iconst 1, 1) := by decide +kernel
theorem dX9_join_38 : decode cX9_join 38 = .ok (.goto 17, 3) := by decide +kernel
theorem dX9_join_41 : decode cX9_join 41 = .ok (.aload_n 0, 1) := by decide +kernel
theorem dX9_join_42 : decode cX9_join 42 = .ok (.iload_n 1, 1) := by decide +kernel
theorem dX9_join_43 : decode cX9_join 43 = .ok (.iload_n 2, 1) := by decide +kernel
theorem dX9_join_44 : decode cX9_join 44 = .ok (.invokevirtual 187, 3) := by decide +kernel
theorem dX9_join_47 : decode cX9_join 47 = .ok (.ifCond .eq 7, 3) := by decide +kernel
theorem dX9_join_50 : decode cX9_join 50 = .ok (.iconst 2, 1) := by decide +kernel
theorem dX9_join_51 : decode cX9_join 51 = .ok (.goto 4, 3) := by decide +kernel
theorem dX9_join_54 : decode cX9_join 54 = .ok (.iconst 0, 1) := by decide +kernel
theorem dX9_join_55 : decode cX9_join 55 = .ok (.invokevirtual 155, 3) := by decide +kernel
theorem dX9_join_58 : decode cX9_join 58 = .ok (.ifCond .eq 5, 3) := by decide +kernel
theorem dX9_join_61 : decode cX9_join 61 = .ok (.iconst 0, 1) := by decide +kernel
theorem dX9_join_62 : decode cX9_join 62 = .ok (.ireturn, 1) := by decide +kernel
theorem dX9_join_63 : decode cX9_join 63 = .ok (.aload_n 0, 1) := by decide +kernel
theorem dX9_join_64 : decode cX9_join 64 = .ok (.getfield 26, 3) := by decide +kernel
theorem dX9_join_67 : decode cX9_join 67 = .ok (.bipush 16, 2) := by decide +kernel
theorem dX9_join_69 : decode cX9_join 69 = .ok (.iload_n 1, 1) := by decide +kernel
theorem dX9_join_70 : decode cX9_join 70 = .ok (.imul, 1) := by decide +kernel
theorem dX9_join_71 : decode cX9_join 71 = .ok (.iload_n 2, 1) := by decide +kernel
theorem dX9_join_72 : decode cX9_join 72 = .ok (.iadd, 1) := by decide +kernel
theorem dX9_join_73 : decode cX9_join 73 = .ok (.iload_n 3, 1) := by decide +kernel
theorem dX9_join_74 : decode cX9_join 74 = .ok (.iastore, 1) := by decide +kernel
theorem dX9_join_75 : decode cX9_join 75 = .ok (.aload_n 0, 1) := by decide +kernel
theorem dX9_join_76 : decode cX9_join 76 = .ok (.getfield 29, 3) := by decide +kernel
theorem dX9_join_79 : decode cX9_join 79 = .ok (.bipush 16, 2) := by decide +kernel
theorem dX9_join_81 : decode cX9_join 81 = .ok (.iload_n 1, 1) := by decide +kernel
theorem dX9_join_82 : decode cX9_join 82 = .ok (.imul, 1) := by decide +kernel
theorem dX9_join_83 : decode cX9_join 83 = .ok (.iload_n 2, 1) := by decide +kernel
theorem dX9_join_84 : decode cX9_join 84 = .ok (.iadd, 1) := by decide +kernel
theorem dX9_join_85 : decode cX9_join 85 = .ok (.aload_n 0, 1) := by decide +kernel
theorem dX9_join_86 : decode cX9_join 86 = .ok (.getfield 152, 3) := by decide +kernel
theorem dX9_join_89 : decode cX9_join 89 = .ok (.iastore, 1) := by decide +kernel
theorem dX9_join_90 : decode cX9_join 90 = .ok (.iconst 0, 1) := by decide +kernel
theorem dX9_join_91 : decode cX9_join 91 = .ok (.istore 5, 2) := by decide +kernel
theorem dX9_join_93 : decode cX9_join 93 = .ok (.iconst 0, 1) := by decide +kernel
theorem dX9_join_94 : decode cX9_join 94 = .ok (.istore 6, 2) := by decide +kernel
theorem dX9_join_96 : decode cX9_join 96 = .ok (.iload 6, 2) := by decide +kernel
theorem dX9_join_98 : decode cX9_join 98 = .ok (.bipush 16, 2) := by decide +kernel
theorem dX9_join_100 : decode cX9_join 100 = .ok (.if_icmp .ge 29, 3) := by decide +kernel
theorem dX9_join_103 : decode cX9_join 103 = .ok (.iload 5, 2) := by decide +kernel
theorem dX9_join_105 : decode cX9_join 105 = .ok (.aload_n 0, 1) := by decide +kernel
theorem dX9_join_106 : decode cX9_join 106 = .ok (.iload_n 1, 1) := by decide +kernel
theorem dX9_join_107 : decode cX9_join 107 = .ok (.iload 6, 2) := by decide +kernel
theorem dX9_join_109 : decode cX9_join 109 = .ok (.invokevirtual 187, 3) := by decide +kernel
theorem dX9_join_112 : decode cX9_join 112 = .ok (.ifCond .eq 7, 3) := by decide +kernel
theorem dX9_join_115 : decode cX9_join 115 = .ok (.iconst 1, 1) := by decide +kernel
theorem dX9_join_116 : decode cX9_join 116 = .ok (.goto 4, 3) := by decide +kernel
theorem dX9_join_119 : decode cX9_join 119 = .ok (.iconst 0, 1) := by decide +kernel
theorem dX9_join_120 : decode cX9_join 120 = .ok (.iadd, 1) := by decide +kernel
theorem dX9_join_121 : decode cX9_join 121 = .ok (.istore 5, 2) := by decide +kernel
theorem dX9_join_123 : decode cX9_join 123 = .ok (.iinc 6 1, 3) := by decide +kernel
theorem dX9_join_126 : decode cX9_join 126 = .ok (.goto (-30), 3) := by decide +kernel
theorem dX9_join_129 : decode cX9_join 129 = .ok (.iload 5, 2) := by decide +kernel
theorem dX9_join_131 : decode cX9_join 131 = .ok (.ireturn, 1) := by decide +kernel
theorem dX9_leads_0 : decode cX9_leads 0 = .ok (.iconst 0, 1) := by decide +kernel
theorem dX9_leads_1 : decode cX9_leads 1 = .ok (.istore_n 2, 1) := by decide +kernel
theorem dX9_leads_2 : decode cX9_leads 2 = .ok (.iconst 0, 1) := by decide +kernel
theorem dX9_leads_3 : decode cX9_leads 3 = .ok (.istore_n 3, 1) := by decide +kernel
theorem dX9_leads_4 : decode cX9_leads 4 = .ok (.iload_n 3, 1) := by decide +kernel
theorem dX9_leads_5 : decode cX9_leads 5 = .ok (.aload_n 0, 1) := by decide +kernel
theorem dX9_leads_6 : decode cX9_leads 6 = .ok (.getfield 165, 3) := by decide +kernel
theorem dX9_leads_9 : decode cX9_leads 9 = .ok (.if_icmp .ge 29, 3) := by decide +kernel
theorem dX9_leads_12 : decode cX9_leads 12 = .ok (.iload_n 2, 1) := by decide +kernel
theorem dX9_leads_13 : decode cX9_leads 13 = .ok (.ifCond .ne 13, 3) := by decide +kernel
theorem dX9_leads_16 : decode cX9_leads 16 = .ok (.aload_n 0, 1) := by decide +kernel
theorem dX9_leads_17 : decode cX9_leads 17 = .ok (.getfield 23, 3) := by decide +kernel
theorem dX9_leads_20 : decode cX9_leads 20 = .ok (.iload_n 3, 1) := by decide +kernel
theorem dX9_leads_21 : decode cX9_leads 21 = .ok (.iaload, 1) := by decide +kernel
theorem dX9_leads_22 : decode cX9_leads 22 = .ok (.iload_n 1, 1) := by decide +kernel
theorem dX9_leads_23 : decode cX9_leads 23 = .ok (.if_icmp .ne 7, 3) := by decide +kernel
theorem dX9_leads_26 : decode cX9_leads 26 = .ok (.iconst 1, 1) := by decide +kernel
theorem dX9_leads_27 : decode cX9_leads 27 = .ok (.goto 4, 3) := by decide +kernel
theorem dX9_leads_30 : decode cX9_leads 30 = .ok (.iconst 0, 1) := by decide +kernel
theorem dX9_leads_31 : decode cX9_leads 31 = .ok (.istore_n 2, 1) := by decide +kernel
theorem dX9_leads_32 : decode cX9_leads 32 = .ok (.iinc 3 1, 3) := by decide +kernel
theorem dX9_leads_35 : decode cX9_leads 35 = .ok (.goto (-31), 3) := by decide +kernel
theorem dX9_leads_38 : decode cX9_leads 38 = .ok (.iload_n 2, 1) := by decide +kernel
theorem dX9_leads_39 : decode cX9_leads 39 = .ok (.ireturn, 1) := by decide +kernel
theorem dX9_lead_0 : decode cX9_lead 0 = .ok (.aload_n 0, 1) := by decide +kernel
theorem dX9_lead_1 : decode cX9_lead 1 = .ok (.iload_n 1, 1) := by decide +kernel
theorem dX9_lead_2 : decode cX9_lead 2 = .ok (.invokevirtual 181, 3) := by decide +kernel
theorem dX9_lead_5 : decode cX9_lead 5 = .ok (.ifCond .eq 20, 3) := by decide +kernel
theorem dX9_lead_8 : decode cX9_lead 8 = .ok (.iload_n 2, 1) := by decide +kernel
theorem dX9_lead_9 : decode cX9_lead 9 = .ok (.iconst (-1), 1) := by decide +kernel
theorem dX9_lead_10 : decode cX9_lead 10 = .ok (.if_icmp .eq 11, 3) := by decide +kernel
theorem dX9_lead_13 : decode cX9_lead 13 = .ok (.aload_n 0, 1) := by decide +kernel
theorem dX9_lead_14 : decode cX9_lead 14 = .ok (.iload_n 2, 1) := by decide +kernel
theorem dX9_lead_15 : decode cX9_lead 15 = .ok (.invokevirtual 181, 3) := by decide +kernel
theorem dX9_lead_18 : decode cX9_lead 18 = .ok (.ifCond .eq 7, 3) := by decide +kernel
theorem dX9_lead_21 : decode cX9_lead 21 = .ok (.iconst 1, 1) := by decide +kernel
theorem dX9_lead_22 : decode cX9_lead 22 = .ok (.goto 4, 3) := by decide +kernel
theorem dX9_lead_25 : decode cX9_lead 25 = .ok (.iconst 0, 1) := by decide +kernel
theorem dX9_lead_26 : decode cX9_lead 26 = .ok (.istore_n 3, 1) := by decide +kernel
theorem dX9_lead_27 : decode cX9_lead 27 = .ok (.iload_n 3, 1) := by decide +kernel
theorem dX9_lead_28 : decode cX9_lead 28 = .ok (.ifCond .eq 35, 3) := by decide +kernel
theorem dX9_lead_31 : decode cX9_lead 31 = .ok (.iload_n 2, 1) := by decide +kernel
theorem dX9_lead_32 : decode cX9_lead 32 = .ok (.iconst (-1), 1) := by decide +kernel
theorem dX9_lead_33 : decode cX9_lead 33 = .ok (.if_icmp .eq 26, 3) := by decide +kernel
theorem dX9_lead_36 : decode cX9_lead 36 = .ok (.iload_n 1, 1) := by decide +kernel
theorem dX9_lead_37 : decode cX9_lead 37 = .ok (.iload_n 2, 1) := by decide +kernel
theorem dX9_lead_38 : decode cX9_lead 38 = .ok (.if_icmp .eq 25, 3) := by decide +kernel
theorem dX9_lead_41 : decode cX9_lead 41 = .ok (.aload_n 0, 1) := by decide +kernel
theorem dX9_lead_42 : decode cX9_lead 42 = .ok (.iload_n 1, 1) := by decide +kernel
theorem dX9_lead_43 : decode cX9_lead 43 = .ok (.invokevirtual 191, 3) := by decide +kernel
theorem dX9_lead_46 : decode cX9_lead 46 = .ok (.ifCond .ne 17, 3) := by decide +kernel
theorem dX9_lead_49 : decode cX9_lead 49 = .ok (.aload_n 0, 1) := by decide +kernel
theorem dX9_lead_50 : decode cX9_lead 50 = .ok (.getfield 23, 3) := by decide +kernel
theorem dX9_lead_53 : decode cX9_lead 53 = .ok (.iload_n 2, 1) := by decide +kernel
theorem dX9_lead_54 : decode cX9_lead 54 = .ok (.iaload, 1) := by decide +kernel
theorem dX9_lead_55 : decode cX9_lead 55 = .ok (.iconst (-1), 1) := by decide +kernel
theorem dX9_lead_56 : decode cX9_lead 56 = .ok (.if_icmp .ne 7, 3) := by decide +kernel
theorem dX9_lead_59 : decode cX9_lead 59 = .ok (.iconst 1, 1) := by decide +kernel
theorem dX9_lead_60 : decode cX9_lead 60 = .ok (.goto 4, 3) := by decide +kernel
theorem dX9_lead_63 : decode cX9_lead 63 = .ok (.iconst 0, 1) := by decide +kernel
theorem dX9_lead_64 : decode cX9_lead 64 = .ok (.istore 4, 2) := by decide +kernel
theorem dX9_lead_66 : decode cX9_lead 66 = .ok (.aload_n 0, 1) := by decide +kernel
theorem dX9_lead_67 : decode cX9_lead 67 = .ok (.iload_n 3, 1) := by decide +kernel
theorem dX9_lead_68 : decode cX9_lead 68 = .ok (.ifCond .ne 7, 3) := by decide +kernel
theorem dX9_lead_71 : decode cX9_lead 71 = .ok (.iconst 1, 1) := by decide +kernel
theorem dX9_lead_72 : decode cX9_lead 72 = .ok (.goto 13, 3) := by decide +kernel
theorem dX9_lead_75 : decode cX9_lead 75 = .ok (.iload 4, 2) := by decide +kernel
theorem dX9_lead_77 : decode cX9_lead 77 = .ok (.ifCond .ne 7, 3) := by decide +kernel
theorem dX9_lead_80 : decode cX9_lead 80 = .ok (.iconst 2, 1) := by decide +kernel
theorem dX9_lead_81 : decode cX9_lead 81 = .ok (.goto 4, 3) := by decide +kernel
theorem dX9_lead_84 : decode cX9_lead 84 = .ok (.iconst 0, 1) := by decide +kernel
theorem dX9_lead_85 : decode cX9_lead 85 = .ok (.invokevirtual 155, 3) := by decide +kernel
theorem dX9_lead_88 : decode cX9_lead 88 = .ok (.ifCond .eq 5, 3) := by decide +kernel
theorem dX9_lead_91 : decode cX9_lead 91 = .ok (.iconst 0, 1) := by decide +kernel
theorem dX9_lead_92 : decode cX9_lead 92 = .ok (.ireturn, 1) := by decide +kernel
theorem dX9_lead_93 : decode cX9_lead 93 = .ok (.aload_n 0, 1) := by decide +kernel
theorem dX9_lead_94 : decode cX9_lead 94 = .ok (.getfield 23, 3) := by decide +kernel
theorem dX9_lead_97 : decode cX9_lead 97 = .ok (.iload_n 1, 1) := by decide +kernel
theorem dX9_lead_98 : decode cX9_lead 98 = .ok (.iaload, 1) := by decide +kernel
theorem dX9_lead_99 : decode cX9_lead 99 = .ok (.istore 5, 2) := by decide +kernel
theorem dX9_lead_101 : decode cX9_lead 101 = .ok (.aload_n 0, 1) := by decide +kernel
theorem dX9_lead_102 : decode cX9_lead 102 = .ok (.getfield 23, 3) := by decide +kernel
theorem dX9_lead_105 : decode cX9_lead 105 = .ok (.iload_n 1, 1) := by decide +kernel
theorem dX9_lead_106 : decode cX9_lead 106 = .ok (.iload_n 2, 1) := by decide +kernel
theorem dX9_lead_107 : decode cX9_lead 107 = .ok (.iastore, 1) := by decide +kernel
theorem dX9_lead_108 : decode cX9_lead 108 = .ok (.iload 5, 2) := by decide +kernel
theorem dX9_lead_110 : decode cX9_lead 110 = .ok (.ireturn, 1) := by decide +kernel
theorem dX9_claim_0 : decode cX9_claim 0 = .ok (.aload_n 0, 1) := by decide +kernel
theorem dX9_claim_1 : decode cX9_claim 1 = .ok (.iload_n 1, 1) := by decide +kernel
theorem dX9_claim_2 : decode cX9_claim 2 = .ok (.invokevirtual 181, 3) := by decide +kernel
theorem dX9_claim_5 : decode cX9_claim 5 = .ok (.ifCond .eq 21, 3) := by decide +kernel
theorem dX9_claim_8 : decode cX9_claim 8 = .ok (.iload_n 2, 1) := by decide +kernel
theorem dX9_claim_9 : decode cX9_claim 9 = .ok (.invokestatic 184, 3) := by decide +kernel
theorem dX9_claim_12 : decode cX9_claim 12 = .ok (.ifCond .eq 14, 3) := by decide +kernel
theorem dX9_claim_15 : decode cX9_claim 15 = .ok (.iload_n 3, 1) := by decide +kernel
theorem dX9_claim_16 : decode cX9_claim 16 = .ok (.invokestatic 184, 3) := by decide +kernel
theorem dX9_claim_19 : decode cX9_claim 19 = .ok (.ifCond .eq 7, 3) := by decide +kernel
theorem dX9_claim_22 : decode cX9_claim 22 = .ok (.iconst 1, 1) := by decide +kernel
theorem dX9_claim_23 : decode cX9_claim 23 = .ok (.goto 4, 3) := by decide +kernel
theorem dX9_claim_26 : decode cX9_claim 26 = .ok (.iconst 0, 1) := by decide +kernel
theorem dX9_claim_27 : decode cX9_claim 27 = .ok (.istore 5, 2) := by decide +kernel
theorem dX9_claim_29 : decode cX9_claim 29 = .ok (.iload 5, 2) := by decide +kernel
theorem dX9_claim_31 : decode cX9_claim 31 = .ok (.ifCond .eq 59, 3) := by decide +kernel
theorem dX9_claim_34 : decode cX9_claim 34 = .ok (.aload_n 0, 1) := by decide +kernel
theorem dX9_claim_35 : decode cX9_claim 35 = .ok (.getfield 168, 3) := by decide +kernel
theorem dX9_claim_38 : decode cX9_claim 38 = .ok (.bipush 24, 2) := by decide +kernel
theorem dX9_claim_40 : decode cX9_claim 40 = .ok (.if_icmp .ge 50, 3) := by decide +kernel
theorem dX9_claim_43 : decode cX9_claim 43 = .ok (.aload_n 0, 1) := by decide +kernel
theorem dX9_claim_44 : decode cX9_claim 44 = .ok (.iload_n 1, 1) := by decide +kernel
theorem dX9_claim_45 : decode cX9_claim 45 = .ok (.iload_n 2, 1) := by decide +kernel
theorem dX9_claim_46 : decode cX9_claim 46 = .ok (.invokevirtual 187, 3) := by decide +kernel
theorem dX9_claim_49 : decode cX9_claim 49 = .ok (.ifCond .eq 41, 3) := by decide +kernel
theorem dX9_claim_52 : decode cX9_claim 52 = .ok (.aload_n 0, 1) := by decide +kernel
theorem dX9_claim_53 : decode cX9_claim 53 = .ok (.iload_n 1, 1) := by decide +kernel
theorem dX9_claim_54 : decode cX9_claim 54 = .ok (.iload_n 3, 1) := by decide +kernel
theorem dX9_claim_55 : decode cX9_claim 55 = .ok (.invokevirtual 187, 3) := by decide +kernel
theorem dX9_claim_58 : decode cX9_claim 58 = .ok (.ifCond .eq 32, 3) := by decide +kernel
theorem dX9_claim_61 : decode cX9_claim 61 = .ok (.aload_n 0, 1) := by decide +kernel
theorem dX9_claim_62 : decode cX9_claim 62 = .ok (.getfield 26, 3) := by decide +kernel
theorem dX9_claim_65 : decode cX9_claim 65 = .ok (.bipush 16, 2) := by decide +kernel
theorem dX9_claim_67 : decode cX9_claim 67 = .ok (.iload_n 1, 1) := by decide +kernel
theorem dX9_claim_68 : decode cX9_claim 68 = .ok (.imul, 1) := by decide +kernel
theorem dX9_claim_69 : decode cX9_claim 69 = .ok (.iload_n 2, 1) := by decide +kernel
theorem dX9_claim_70 : decode cX9_claim 70 = .ok (.iadd, 1) := by decide +kernel
theorem dX9_claim_71 : decode cX9_claim 71 = .ok (.iaload, 1) := by decide +kernel
theorem dX9_claim_72 : decode cX9_claim 72 = .ok (.aload_n 0, 1) := by decide +kernel
theorem dX9_claim_73 : decode cX9_claim 73 = .ok (.getfield 26, 3) := by decide +kernel
theorem dX9_claim_76 : decode cX9_claim 76 = .ok (.bipush 16, 2) := by decide +kernel
theorem dX9_claim_78 : decode cX9_claim 78 = .ok (.iload_n 1, 1) := by decide +kernel
theorem dX9_claim_79 : decode cX9_claim 79 = .ok (.imul, 1) := by decide +kernel
theorem dX9_claim_80 : decode cX9_claim 80 = .ok (.iload_n 3, 1) := by decide +kernel
theorem dX9_claim_81 : decode cX9_claim 81 = .ok (.iadd, 1) := by decide +kernel
theorem dX9_claim_82 : decode cX9_claim 82 = .ok (.iaload, 1) := by decide +kernel
theorem dX9_claim_83 : decode cX9_claim 83 = .ok (.if_icmp .eq 7, 3) := by decide +kernel
theorem dX9_claim_86 : decode cX9_claim 86 = .ok (.iconst 1, 1) := by decide +kernel
theorem dX9_claim_87 : decode cX9_claim 87 = .ok (.goto 4, 3) := by decide +kernel
theorem dX9_claim_90 : decode cX9_claim 90 = .ok (.iconst 0, 1) := by decide +kernel
theorem dX9_claim_91 : decode cX9_claim 91 = .ok (.istore 6, 2) := by decide +kernel
theorem dX9_claim_93 : decode cX9_claim 93 = .ok (.aload_n 0, 1) := by decide +kernel
theorem dX9_claim_94 : decode cX9_claim 94 = .ok (.iload 5, 2) := by decide +kernel
theorem dX9_claim_96 : decode cX9_claim 96 = .ok (.ifCond .ne 7, 3) := by decide +kernel
theorem dX9_claim_99 : decode cX9_claim 99 = .ok (.iconst 1, 1) := by decide +kernel
theorem dX9_claim_100 : decode cX9_claim 100 = .ok (.goto 28, 3) := by decide +kernel
theorem dX9_claim_103 : decode cX9_claim 103 = .ok (.iload 4, 2) := by decide +kernel
theorem dX9_claim_105 : decode cX9_claim 105 = .ok (.iconst 1, 1) := by decide +kernel
theorem dX9_claim_106 : decode cX9_claim 106 = .ok (.ldc 194, 2) := by decide +kernel
theorem dX9_claim_108 : decode cX9_claim 108 = .ok (.invokestatic 148, 3) := by decide +kernel
theorem dX9_claim_111 : decode cX9_claim 111 = .ok (.ifCond .ne 7, 3) := by decide +kernel
theorem dX9_claim_114 : decode cX9_claim 114 = .ok (.iconst 2, 1) := by decide +kernel
theorem dX9_claim_115 : decode cX9_claim 115 = .ok (.goto 13, 3) := by decide +kernel
theorem dX9_claim_118 : decode cX9_claim 118 = .ok (.iload 6, 2) := by decide +kernel
theorem dX9_claim_120 : decode cX9_claim 120 = .ok (.ifCond .ne 7, 3) := by decide +kernel
theorem dX9_claim_123 : decode cX9_claim 123 = .ok (.iconst 3, 1) := by decide +kernel
theorem dX9_claim_124 : decode cX9_claim 124 = .ok (.goto 4, 3) := by decide +kernel
theorem dX9_claim_127 : decode cX9_claim 127 = .ok (.iconst 0, 1) := by decide +kernel
theorem dX9_claim_128 : decode cX9_claim 128 = .ok (.invokevirtual 155, 3) := by decide +kernel
theorem dX9_claim_131 : decode cX9_claim 131 = .ok (.ifCond .eq 5, 3) := by decide +kernel
theorem dX9_claim_134 : decode cX9_claim 134 = .ok (.iconst 0, 1) := by decide +kernel
theorem dX9_claim_135 : decode cX9_claim 135 = .ok (.ireturn, 1) := by decide +kernel
theorem dX9_claim_136 : decode cX9_claim 136 = .ok (.aload_n 0, 1) := by decide +kernel
theorem dX9_claim_137 : decode cX9_claim 137 = .ok (.getfield 32, 3) := by decide +kernel
theorem dX9_claim_140 : decode cX9_claim 140 = .ok (.aload_n 0, 1) := by decide +kernel
theorem dX9_claim_141 : decode cX9_claim 141 = .ok (.getfield 168, 3) := by decide +kernel
theorem dX9_claim_144 : decode cX9_claim 144 = .ok (.iload_n 1, 1) := by decide +kernel
theorem dX9_claim_145 : decode cX9_claim 145 = .ok (.iastore, 1) := by decide +kernel
theorem dX9_claim_146 : decode cX9_claim 146 = .ok (.aload_n 0, 1) := by decide +kernel
theorem dX9_claim_147 : decode cX9_claim 147 = .ok (.getfield 35, 3) := by decide +kernel
theorem dX9_claim_150 : decode cX9_claim 150 = .ok (.aload_n 0, 1) := by decide +kernel
theorem dX9_claim_151 : decode cX9_claim 151 = .ok (.getfield 168, 3) := by decide +kernel
theorem dX9_claim_154 : decode cX9_claim 154 = .ok (.iload_n 2, 1) := by decide +kernel
theorem dX9_claim_155 : decode cX9_claim 155 = .ok (.iastore, 1) := by decide +kernel
theorem dX9_claim_156 : decode cX9_claim 156 = .ok (.aload_n 0, 1) := by decide +kernel
theorem dX9_claim_157 : decode cX9_claim 157 = .ok (.getfield 38, 3) := by decide +kernel
theorem dX9_claim_160 : decode cX9_claim 160 = .ok (.aload_n 0, 1) := by decide +kernel
theorem dX9_claim_161 : decode cX9_claim 161 = .ok (.getfield 168, 3) := by decide +kernel
theorem dX9_claim_164 : decode cX9_claim 164 = .ok (.iload_n 3, 1) := by decide +kernel
theorem dX9_claim_165 : decode cX9_claim 165 = .ok (.iastore, 1) := by decide +kernel
theorem dX9_claim_166 : decode cX9_claim 166 = .ok (.aload_n 0, 1) := by decide +kernel
theorem dX9_claim_167 : decode cX9_claim 167 = .ok (.getfield 44, 3) := by decide +kernel
theorem dX9_claim_170 : decode cX9_claim 170 = .ok (.aload_n 0, 1) := by decide +kernel
theorem dX9_claim_171 : decode cX9_claim 171 = .ok (.getfield 168, 3) := by decide +kernel
theorem dX9_claim_174 : decode cX9_claim 174 = .ok (.iload 4, 2) := by decide +kernel
theorem dX9_claim_176 : decode cX9_claim 176 = .ok (.iastore, 1) := by decide +kernel
theorem dX9_claim_177 : decode cX9_claim 177 = .ok (.aload_n 0, 1) := by decide +kernel
theorem dX9_claim_178 : decode cX9_claim 178 = .ok (.getfield 47, 3) := by decide +kernel
theorem dX9_claim_181 : decode cX9_claim 181 = .ok (.aload_n 0, 1) := by decide +kernel
theorem dX9_claim_182 : decode cX9_claim 182 = .ok (.getfield 168, 3) := by decide +kernel
theorem dX9_claim_185 : decode cX9_claim 185 = .ok (.iconst (-1), 1) := by decide +kernel
theorem dX9_claim_186 : decode cX9_claim 186 = .ok (.iastore, 1) := by decide +kernel
theorem dX9_claim_187 : decode cX9_claim 187 = .ok (.aload_n 0, 1) := by decide +kernel
theorem dX9_claim_188 : decode cX9_claim 188 = .ok (.getfield 56, 3) := by decide +kernel
theorem dX9_claim_191 : decode cX9_claim 191 = .ok (.aload_n 0, 1) := by decide +kernel
theorem dX9_claim_192 : decode cX9_claim 192 = .ok (.getfield 168, 3) := by decide +kernel
theorem dX9_claim_195 : decode cX9_claim 195 = .ok (.iconst (-1), 1) := by decide +kernel
theorem dX9_claim_196 : decode cX9_claim 196 = .ok (.iastore, 1) := by decide +kernel
theorem dX9_claim_197 : decode cX9_claim 197 = .ok (.aload_n 0, 1) := by decide +kernel
theorem dX9_claim_198 : decode cX9_claim 198 = .ok (.getfield 62, 3) := by decide +kernel
theorem dX9_claim_201 : decode cX9_claim 201 = .ok (.aload_n 0, 1) := by decide +kernel
theorem dX9_claim_202 : decode cX9_claim 202 = .ok (.getfield 168, 3) := by decide +kernel
theorem dX9_claim_205 : decode cX9_claim 205 = .ok (.iconst (-1), 1) := by decide +kernel
theorem dX9_claim_206 : decode cX9_claim 206 = .ok (.iastore, 1) := by decide +kernel
theorem dX9_claim_207 : decode cX9_claim 207 = .ok (.aload_n 0, 1) := by decide +kernel
theorem dX9_claim_208 : decode cX9_claim 208 = .ok (.dup, 1) := by decide +kernel
theorem dX9_claim_209 : decode cX9_claim 209 = .ok (.getfield 168, 3) := by decide +kernel
theorem dX9_claim_212 : decode cX9_claim 212 = .ok (.iconst 1, 1) := by decide +kernel
theorem dX9_claim_213 : decode cX9_claim 213 = .ok (.iadd, 1) := by decide +kernel
theorem dX9_claim_214 : decode cX9_claim 214 = .ok (.putfield 168, 3) := by decide +kernel
theorem dX9_claim_217 : decode cX9_claim 217 = .ok (.aload_n 0, 1) := by decide +kernel
theorem dX9_claim_218 : decode cX9_claim 218 = .ok (.getfield 168, 3) := by decide +kernel
theorem dX9_claim_221 : decode cX9_claim 221 = .ok (.iconst 1, 1) := by decide +kernel
theorem dX9_claim_222 : decode cX9_claim 222 = .ok (.isub, 1) := by decide +kernel
theorem dX9_claim_223 : decode cX9_claim 223 = .ok (.ireturn, 1) := by decide +kernel
theorem dX9_sever_0 : decode cX9_sever 0 = .ok (.aload_n 0, 1) := by decide +kernel
theorem dX9_sever_1 : decode cX9_sever 1 = .ok (.iload_n 1, 1) := by decide +kernel
theorem dX9_sever_2 : decode cX9_sever 2 = .ok (.invokevirtual 195, 3) := by decide +kernel
theorem dX9_sever_5 : decode cX9_sever 5 = .ok (.istore_n 2, 1) := by decide +kernel
theorem dX9_sever_6 : decode cX9_sever 6 = .ok (.aload_n 0, 1) := by decide +kernel
theorem dX9_sever_7 : decode cX9_sever 7 = .ok (.iload_n 2, 1) := by decide +kernel
theorem dX9_sever_8 : decode cX9_sever 8 = .ok (.ifCond .ne 7, 3) := by decide +kernel
theorem dX9_sever_11 : decode cX9_sever 11 = .ok (.iconst 1, 1) := by decide +kernel
theorem dX9_sever_12 : decode cX9_sever 12 = .ok (.goto 27, 3) := by decide +kernel
theorem dX9_sever_15 : decode cX9_sever 15 = .ok (.aload_n 0, 1) := by decide +kernel
theorem dX9_sever_16 : decode cX9_sever 16 = .ok (.getfield 41, 3) := by decide +kernel
theorem dX9_sever_19 : decode cX9_sever 19 = .ok (.iload_n 1, 1) := by decide +kernel
theorem dX9_sever_20 : decode cX9_sever 20 = .ok (.iaload, 1) := by decide +kernel
theorem dX9_sever_21 : decode cX9_sever 21 = .ok (.iconst 4, 1) := by decide +kernel
theorem dX9_sever_22 : decode cX9_sever 22 = .ok (.if_icmp .ge 12, 3) := by decide +kernel
theorem dX9_sever_25 : decode cX9_sever 25 = .ok (.aload_n 0, 1) := by decide +kernel
theorem dX9_sever_26 : decode cX9_sever 26 = .ok (.getfield 165, 3) := by decide +kernel
theorem dX9_sever_29 : decode cX9_sever 29 = .ok (.bipush 8, 2) := by decide +kernel
theorem dX9_sever_31 : decode cX9_sever 31 = .ok (.if_icmp .ne 7, 3) := by decide +kernel
theorem dX9_sever_34 : decode cX9_sever 34 = .ok (.iconst 2, 1) := by decide +kernel
theorem dX9_sever_35 : decode cX9_sever 35 = .ok (.goto 4, 3) := by decide +kernel
theorem dX9_sever_38 : decode cX9_sever 38 = .ok (.iconst 0, 1) := by decide +kernel
theorem dX9_sever_39 : decode cX9_sever 39 = .ok (.invokevirtual 155, 3) := by decide +kernel
theorem dX9_sever_42 : decode cX9_sever 42 = .ok (.ifCond .eq 5, 3) := by decide +kernel
theorem dX9_sever_45 : decode cX9_sever 45 = .ok (.iconst 0, 1) := by decide +kernel
theorem dX9_sever_46 : decode cX9_sever 46 = .ok (.ireturn, 1) := by decide +kernel
theorem dX9_sever_47 : decode cX9_sever 47 = .ok (.aload_n 0, 1) := by decide +kernel
theorem dX9_sever_48 : decode cX9_sever 48 = .ok (.getfield 32, 3) := by decide +kernel
theorem dX9_sever_51 : decode cX9_sever 51 = .ok (.iload_n 1, 1) := by decide +kernel
theorem dX9_sever_52 : decode cX9_sever 52 = .ok (.iaload, 1) := by decide +kernel
theorem dX9_sever_53 : decode cX9_sever 53 = .ok (.istore_n 3, 1) := by decide +kernel
theorem dX9_sever_54 : decode cX9_sever 54 = .ok (.aload_n 0, 1) := by decide +kernel
theorem dX9_sever_55 : decode cX9_sever 55 = .ok (.aload_n 0, 1) := by decide +kernel
theorem dX9_sever_56 : decode cX9_sever 56 = .ok (.getfield 20, 3) := by decide +kernel
theorem dX9_sever_59 : decode cX9_sever 59 = .ok (.iload_n 3, 1) := by decide +kernel
theorem dX9_sever_60 : decode cX9_sever 60 = .ok (.iaload, 1) := by decide +kernel
theorem dX9_sever_61 : decode cX9_sever 61 = .ok (.invokevirtual 177, 3) := by decide +kernel
theorem dX9_sever_64 : decode cX9_sever 64 = .ok (.istore 4, 2) := by decide +kernel
theorem dX9_sever_66 : decode cX9_sever 66 = .ok (.iconst 0, 1) := by decide +kernel
theorem dX9_sever_67 : decode cX9_sever 67 = .ok (.istore 5, 2) := by decide +kernel
theorem dX9_sever_69 : decode cX9_sever 69 = .ok (.iload 5, 2) := by decide +kernel
theorem dX9_sever_71 : decode cX9_sever 71 = .ok (.iconst 2, 1) := by decide +kernel
theorem dX9_sever_72 : decode cX9_sever 72 = .ok (.if_icmp .ge 73, 3) := by decide +kernel
theorem dX9_sever_75 : decode cX9_sever 75 = .ok (.iload 5, 2) := by decide +kernel
theorem dX9_sever_77 : decode cX9_sever 77 = .ok (.ifCond .ne 12, 3) := by decide +kernel
theorem dX9_sever_80 : decode cX9_sever 80 = .ok (.aload_n 0, 1) := by decide +kernel
theorem dX9_sever_81 : decode cX9_sever 81 = .ok (.getfield 35, 3) := by decide +kernel
theorem dX9_sever_84 : decode cX9_sever 84 = .ok (.iload_n 1, 1) := by decide +kernel
theorem dX9_sever_85 : decode cX9_sever 85 = .ok (.iaload, 1) := by decide +kernel
theorem dX9_sever_86 : decode cX9_sever 86 = .ok (.goto 9, 3) := by decide +kernel
theorem dX9_sever_89 : decode cX9_sever 89 = .ok (.aload_n 0, 1) := by decide +kernel
theorem dX9_sever_90 : decode cX9_sever 90 = .ok (.getfield 38, 3) := by decide +kernel
theorem dX9_sever_93 : decode cX9_sever 93 = .ok (.iload_n 1, 1) := by decide +kernel
theorem dX9_sever_94 : decode cX9_sever 94 = .ok (.iaload, 1) := by decide +kernel
theorem dX9_sever_95 : decode cX9_sever 95 = .ok (.istore 6, 2) := by decide +kernel
theorem dX9_sever_97 : decode cX9_sever 97 = .ok (.aload_n 0, 1) := by decide +kernel
theorem dX9_sever_98 : decode cX9_sever 98 = .ok (.getfield 26, 3) := by decide +kernel
theorem dX9_sever_101 : decode cX9_sever 101 = .ok (.bipush 16, 2) := by decide +kernel
theorem dX9_sever_103 : decode cX9_sever 103 = .ok (.iload 4, 2) := by decide +kernel
theorem dX9_sever_105 : decode cX9_sever 105 = .ok (.imul, 1) := by decide +kernel
theorem dX9_sever_106 : decode cX9_sever 106 = .ok (.iload 6, 2) := by decide +kernel
theorem dX9_sever_108 : decode cX9_sever 108 = .ok (.iadd, 1) := by decide +kernel
theorem dX9_sever_109 : decode cX9_sever 109 = .ok (.aload_n 0, 1) := by decide +kernel
theorem dX9_sever_110 : decode cX9_sever 110 = .ok (.getfield 26, 3) := by decide +kernel
theorem dX9_sever_113 : decode cX9_sever 113 = .ok (.bipush 16, 2) := by decide +kernel
theorem dX9_sever_115 : decode cX9_sever 115 = .ok (.iload_n 3, 1) := by decide +kernel
theorem dX9_sever_116 : decode cX9_sever 116 = .ok (.imul, 1) := by decide +kernel
theorem dX9_sever_117 : decode cX9_sever 117 = .ok (.iload 6, 2) := by decide +kernel
theorem dX9_sever_119 : decode cX9_sever 119 = .ok (.iadd, 1) := by decide +kernel
theorem dX9_sever_120 : decode cX9_sever 120 = .ok (.iaload, 1) := by decide +kernel
theorem dX9_sever_121 : decode cX9_sever 121 = .ok (.iastore, 1) := by decide +kernel
theorem dX9_sever_122 : decode cX9_sever 122 = .ok (.aload_n 0, 1) := by decide +kernel
theorem dX9_sever_123 : decode cX9_sever 123 = .ok (.getfield 29, 3) := by decide +kernel
theorem dX9_sever_126 : decode cX9_sever 126 = .ok (.bipush 16, 2) := by decide +kernel
theorem dX9_sever_128 : decode cX9_sever 128 = .ok (.iload 4, 2) := by decide +kernel
theorem dX9_sever_130 : decode cX9_sever 130 = .ok (.imul, 1) := by decide +kernel
theorem dX9_sever_131 : decode cX9_sever 131 = .ok (.iload 6, 2) := by decide +kernel
theorem dX9_sever_133 : decode cX9_sever 133 = .ok (.iadd, 1) := by decide +kernel
theorem dX9_sever_134 : decode cX9_sever 134 = .ok (.aload_n 0, 1) := by decide +kernel
theorem dX9_sever_135 : decode cX9_sever 135 = .ok (.getfield 152, 3) := by decide +kernel
theorem dX9_sever_138 : decode cX9_sever 138 = .ok (.iastore, 1) := by decide +kernel
theorem dX9_sever_139 : decode cX9_sever 139 = .ok (.iinc 5 1, 3) := by decide +kernel
theorem dX9_sever_142 : decode cX9_sever 142 = .ok (.goto (-73), 3) := by decide +kernel
theorem dX9_sever_145 : decode cX9_sever 145 = .ok (.aload_n 0, 1) := by decide +kernel
theorem dX9_sever_146 : decode cX9_sever 146 = .ok (.getfield 32, 3) := by decide +kernel
theorem dX9_sever_149 : decode cX9_sever 149 = .ok (.iload_n 1, 1) := by decide +kernel
theorem dX9_sever_150 : decode cX9_sever 150 = .ok (.iload 4, 2) := by decide +kernel
theorem dX9_sever_152 : decode cX9_sever 152 = .ok (.iastore, 1) := by decide +kernel
theorem dX9_sever_153 : decode cX9_sever 153 = .ok (.iload 4, 2) := by decide +kernel
theorem dX9_sever_155 : decode cX9_sever 155 = .ok (.ireturn, 1) := by decide +kernel
theorem dX9_isStayedAlone_0 : decode cX9_isStayedAlone 0 = .ok (.iconst 0, 1) := by decide +kernel
theorem dX9_isStayedAlone_1 : decode cX9_isStayedAlone 1 = .ok (.istore_n 3, 1) := by decide +kernel
theorem dX9_isStayedAlone_2 : decode cX9_isStayedAlone 2 = .ok (.iconst 0, 1) := by decide +kernel
theorem dX9_isStayedAlone_3 : decode cX9_isStayedAlone 3 = .ok (.istore 4, 2) := by decide +kernel
theorem dX9_isStayedAlone_5 : decode cX9_isStayedAlone 5 = .ok (.iload 4, 2) := by decide +kernel
theorem dX9_isStayedAlone_7 : decode cX9_isStayedAlone 7 = .ok (.aload_n 0, 1) := by decide +kernel
theorem dX9_isStayedAlone_8 : decode cX9_isStayedAlone 8 = .ok (.getfield 171, 3) := by decide +kernel
theorem dX9_isStayedAlone_11 : decode cX9_isStayedAlone 11 = .ok (.if_icmp .ge 61, 3) := by decide +kernel
theorem dX9_isStayedAlone_14 : decode cX9_isStayedAlone 14 = .ok (.aload_n 0, 1) := by decide +kernel
theorem dX9_isStayedAlone_15 : decode cX9_isStayedAlone 15 = .ok (.getfield 65, 3) := by decide +kernel
theorem dX9_isStayedAlone_18 : decode cX9_isStayedAlone 18 = .ok (.iload 4, 2) := by decide +kernel
theorem dX9_isStayedAlone_20 : decode cX9_isStayedAlone 20 = .ok (.iaload, 1) := by decide +kernel
theorem dX9_isStayedAlone_21 : decode cX9_isStayedAlone 21 = .ok (.bipush 11, 2) := by decide +kernel
theorem dX9_isStayedAlone_23 : decode cX9_isStayedAlone 23 = .ok (.if_icmp .lt 43, 3) := by decide +kernel
theorem dX9_isStayedAlone_26 : decode cX9_isStayedAlone 26 = .ok (.aload_n 0, 1) := by decide +kernel
theorem dX9_isStayedAlone_27 : decode cX9_isStayedAlone 27 = .ok (.getfield 71, 3) := by decide +kernel
theorem dX9_isStayedAlone_30 : decode cX9_isStayedAlone 30 = .ok (.iload 4, 2) := by decide +kernel
theorem dX9_isStayedAlone_32 : decode cX9_isStayedAlone 32 = .ok (.iaload, 1) := by decide +kernel
theorem dX9_isStayedAlone_33 : decode cX9_isStayedAlone 33 = .ok (.iload_n 1, 1) := by decide +kernel
theorem dX9_isStayedAlone_34 : decode cX9_isStayedAlone 34 = .ok (.if_icmp .ne 32, 3) := by decide +kernel
theorem dX9_isStayedAlone_37 : decode cX9_isStayedAlone 37 = .ok (.aload_n 0, 1) := by decide +kernel
theorem dX9_isStayedAlone_38 : decode cX9_isStayedAlone 38 = .ok (.getfield 68, 3) := by decide +kernel
theorem dX9_isStayedAlone_41 : decode cX9_isStayedAlone 41 = .ok (.iload 4, 2) := by decide +kernel
theorem dX9_isStayedAlone_43 : decode cX9_isStayedAlone 43 = .ok (.iaload, 1) := by decide +kernel
theorem dX9_isStayedAlone_44 : decode cX9_isStayedAlone 44 = .ok (.iload_n 2, 1) := by decide +kernel
theorem dX9_isStayedAlone_45 : decode cX9_isStayedAlone 45 = .ok (.if_icmp .gt 21, 3) := by decide +kernel
theorem dX9_isStayedAlone_48 : decode cX9_isStayedAlone 48 = .ok (.aload_n 0, 1) := by decide +kernel
theorem dX9_isStayedAlone_49 : decode cX9_isStayedAlone 49 = .ok (.getfield 65, 3) := by decide +kernel
theorem dX9_isStayedAlone_52 : decode cX9_isStayedAlone 52 = .ok (.iload 4, 2) := by decide +kernel
theorem dX9_isStayedAlone_54 : decode cX9_isStayedAlone 54 = .ok (.iaload, 1) := by decide +kernel
theorem dX9_isStayedAlone_55 : decode cX9_isStayedAlone 55 = .ok (.bipush 11, 2) := by decide +kernel
theorem dX9_isStayedAlone_57 : decode cX9_isStayedAlone 57 = .ok (.if_icmp .ne 7, 3) := by decide +kernel
theorem dX9_isStayedAlone_60 : decode cX9_isStayedAlone 60 = .ok (.iconst 1, 1) := by decide +kernel
theorem dX9_isStayedAlone_61 : decode cX9_isStayedAlone 61 = .ok (.goto 4, 3) := by decide +kernel
theorem dX9_isStayedAlone_64 : decode cX9_isStayedAlone 64 = .ok (.iconst 0, 1) := by decide +kernel
theorem dX9_isStayedAlone_65 : decode cX9_isStayedAlone 65 = .ok (.istore_n 3, 1) := by decide +kernel
theorem dX9_isStayedAlone_66 : decode cX9_isStayedAlone 66 = .ok (.iinc 4 1, 3) := by decide +kernel
theorem dX9_isStayedAlone_69 : decode cX9_isStayedAlone 69 = .ok (.goto (-64), 3) := by decide +kernel
theorem dX9_isStayedAlone_72 : decode cX9_isStayedAlone 72 = .ok (.iload_n 3, 1) := by decide +kernel
theorem dX9_isStayedAlone_73 : decode cX9_isStayedAlone 73 = .ok (.ireturn, 1) := by decide +kernel
theorem dX9_isStayed_0 : decode cX9_isStayed 0 = .ok (.aload_n 0, 1) := by decide +kernel
theorem dX9_isStayed_1 : decode cX9_isStayed 1 = .ok (.iload_n 1, 1) := by decide +kernel
theorem dX9_isStayed_2 : decode cX9_isStayed 2 = .ok (.iload_n 2, 1) := by decide +kernel
theorem dX9_isStayed_3 : decode cX9_isStayed 3 = .ok (.invokevirtual 198, 3) := by decide +kernel
theorem dX9_isStayed_6 : decode cX9_isStayed 6 = .ok (.ifCond .ne 27, 3) := by decide +kernel
theorem dX9_isStayed_9 : decode cX9_isStayed 9 = .ok (.aload_n 0, 1) := by decide +kernel
theorem dX9_isStayed_10 : decode cX9_isStayed 10 = .ok (.getfield 23, 3) := by decide +kernel
theorem dX9_isStayed_13 : decode cX9_isStayed 13 = .ok (.iload_n 1, 1) := by decide +kernel
theorem dX9_isStayed_14 : decode cX9_isStayed 14 = .ok (.iaload, 1) := by decide +kernel
theorem dX9_isStayed_15 : decode cX9_isStayed 15 = .ok (.iconst (-1), 1) := by decide +kernel
theorem dX9_isStayed_16 : decode cX9_isStayed 16 = .ok (.if_icmp .eq 21, 3) := by decide +kernel
theorem dX9_isStayed_19 : decode cX9_isStayed 19 = .ok (.aload_n 0, 1) := by decide +kernel
theorem dX9_isStayed_20 : decode cX9_isStayed 20 = .ok (.aload_n 0, 1) := by decide +kernel
theorem dX9_isStayed_21 : decode cX9_isStayed 21 = .ok (.getfield 23, 3) := by decide +kernel
theorem dX9_isStayed_24 : decode cX9_isStayed 24 = .ok (.iload_n 1, 1) := by decide +kernel
theorem dX9_isStayed_25 : decode cX9_isStayed 25 = .ok (.iaload, 1) := by decide +kernel
theorem dX9_isStayed_26 : decode cX9_isStayed 26 = .ok (.iload_n 2, 1) := by decide +kernel
theorem dX9_isStayed_27 : decode cX9_isStayed 27 = .ok (.invokevirtual 198, 3) := by decide +kernel
theorem dX9_isStayed_30 : decode cX9_isStayed 30 = .ok (.ifCond .eq 7, 3) := by decide +kernel
theorem dX9_isStayed_33 : decode cX9_isStayed 33 = .ok (.iconst 1, 1) := by decide +kernel
theorem dX9_isStayed_34 : decode cX9_isStayed 34 = .ok (.goto 4, 3) := by decide +kernel
theorem dX9_isStayed_37 : decode cX9_isStayed 37 = .ok (.iconst 0, 1) := by decide +kernel
theorem dX9_isStayed_38 : decode cX9_isStayed 38 = .ok (.ireturn, 1) := by decide +kernel
theorem dX9_deadline_0 : decode cX9_deadline 0 = .ok (.iload_n 1, 1) := by decide +kernel
theorem dX9_deadline_1 : decode cX9_deadline 1 = .ok (.istore 5, 2) := by decide +kernel
theorem dX9_deadline_3 : decode cX9_deadline 3 = .ok (.iload_n 2, 1) := by decide +kernel
theorem dX9_deadline_4 : decode cX9_deadline 4 = .ok (.istore 6, 2) := by decide +kernel
theorem dX9_deadline_6 : decode cX9_deadline 6 = .ok (.iload 6, 2) := by decide +kernel
theorem dX9_deadline_8 : decode cX9_deadline 8 = .ok (.ifCond .le 51, 3) := by decide +kernel
theorem dX9_deadline_11 : decode cX9_deadline 11 = .ok (.iload 5, 2) := by decide +kernel
theorem dX9_deadline_13 : decode cX9_deadline 13 = .ok (.sipush 1400, 3) := by decide +kernel
theorem dX9_deadline_16 : decode cX9_deadline 16 = .ok (.if_icmp .gt 43, 3) := by decide +kernel
theorem dX9_deadline_19 : decode cX9_deadline 19 = .ok (.iinc 5 1, 3) := by decide +kernel
theorem dX9_deadline_22 : decode cX9_deadline 22 = .ok (.iload 6, 2) := by decide +kernel
theorem dX9_deadline_24 : decode cX9_deadline 24 = .ok (.aload_n 0, 1) := by decide +kernel
theorem dX9_deadline_25 : decode cX9_deadline 25 = .ok (.iload 4, 2) := by decide +kernel
theorem dX9_deadline_27 : decode cX9_deadline 27 = .ok (.iload 5, 2) := by decide +kernel
theorem dX9_deadline_29 : decode cX9_deadline 29 = .ok (.invokevirtual 201, 3) := by decide +kernel
theorem dX9_deadline_32 : decode cX9_deadline 32 = .ok (.ifCond .ne 16, 3) := by decide +kernel
theorem dX9_deadline_35 : decode cX9_deadline 35 = .ok (.iload_n 3, 1) := by decide +kernel
theorem dX9_deadline_36 : decode cX9_deadline 36 = .ok (.ifCond .eq 16, 3) := by decide +kernel
theorem dX9_deadline_39 : decode cX9_deadline 39 = .ok (.aload_n 0, 1) := by decide +kernel
theorem dX9_deadline_40 : decode cX9_deadline 40 = .ok (.iload 5, 2) := by decide +kernel
theorem dX9_deadline_42 : decode cX9_deadline 42 = .ok (.invokevirtual 162, 3) := by decide +kernel
theorem dX9_deadline_45 : decode cX9_deadline 45 = .ok (.ifCond .eq 7, 3) := by decide +kernel
theorem dX9_deadline_48 : decode cX9_deadline 48 = .ok (.iconst 0, 1) := by decide +kernel
theorem dX9_deadline_49 : decode cX9_deadline 49 = .ok (.goto 4, 3) := by decide +kernel
theorem dX9_deadline_52 : decode cX9_deadline 52 = .ok (.iconst 1, 1) := by decide +kernel
theorem dX9_deadline_53 : decode cX9_deadline 53 = .ok (.isub, 1) := by decide +kernel
theorem dX9_deadline_54 : decode cX9_deadline 54 = .ok (.istore 6, 2) := by decide +kernel
theorem dX9_deadline_56 : decode cX9_deadline 56 = .ok (.goto (-50), 3) := by decide +kernel
theorem dX9_deadline_59 : decode cX9_deadline 59 = .ok (.iload 5, 2) := by decide +kernel
theorem dX9_deadline_61 : decode cX9_deadline 61 = .ok (.sipush 1400, 3) := by decide +kernel
theorem dX9_deadline_64 : decode cX9_deadline 64 = .ok (.if_icmp .gt 29, 3) := by decide +kernel
theorem dX9_deadline_67 : decode cX9_deadline 67 = .ok (.aload_n 0, 1) := by decide +kernel
theorem dX9_deadline_68 : decode cX9_deadline 68 = .ok (.iload 5, 2) := by decide +kernel
theorem dX9_deadline_70 : decode cX9_deadline 70 = .ok (.invokevirtual 162, 3) := by decide +kernel
theorem dX9_deadline_73 : decode cX9_deadline 73 = .ok (.ifCond .ne 14, 3) := by decide +kernel
theorem dX9_deadline_76 : decode cX9_deadline 76 = .ok (.aload_n 0, 1) := by decide +kernel
theorem dX9_deadline_77 : decode cX9_deadline 77 = .ok (.iload 4, 2) := by decide +kernel
theorem dX9_deadline_79 : decode cX9_deadline 79 = .ok (.iload 5, 2) := by decide +kernel
theorem dX9_deadline_81 : decode cX9_deadline 81 = .ok (.invokevirtual 201, 3) := by decide +kernel
theorem dX9_deadline_84 : decode cX9_deadline 84 = .ok (.ifCond .eq 9, 3) := by decide +kernel
theorem dX9_deadline_87 : decode cX9_deadline 87 = .ok (.iinc 5 1, 3) := by decide +kernel
theorem dX9_deadline_90 : decode cX9_deadline 90 = .ok (.goto (-31), 3) := by decide +kernel
theorem dX9_deadline_93 : decode cX9_deadline 93 = .ok (.iload 5, 2) := by decide +kernel
theorem dX9_deadline_95 : decode cX9_deadline 95 = .ok (.sipush 1400, 3) := by decide +kernel
theorem dX9_deadline_98 : decode cX9_deadline 98 = .ok (.if_icmp .le 7, 3) := by decide +kernel
theorem dX9_deadline_101 : decode cX9_deadline 101 = .ok (.iconst (-1), 1) := by decide +kernel
theorem dX9_deadline_102 : decode cX9_deadline 102 = .ok (.goto 5, 3) := by decide +kernel
theorem dX9_deadline_105 : decode cX9_deadline 105 = .ok (.iload 5, 2) := by decide +kernel
theorem dX9_deadline_107 : decode cX9_deadline 107 = .ok (.ireturn, 1) := by decide +kernel
theorem dX9_isBehind_0 : decode cX9_isBehind 0 = .ok (.iload_n 1, 1) := by decide +kernel
theorem dX9_isBehind_1 : decode cX9_isBehind 1 = .ok (.iconst (-1), 1) := by decide +kernel
theorem dX9_isBehind_2 : decode cX9_isBehind 2 = .ok (.if_icmp .eq 15, 3) := by decide +kernel
theorem dX9_isBehind_5 : decode cX9_isBehind 5 = .ok (.aload_n 0, 1) := by decide +kernel
theorem dX9_isBehind_6 : decode cX9_isBehind 6 = .ok (.getfield 152, 3) := by decide +kernel
theorem dX9_isBehind_9 : decode cX9_isBehind 9 = .ok (.iload_n 1, 1) := by decide +kernel
theorem dX9_isBehind_10 : decode cX9_isBehind 10 = .ok (.if_icmp .le 7, 3) := by decide +kernel
theorem dX9_isBehind_13 : decode cX9_isBehind 13 = .ok (.iconst 1, 1) := by decide +kernel
theorem dX9_isBehind_14 : decode cX9_isBehind 14 = .ok (.goto 4, 3) := by decide +kernel
theorem dX9_isBehind_17 : decode cX9_isBehind 17 = .ok (.iconst 0, 1) := by decide +kernel
theorem dX9_isBehind_18 : decode cX9_isBehind 18 = .ok (.ireturn, 1) := by decide +kernel
theorem dX9_latest_0 : decode cX9_latest 0 = .ok (.iconst (-1), 1) := by decide +kernel
theorem dX9_latest_1 : decode cX9_latest 1 = .ok (.istore_n 3, 1) := by decide +kernel
theorem dX9_latest_2 : decode cX9_latest 2 = .ok (.iconst 0, 1) := by decide +kernel
theorem dX9_latest_3 : decode cX9_latest 3 = .ok (.istore 4, 2) := by decide +kernel
theorem dX9_latest_5 : decode cX9_latest 5 = .ok (.iload 4, 2) := by decide +kernel
theorem dX9_latest_7 : decode cX9_latest 7 = .ok (.aload_n 0, 1) := by decide +kernel
theorem dX9_latest_8 : decode cX9_latest 8 = .ok (.getfield 171, 3) := by decide +kernel
theorem dX9_latest_11 : decode cX9_latest 11 = .ok (.if_icmp .ge 48, 3) := by decide +kernel
theorem dX9_latest_14 : decode cX9_latest 14 = .ok (.aload_n 0, 1) := by decide +kernel
theorem dX9_latest_15 : decode cX9_latest 15 = .ok (.getfield 65, 3) := by decide +kernel
theorem dX9_latest_18 : decode cX9_latest 18 = .ok (.iload 4, 2) := by decide +kernel
theorem dX9_latest_20 : decode cX9_latest 20 = .ok (.iaload, 1) := by decide +kernel
theorem dX9_latest_21 : decode cX9_latest 21 = .ok (.iload_n 2, 1) := by decide +kernel
theorem dX9_latest_22 : decode cX9_latest 22 = .ok (.if_icmp .ne 29, 3) := by decide +kernel
theorem dX9_latest_25 : decode cX9_latest 25 = .ok (.aload_n 0, 1) := by decide +kernel
theorem dX9_latest_26 : decode cX9_latest 26 = .ok (.getfield 71, 3) := by decide +kernel
theorem dX9_latest_29 : decode cX9_latest 29 = .ok (.iload 4, 2) := by decide +kernel
theorem dX9_latest_31 : decode cX9_latest 31 = .ok (.iaload, 1) := by decide +kernel
theorem dX9_latest_32 : decode cX9_latest 32 = .ok (.iload_n 1, 1) := by decide +kernel
theorem dX9_latest_33 : decode cX9_latest 33 = .ok (.if_icmp .ne 18, 3) := by decide +kernel
theorem dX9_latest_36 : decode cX9_latest 36 = .ok (.aload_n 0, 1) := by decide +kernel
theorem dX9_latest_37 : decode cX9_latest 37 = .ok (.getfield 95, 3) := by decide +kernel
theorem dX9_latest_40 : decode cX9_latest 40 = .ok (.iload 4, 2) := by decide +kernel
theorem dX9_latest_42 : decode cX9_latest 42 = .ok (.baload, 1) := by decide +kernel
theorem dX9_latest_43 : decode cX9_latest 43 = .ok (.ifCond .ne 8, 3) := by decide +kernel
theorem dX9_latest_46 : decode cX9_latest 46 = .ok (.iload 4, 2) := by decide +kernel
theorem dX9_latest_48 : decode cX9_latest 48 = .ok (.goto 4, 3) := by decide +kernel
theorem dX9_latest_51 : decode cX9_latest 51 = .ok (.iload_n 3, 1) := by decide +kernel
theorem dX9_latest_52 : decode cX9_latest 52 = .ok (.istore_n 3, 1) := by decide +kernel
theorem dX9_latest_53 : decode cX9_latest 53 = .ok (.iinc 4 1, 3) := by decide +kernel
theorem dX9_latest_56 : decode cX9_latest 56 = .ok (.goto (-51), 3) := by decide +kernel
theorem dX9_latest_59 : decode cX9_latest 59 = .ok (.iload_n 3, 1) := by decide +kernel
theorem dX9_latest_60 : decode cX9_latest 60 = .ok (.ireturn, 1) := by decide +kernel
theorem dX9_isCounted_0 : decode cX9_isCounted 0 = .ok (.aload_n 0, 1) := by decide +kernel
theorem dX9_isCounted_1 : decode cX9_isCounted 1 = .ok (.getfield 101, 3) := by decide +kernel
theorem dX9_isCounted_4 : decode cX9_isCounted 4 = .ok (.iload_n 1, 1) := by decide +kernel
theorem dX9_isCounted_5 : decode cX9_isCounted 5 = .ok (.iaload, 1) := by decide +kernel
theorem dX9_isCounted_6 : decode cX9_isCounted 6 = .ok (.ifCond .eq 12, 3) := by decide +kernel
theorem dX9_isCounted_9 : decode cX9_isCounted 9 = .ok (.aload_n 0, 1) := by decide +kernel
theorem dX9_isCounted_10 : decode cX9_isCounted 10 = .ok (.getfield 110, 3) := by decide +kernel
theorem dX9_isCounted_13 : decode cX9_isCounted 13 = .ok (.iload_n 1, 1) := by decide +kernel
theorem dX9_isCounted_14 : decode cX9_isCounted 14 = .ok (.baload, 1) := by decide +kernel
theorem dX9_isCounted_15 : decode cX9_isCounted 15 = .ok (.ifCond .eq 5, 3) := by decide +kernel
theorem dX9_isCounted_18 : decode cX9_isCounted 18 = .ok (.iconst 1, 1) := by decide +kernel
theorem dX9_isCounted_19 : decode cX9_isCounted 19 = .ok (.ireturn, 1) := by decide +kernel
theorem dX9_isCounted_20 : decode cX9_isCounted 20 = .ok (.aload_n 0, 1) := by decide +kernel
theorem dX9_isCounted_21 : decode cX9_isCounted 21 = .ok (.aload_n 0, 1) := by decide +kernel
theorem dX9_isCounted_22 : decode cX9_isCounted 22 = .ok (.iload_n 1, 1) := by decide +kernel
theorem dX9_isCounted_23 : decode cX9_isCounted 23 = .ok (.invokevirtual 204, 3) := by decide +kernel
theorem dX9_isCounted_26 : decode cX9_isCounted 26 = .ok (.invokevirtual 207, 3) := by decide +kernel
theorem dX9_isCounted_29 : decode cX9_isCounted 29 = .ok (.ifCond .ne 7, 3) := by decide +kernel
theorem dX9_isCounted_32 : decode cX9_isCounted 32 = .ok (.iconst 1, 1) := by decide +kernel
theorem dX9_isCounted_33 : decode cX9_isCounted 33 = .ok (.goto 4, 3) := by decide +kernel
theorem dX9_isCounted_36 : decode cX9_isCounted 36 = .ok (.iconst 0, 1) := by decide +kernel
theorem dX9_isCounted_37 : decode cX9_isCounted 37 = .ok (.ireturn, 1) := by decide +kernel
theorem dX9_cureOf_0 : decode cX9_cureOf 0 = .ok (.aload_n 0, 1) := by decide +kernel
theorem dX9_cureOf_1 : decode cX9_cureOf 1 = .ok (.getfield 101, 3) := by decide +kernel
theorem dX9_cureOf_4 : decode cX9_cureOf 4 = .ok (.iload_n 1, 1) := by decide +kernel
theorem dX9_cureOf_5 : decode cX9_cureOf 5 = .ok (.iaload, 1) := by decide +kernel
theorem dX9_cureOf_6 : decode cX9_cureOf 6 = .ok (.ifCond .ne 7, 3) := by decide +kernel
theorem dX9_cureOf_9 : decode cX9_cureOf 9 = .ok (.iconst (-1), 1) := by decide +kernel
theorem dX9_cureOf_10 : decode cX9_cureOf 10 = .ok (.goto 38, 3) := by decide +kernel
theorem dX9_cureOf_13 : decode cX9_cureOf 13 = .ok (.aload_n 0, 1) := by decide +kernel
theorem dX9_cureOf_14 : decode cX9_cureOf 14 = .ok (.aload_n 0, 1) := by decide +kernel
theorem dX9_cureOf_15 : decode cX9_cureOf 15 = .ok (.getfield 101, 3) := by decide +kernel
theorem dX9_cureOf_18 : decode cX9_cureOf 18 = .ok (.iload_n 1, 1) := by decide +kernel
theorem dX9_cureOf_19 : decode cX9_cureOf 19 = .ok (.iaload, 1) := by decide +kernel
theorem dX9_cureOf_20 : decode cX9_cureOf 20 = .ok (.iconst 1, 1) := by decide +kernel
theorem dX9_cureOf_21 : decode cX9_cureOf 21 = .ok (.isub, 1) := by decide +kernel
theorem dX9_cureOf_22 : decode cX9_cureOf 22 = .ok (.aload_n 0, 1) := by decide +kernel
theorem dX9_cureOf_23 : decode cX9_cureOf 23 = .ok (.getfield 104, 3) := by decide +kernel
theorem dX9_cureOf_26 : decode cX9_cureOf 26 = .ok (.iload_n 1, 1) := by decide +kernel
theorem dX9_cureOf_27 : decode cX9_cureOf 27 = .ok (.iaload, 1) := by decide +kernel
theorem dX9_cureOf_28 : decode cX9_cureOf 28 = .ok (.aload_n 0, 1) := by decide +kernel
theorem dX9_cureOf_29 : decode cX9_cureOf 29 = .ok (.getfield 107, 3) := by decide +kernel
theorem dX9_cureOf_32 : decode cX9_cureOf 32 = .ok (.iload_n 1, 1) := by decide +kernel
theorem dX9_cureOf_33 : decode cX9_cureOf 33 = .ok (.baload, 1) := by decide +kernel
theorem dX9_cureOf_34 : decode cX9_cureOf 34 = .ok (.aload_n 0, 1) := by decide +kernel
theorem dX9_cureOf_35 : decode cX9_cureOf 35 = .ok (.getfield 32, 3) := by decide +kernel
theorem dX9_cureOf_38 : decode cX9_cureOf 38 = .ok (.aload_n 0, 1) := by decide +kernel
theorem dX9_cureOf_39 : decode cX9_cureOf 39 = .ok (.getfield 71, 3) := by decide +kernel
theorem dX9_cureOf_42 : decode cX9_cureOf 42 = .ok (.iload_n 1, 1) := by decide +kernel
theorem dX9_cureOf_43 : decode cX9_cureOf 43 = .ok (.iaload, 1) := by decide +kernel
theorem dX9_cureOf_44 : decode cX9_cureOf 44 = .ok (.iaload, 1) := by decide +kernel
theorem dX9_cureOf_45 : decode cX9_cureOf 45 = .ok (.invokevirtual 210, 3) := by decide +kernel
theorem dX9_cureOf_48 : decode cX9_cureOf 48 = .ok (.ireturn, 1) := by decide +kernel
theorem dX9_isOpen_0 : decode cX9_isOpen 0 = .ok (.aload_n 0, 1) := by decide +kernel
theorem dX9_isOpen_1 : decode cX9_isOpen 1 = .ok (.iload_n 1, 1) := by decide +kernel
theorem dX9_isOpen_2 : decode cX9_isOpen 2 = .ok (.invokevirtual 214, 3) := by decide +kernel
theorem dX9_isOpen_5 : decode cX9_isOpen 5 = .ok (.istore_n 2, 1) := by decide +kernel
theorem dX9_isOpen_6 : decode cX9_isOpen 6 = .ok (.iconst 0, 1) := by decide +kernel
theorem dX9_isOpen_7 : decode cX9_isOpen 7 = .ok (.istore_n 3, 1) := by decide +kernel
theorem dX9_isOpen_8 : decode cX9_isOpen 8 = .ok (.iload_n 3, 1) := by decide +kernel
theorem dX9_isOpen_9 : decode cX9_isOpen 9 = .ok (.aload_n 0, 1) := by decide +kernel
theorem dX9_isOpen_10 : decode cX9_isOpen 10 = .ok (.getfield 171, 3) := by decide +kernel
theorem dX9_isOpen_13 : decode cX9_isOpen 13 = .ok (.if_icmp .ge 39, 3) := by decide +kernel
theorem dX9_isOpen_16 : decode cX9_isOpen 16 = .ok (.iload_n 2, 1) := by decide +kernel
theorem dX9_isOpen_17 : decode cX9_isOpen 17 = .ok (.ifCond .eq 35, 3) := by decide +kernel
theorem dX9_isOpen_20 : decode cX9_isOpen 20 = .ok (.aload_n 0, 1) := by decide +kernel
theorem dX9_isOpen_21 : decode cX9_isOpen 21 = .ok (.getfield 65, 3) := by decide +kernel
theorem dX9_isOpen_24 : decode cX9_isOpen 24 = .ok (.iload_n 3, 1) := by decide +kernel
theorem dX9_isOpen_25 : decode cX9_isOpen 25 = .ok (.iaload, 1) := by decide +kernel
theorem dX9_isOpen_26 : decode cX9_isOpen 26 = .ok (.iconst 4, 1) := by decide +kernel
theorem dX9_isOpen_27 : decode cX9_isOpen 27 = .ok (.if_icmp .ne 13, 3) := by decide +kernel
theorem dX9_isOpen_30 : decode cX9_isOpen 30 = .ok (.aload_n 0, 1) := by decide +kernel
theorem dX9_isOpen_31 : decode cX9_isOpen 31 = .ok (.getfield 77, 3) := by decide +kernel
theorem dX9_isOpen_34 : decode cX9_isOpen 34 = .ok (.iload_n 3, 1) := by decide +kernel
theorem dX9_isOpen_35 : decode cX9_isOpen 35 = .ok (.iaload, 1) := by decide +kernel
theorem dX9_isOpen_36 : decode cX9_isOpen 36 = .ok (.iload_n 1, 1) := by decide +kernel
theorem dX9_isOpen_37 : decode cX9_isOpen 37 = .ok (.if_icmp .eq 7, 3) := by decide +kernel
theorem dX9_isOpen_40 : decode cX9_isOpen 40 = .ok (.iconst 1, 1) := by decide +kernel
theorem dX9_isOpen_41 : decode cX9_isOpen 41 = .ok (.goto 4, 3) := by decide +kernel
theorem dX9_isOpen_44 : decode cX9_isOpen 44 = .ok (.iconst 0, 1) := by decide +kernel
theorem dX9_isOpen_45 : decode cX9_isOpen 45 = .ok (.istore_n 2, 1) := by decide +kernel
theorem dX9_isOpen_46 : decode cX9_isOpen 46 = .ok (.iinc 3 1, 3) := by decide +kernel
theorem dX9_isOpen_49 : decode cX9_isOpen 49 = .ok (.goto (-41), 3) := by decide +kernel
theorem dX9_isOpen_52 : decode cX9_isOpen 52 = .ok (.iload_n 2, 1) := by decide +kernel
theorem dX9_isOpen_53 : decode cX9_isOpen 53 = .ok (.ireturn, 1) := by decide +kernel
theorem dX9_hasOpenMotion_0 : decode cX9_hasOpenMotion 0 = .ok (.iconst 0, 1) := by decide +kernel
theorem dX9_hasOpenMotion_1 : decode cX9_hasOpenMotion 1 = .ok (.istore_n 2, 1) := by decide +kernel
theorem dX9_hasOpenMotion_2 : decode cX9_hasOpenMotion 2 = .ok (.iconst 0, 1) := by decide +kernel
theorem dX9_hasOpenMotion_3 : decode cX9_hasOpenMotion 3 = .ok (.istore_n 3, 1) := by decide +kernel
theorem dX9_hasOpenMotion_4 : decode cX9_hasOpenMotion 4 = .ok (.iload_n 3, 1) := by decide +kernel
theorem dX9_hasOpenMotion_5 : decode cX9_hasOpenMotion 5 = .ok (.aload_n 0, 1) := by decide +kernel
theorem dX9_hasOpenMotion_6 : decode cX9_hasOpenMotion 6 = .ok (.getfield 171, 3) := by decide +kernel
theorem dX9_hasOpenMotion_9 : decode cX9_hasOpenMotion 9 = .ok (.if_icmp .ge 47, 3) := by decide +kernel
theorem dX9_hasOpenMotion_12 : decode cX9_hasOpenMotion 12 = .ok (.iload_n 2, 1) := by decide +kernel
theorem dX9_hasOpenMotion_13 : decode cX9_hasOpenMotion 13 = .ok (.ifCond .ne 43, 3) := by decide +kernel
theorem dX9_hasOpenMotion_16 : decode cX9_hasOpenMotion 16 = .ok (.aload_n 0, 1) := by decide +kernel
theorem dX9_hasOpenMotion_17 : decode cX9_hasOpenMotion 17 = .ok (.getfield 65, 3) := by decide +kernel
theorem dX9_hasOpenMotion_20 : decode cX9_hasOpenMotion 20 = .ok (.iload_n 3, 1) := by decide +kernel
theorem dX9_hasOpenMotion_21 : decode cX9_hasOpenMotion 21 = .ok (.iaload, 1) := by decide +kernel
theorem dX9_hasOpenMotion_22 : decode cX9_hasOpenMotion 22 = .ok (.iconst 2, 1) := by decide +kernel
theorem dX9_hasOpenMotion_23 : decode cX9_hasOpenMotion 23 = .ok (.if_icmp .ne 25, 3) := by decide +kernel
theorem dX9_hasOpenMotion_26 : decode cX9_hasOpenMotion 26 = .ok (.aload_n 0, 1) := by decide +kernel
theorem dX9_hasOpenMotion_27 : decode cX9_hasOpenMotion 27 = .ok (.getfield 71, 3) := by decide +kernel
theorem dX9_hasOpenMotion_30 : decode cX9_hasOpenMotion 30 = .ok (.iload_n 3, 1) := by decide +kernel
theorem dX9_hasOpenMotion_31 : decode cX9_hasOpenMotion 31 = .ok (.iaload, 1) := by decide +kernel
theorem dX9_hasOpenMotion_32 : decode cX9_hasOpenMotion 32 = .ok (.iload_n 1, 1) := by decide +kernel
theorem dX9_hasOpenMotion_33 : decode cX9_hasOpenMotion 33 = .ok (.if_icmp .ne 15, 3) := by decide +kernel
theorem dX9_hasOpenMotion_36 : decode cX9_hasOpenMotion 36 = .ok (.aload_n 0, 1) := by decide +kernel
theorem dX9_hasOpenMotion_37 : decode cX9_hasOpenMotion 37 = .ok (.iload_n 3, 1) := by decide +kernel
theorem dX9_hasOpenMotion_38 : decode cX9_hasOpenMotion 38 = .ok (.invokevirtual 217, 3) := by decide +kernel
theorem dX9_hasOpenMotion_41 : decode cX9_hasOpenMotion 41 = .ok (.ifCond .eq 7, 3) := by decide +kernel
theorem dX9_hasOpenMotion_44 : decode cX9_hasOpenMotion 44 = .ok (.iconst 1, 1) := by decide +kernel
theorem dX9_hasOpenMotion_45 : decode cX9_hasOpenMotion 45 = .ok (.goto 4, 3) := by decide +kernel
theorem dX9_hasOpenMotion_48 : decode cX9_hasOpenMotion 48 = .ok (.iconst 0, 1) := by decide +kernel
theorem dX9_hasOpenMotion_49 : decode cX9_hasOpenMotion 49 = .ok (.istore_n 2, 1) := by decide +kernel
theorem dX9_hasOpenMotion_50 : decode cX9_hasOpenMotion 50 = .ok (.iinc 3 1, 3) := by decide +kernel
theorem dX9_hasOpenMotion_53 : decode cX9_hasOpenMotion 53 = .ok (.goto (-49), 3) := by decide +kernel
theorem dX9_hasOpenMotion_56 : decode cX9_hasOpenMotion 56 = .ok (.iload_n 2, 1) := by decide +kernel
theorem dX9_hasOpenMotion_57 : decode cX9_hasOpenMotion 57 = .ok (.ireturn, 1) := by decide +kernel
theorem dX9_answered_0 : decode cX9_answered 0 = .ok (.iconst 0, 1) := by decide +kernel
theorem dX9_answered_1 : decode cX9_answered 1 = .ok (.istore_n 2, 1) := by decide +kernel
theorem dX9_answered_2 : decode cX9_answered 2 = .ok (.iconst 0, 1) := by decide +kernel
theorem dX9_answered_3 : decode cX9_answered 3 = .ok (.istore_n 3, 1) := by decide +kernel
theorem dX9_answered_4 : decode cX9_answered 4 = .ok (.iload_n 3, 1) := by decide +kernel
theorem dX9_answered_5 : decode cX9_answered 5 = .ok (.aload_n 0, 1) := by decide +kernel
theorem dX9_answered_6 : decode cX9_answered 6 = .ok (.getfield 171, 3) := by decide +kernel
theorem dX9_answered_9 : decode cX9_answered 9 = .ok (.if_icmp .ge 47, 3) := by decide +kernel
theorem dX9_answered_12 : decode cX9_answered 12 = .ok (.iload_n 2, 1) := by decide +kernel
theorem dX9_answered_13 : decode cX9_answered 13 = .ok (.ifCond .ne 43, 3) := by decide +kernel
theorem dX9_answered_16 : decode cX9_answered 16 = .ok (.aload_n 0, 1) := by decide +kernel
theorem dX9_answered_17 : decode cX9_answered 17 = .ok (.getfield 65, 3) := by decide +kernel
theorem dX9_answered_20 : decode cX9_answered 20 = .ok (.iload_n 3, 1) := by decide +kernel
theorem dX9_answered_21 : decode cX9_answered 21 = .ok (.iaload, 1) := by decide +kernel
theorem dX9_answered_22 : decode cX9_answered 22 = .ok (.iconst 1, 1) := by decide +kernel
theorem dX9_answered_23 : decode cX9_answered 23 = .ok (.if_icmp .ne 25, 3) := by decide +kernel
theorem dX9_answered_26 : decode cX9_answered 26 = .ok (.aload_n 0, 1) := by decide +kernel
theorem dX9_answered_27 : decode cX9_answered 27 = .ok (.getfield 71, 3) := by decide +kernel
theorem dX9_answered_30 : decode cX9_answered 30 = .ok (.iload_n 3, 1) := by decide +kernel
theorem dX9_answered_31 : decode cX9_answered 31 = .ok (.iaload, 1) := by decide +kernel
theorem dX9_answered_32 : decode cX9_answered 32 = .ok (.iload_n 1, 1) := by decide +kernel
theorem dX9_answered_33 : decode cX9_answered 33 = .ok (.if_icmp .ne 15, 3) := by decide +kernel
theorem dX9_answered_36 : decode cX9_answered 36 = .ok (.aload_n 0, 1) := by decide +kernel
theorem dX9_answered_37 : decode cX9_answered 37 = .ok (.iload_n 3, 1) := by decide +kernel
theorem dX9_answered_38 : decode cX9_answered 38 = .ok (.invokevirtual 214, 3) := by decide +kernel
theorem dX9_answered_41 : decode cX9_answered 41 = .ok (.ifCond .eq 7, 3) := by decide +kernel
theorem dX9_answered_44 : decode cX9_answered 44 = .ok (.iconst 1, 1) := by decide +kernel
theorem dX9_answered_45 : decode cX9_answered 45 = .ok (.goto 4, 3) := by decide +kernel
theorem dX9_answered_48 : decode cX9_answered 48 = .ok (.iconst 0, 1) := by decide +kernel
theorem dX9_answered_49 : decode cX9_answered 49 = .ok (.istore_n 2, 1) := by decide +kernel
theorem dX9_answered_50 : decode cX9_answered 50 = .ok (.iinc 3 1, 3) := by decide +kernel
theorem dX9_answered_53 : decode cX9_answered 53 = .ok (.goto (-49), 3) := by decide +kernel
theorem dX9_answered_56 : decode cX9_answered 56 = .ok (.iload_n 2, 1) := by decide +kernel
theorem dX9_answered_57 : decode cX9_answered 57 = .ok (.ireturn, 1) := by decide +kernel
theorem dX9_answerFrom_0 : decode cX9_answerFrom 0 = .ok (.aload_n 0, 1) := by decide +kernel
theorem dX9_answerFrom_1 : decode cX9_answerFrom 1 = .ok (.iload_n 1, 1) := by decide +kernel
theorem dX9_answerFrom_2 : decode cX9_answerFrom 2 = .ok (.iconst 0, 1) := by decide +kernel
theorem dX9_answerFrom_3 : decode cX9_answerFrom 3 = .ok (.invokevirtual 220, 3) := by decide +kernel
theorem dX9_answerFrom_6 : decode cX9_answerFrom 6 = .ok (.istore_n 2, 1) := by decide +kernel
theorem dX9_answerFrom_7 : decode cX9_answerFrom 7 = .ok (.iconst 0, 1) := by decide +kernel
theorem dX9_answerFrom_8 : decode cX9_answerFrom 8 = .ok (.istore_n 3, 1) := by decide +kernel
theorem dX9_answerFrom_9 : decode cX9_answerFrom 9 = .ok (.iload_n 3, 1) := by decide +kernel
theorem dX9_answerFrom_10 : decode cX9_answerFrom 10 = .ok (.aload_n 0, 1) := by decide +kernel
theorem dX9_answerFrom_11 : decode cX9_answerFrom 11 = .ok (.getfield 171, 3) := by decide +kernel
theorem dX9_answerFrom_14 : decode cX9_answerFrom 14 = .ok (.if_icmp .ge 94, 3) := by decide +kernel
theorem dX9_answerFrom_17 : decode cX9_answerFrom 17 = .ok (.aload_n 0, 1) := by decide +kernel
theorem dX9_answerFrom_18 : decode cX9_answerFrom 18 = .ok (.getfield 65, 3) := by decide +kernel
theorem dX9_answerFrom_21 : decode cX9_answerFrom 21 = .ok (.iload_n 3, 1) := by decide +kernel
theorem dX9_answerFrom_22 : decode cX9_answerFrom 22 = .ok (.iaload, 1) := by decide +kernel
theorem dX9_answerFrom_23 : decode cX9_answerFrom 23 = .ok (.iconst 4, 1) := by decide +kernel
theorem dX9_answerFrom_24 : decode cX9_answerFrom 24 = .ok (.if_icmp .ne 16, 3) := by decide +kernel
theorem dX9_answerFrom_27 : decode cX9_answerFrom 27 = .ok (.aload_n 0, 1) := by decide +kernel
theorem dX9_answerFrom_28 : decode cX9_answerFrom 28 = .ok (.getfield 74, 3) := by decide +kernel
theorem dX9_answerFrom_31 : decode cX9_answerFrom 31 = .ok (.iload_n 3, 1) := by decide +kernel
theorem dX9_answerFrom_32 : decode cX9_answerFrom 32 = .ok (.iaload, 1) := by decide +kernel
theorem dX9_answerFrom_33 : decode cX9_answerFrom 33 = .ok (.ifCond .eq 7, 3) := by decide +kernel
theorem dX9_answerFrom_36 : decode cX9_answerFrom 36 = .ok (.iconst 1, 1) := by decide +kernel
theorem dX9_answerFrom_37 : decode cX9_answerFrom 37 = .ok (.goto 4, 3) := by decide +kernel
theorem dX9_answerFrom_40 : decode cX9_answerFrom 40 = .ok (.iconst 0, 1) := by decide +kernel
theorem dX9_answerFrom_41 : decode cX9_answerFrom 41 = .ok (.istore 4, 2) := by decide +kernel
theorem dX9_answerFrom_43 : decode cX9_answerFrom 43 = .ok (.aload_n 0, 1) := by decide +kernel
theorem dX9_answerFrom_44 : decode cX9_answerFrom 44 = .ok (.getfield 65, 3) := by decide +kernel
theorem dX9_answerFrom_47 : decode cX9_answerFrom 47 = .ok (.iload_n 3, 1) := by decide +kernel
theorem dX9_answerFrom_48 : decode cX9_answerFrom 48 = .ok (.iaload, 1) := by decide +kernel
theorem dX9_answerFrom_49 : decode cX9_answerFrom 49 = .ok (.bipush 6, 2) := by decide +kernel
theorem dX9_answerFrom_51 : decode cX9_answerFrom 51 = .ok (.if_icmp .ne 22, 3) := by decide +kernel
theorem dX9_answerFrom_54 : decode cX9_answerFrom 54 = .ok (.aload_n 0, 1) := by decide +kernel
theorem dX9_answerFrom_55 : decode cX9_answerFrom 55 = .ok (.getfield 65, 3) := by decide +kernel
theorem dX9_answerFrom_58 : decode cX9_answerFrom 58 = .ok (.aload_n 0, 1) := by decide +kernel
theorem dX9_answerFrom_59 : decode cX9_answerFrom 59 = .ok (.getfield 74, 3) := by decide +kernel
theorem dX9_answerFrom_62 : decode cX9_answerFrom 62 = .ok (.iload_n 3, 1) := by decide +kernel
theorem dX9_answerFrom_63 : decode cX9_answerFrom 63 = .ok (.iaload, 1) := by decide +kernel
theorem dX9_answerFrom_64 : decode cX9_answerFrom 64 = .ok (.iaload, 1) := by decide +kernel
theorem dX9_answerFrom_65 : decode cX9_answerFrom 65 = .ok (.iconst 4, 1) := by decide +kernel
theorem dX9_answerFrom_66 : decode cX9_answerFrom 66 = .ok (.if_icmp .ne 7, 3) := by decide +kernel
theorem dX9_answerFrom_69 : decode cX9_answerFrom 69 = .ok (.iconst 1, 1) := by decide +kernel
theorem dX9_answerFrom_70 : decode cX9_answerFrom 70 = .ok (.goto 4, 3) := by decide +kernel
theorem dX9_answerFrom_73 : decode cX9_answerFrom 73 = .ok (.iconst 0, 1) := by decide +kernel
theorem dX9_answerFrom_74 : decode cX9_answerFrom 74 = .ok (.istore 5, 2) := by decide +kernel
theorem dX9_answerFrom_76 : decode cX9_answerFrom 76 = .ok (.aload_n 0, 1) := by decide +kernel
theorem dX9_answerFrom_77 : decode cX9_answerFrom 77 = .ok (.getfield 71, 3) := by decide +kernel
theorem dX9_answerFrom_80 : decode cX9_answerFrom 80 = .ok (.iload_n 3, 1) := by decide +kernel
theorem dX9_answerFrom_81 : decode cX9_answerFrom 81 = .ok (.iaload, 1) := by decide +kernel
theorem dX9_answerFrom_82 : decode cX9_answerFrom 82 = .ok (.iload_n 1, 1) := by decide +kernel
theorem dX9_answerFrom_83 : decode cX9_answerFrom 83 = .ok (.if_icmp .ne 17, 3) := by decide +kernel
theorem dX9_answerFrom_86 : decode cX9_answerFrom 86 = .ok (.iload 4, 2) := by decide +kernel
theorem dX9_answerFrom_88 : decode cX9_answerFrom 88 = .ok (.ifCond .ne 8, 3) := by decide +kernel
theorem dX9_answerFrom_91 : decode cX9_answerFrom 91 = .ok (.iload 5, 2) := by decide +kernel
theorem dX9_answerFrom_93 : decode cX9_answerFrom 93 = .ok (.ifCond .eq 7, 3) := by decide +kernel
theorem dX9_answerFrom_96 : decode cX9_answerFrom 96 = .ok (.iload_n 3, 1) := by decide +kernel
theorem dX9_answerFrom_97 : decode cX9_answerFrom 97 = .ok (.goto 4, 3) := by decide +kernel
theorem dX9_answerFrom_100 : decode cX9_answerFrom 100 = .ok (.iload_n 2, 1) := by decide +kernel
theorem dX9_answerFrom_101 : decode cX9_answerFrom 101 = .ok (.istore_n 2, 1) := by decide +kernel
theorem dX9_answerFrom_102 : decode cX9_answerFrom 102 = .ok (.iinc 3 1, 3) := by decide +kernel
theorem dX9_answerFrom_105 : decode cX9_answerFrom 105 = .ok (.goto (-96), 3) := by decide +kernel
theorem dX9_answerFrom_108 : decode cX9_answerFrom 108 = .ok (.iload_n 2, 1) := by decide +kernel
theorem dX9_answerFrom_109 : decode cX9_answerFrom 109 = .ok (.ireturn, 1) := by decide +kernel
theorem dX9_answerDue_0 : decode cX9_answerDue 0 = .ok (.aload_n 0, 1) := by decide +kernel
theorem dX9_answerDue_1 : decode cX9_answerDue 1 = .ok (.iload_n 1, 1) := by decide +kernel
theorem dX9_answerDue_2 : decode cX9_answerDue 2 = .ok (.invokevirtual 224, 3) := by decide +kernel
theorem dX9_answerDue_5 : decode cX9_answerDue 5 = .ok (.istore_n 2, 1) := by decide +kernel
theorem dX9_answerDue_6 : decode cX9_answerDue 6 = .ok (.iload_n 2, 1) := by decide +kernel
theorem dX9_answerDue_7 : decode cX9_answerDue 7 = .ok (.iconst (-1), 1) := by decide +kernel
theorem dX9_answerDue_8 : decode cX9_answerDue 8 = .ok (.if_icmp .eq 11, 3) := by decide +kernel
theorem dX9_answerDue_11 : decode cX9_answerDue 11 = .ok (.aload_n 0, 1) := by decide +kernel
theorem dX9_answerDue_12 : decode cX9_answerDue 12 = .ok (.iload_n 1, 1) := by decide +kernel
theorem dX9_answerDue_13 : decode cX9_answerDue 13 = .ok (.invokevirtual 227, 3) := by decide +kernel
theorem dX9_answerDue_16 : decode cX9_answerDue 16 = .ok (.ifCond .eq 5, 3) := by decide +kernel
theorem dX9_answerDue_19 : decode cX9_answerDue 19 = .ok (.iconst (-1), 1) := by decide +kernel
theorem dX9_answerDue_20 : decode cX9_answerDue 20 = .ok (.ireturn, 1) := by decide +kernel
theorem dX9_answerDue_21 : decode cX9_answerDue 21 = .ok (.aload_n 0, 1) := by decide +kernel
theorem dX9_answerDue_22 : decode cX9_answerDue 22 = .ok (.getfield 65, 3) := by decide +kernel
theorem dX9_answerDue_25 : decode cX9_answerDue 25 = .ok (.iload_n 2, 1) := by decide +kernel
theorem dX9_answerDue_26 : decode cX9_answerDue 26 = .ok (.iaload, 1) := by decide +kernel
theorem dX9_answerDue_27 : decode cX9_answerDue 27 = .ok (.ifCond .ne 12, 3) := by decide +kernel
theorem dX9_answerDue_30 : decode cX9_answerDue 30 = .ok (.aload_n 0, 1) := by decide +kernel
theorem dX9_answerDue_31 : decode cX9_answerDue 31 = .ok (.getfield 74, 3) := by decide +kernel
theorem dX9_answerDue_34 : decode cX9_answerDue 34 = .ok (.iload_n 2, 1) := by decide +kernel
theorem dX9_answerDue_35 : decode cX9_answerDue 35 = .ok (.iaload, 1) := by decide +kernel
theorem dX9_answerDue_36 : decode cX9_answerDue 36 = .ok (.goto 4, 3) := by decide +kernel
theorem dX9_answerDue_39 : decode cX9_answerDue 39 = .ok (.iconst 0, 1) := by decide +kernel
theorem dX9_answerDue_40 : decode cX9_answerDue 40 = .ok (.istore_n 3, 1) := by decide +kernel
theorem dX9_answerDue_41 : decode cX9_answerDue 41 = .ok (.aload_n 0, 1) := by decide +kernel
theorem dX9_answerDue_42 : decode cX9_answerDue 42 = .ok (.getfield 80, 3) := by decide +kernel
theorem dX9_answerDue_45 : decode cX9_answerDue 45 = .ok (.iload_n 2, 1) := by decide +kernel
theorem dX9_answerDue_46 : decode cX9_answerDue 46 = .ok (.iaload, 1) := by decide +kernel
theorem dX9_answerDue_47 : decode cX9_answerDue 47 = .ok (.iload_n 3, 1) := by decide +kernel
theorem dX9_answerDue_48 : decode cX9_answerDue 48 = .ok (.iconst 1, 1) := by decide +kernel
theorem dX9_answerDue_49 : decode cX9_answerDue 49 = .ok (.if_icmp .ne 7, 3) := by decide +kernel
theorem dX9_answerDue_52 : decode cX9_answerDue 52 = .ok (.iconst 3, 1) := by decide +kernel
theorem dX9_answerDue_53 : decode cX9_answerDue 53 = .ok (.goto 14, 3) := by decide +kernel
theorem dX9_answerDue_56 : decode cX9_answerDue 56 = .ok (.iload_n 3, 1) := by decide +kernel
theorem dX9_answerDue_57 : decode cX9_answerDue 57 = .ok (.iconst 2, 1) := by decide +kernel
theorem dX9_answerDue_58 : decode cX9_answerDue 58 = .ok (.if_icmp .ne 8, 3) := by decide +kernel
theorem dX9_answerDue_61 : decode cX9_answerDue 61 = .ok (.bipush 7, 2) := by decide +kernel
theorem dX9_answerDue_63 : decode cX9_answerDue 63 = .ok (.goto 4, 3) := by decide +kernel
theorem dX9_answerDue_66 : decode cX9_answerDue 66 = .ok (.iconst 0, 1) := by decide +kernel
theorem dX9_answerDue_67 : decode cX9_answerDue 67 = .ok (.iadd, 1) := by decide +kernel
theorem dX9_answerDue_68 : decode cX9_answerDue 68 = .ok (.aload_n 0, 1) := by decide +kernel
theorem dX9_answerDue_69 : decode cX9_answerDue 69 = .ok (.getfield 56, 3) := by decide +kernel
theorem dX9_answerDue_72 : decode cX9_answerDue 72 = .ok (.iload_n 1, 1) := by decide +kernel
theorem dX9_answerDue_73 : decode cX9_answerDue 73 = .ok (.iaload, 1) := by decide +kernel
theorem dX9_answerDue_74 : decode cX9_answerDue 74 = .ok (.iload_n 2, 1) := by decide +kernel
theorem dX9_answerDue_75 : decode cX9_answerDue 75 = .ok (.if_icmp .ne 12, 3) := by decide +kernel
theorem dX9_answerDue_78 : decode cX9_answerDue 78 = .ok (.aload_n 0, 1) := by decide +kernel
theorem dX9_answerDue_79 : decode cX9_answerDue 79 = .ok (.getfield 53, 3) := by decide +kernel
theorem dX9_answerDue_82 : decode cX9_answerDue 82 = .ok (.iload_n 1, 1) := by decide +kernel
theorem dX9_answerDue_83 : decode cX9_answerDue 83 = .ok (.iaload, 1) := by decide +kernel
theorem dX9_answerDue_84 : decode cX9_answerDue 84 = .ok (.goto 4, 3) := by decide +kernel
theorem dX9_answerDue_87 : decode cX9_answerDue 87 = .ok (.iconst 0, 1) := by decide +kernel
theorem dX9_answerDue_88 : decode cX9_answerDue 88 = .ok (.iadd, 1) := by decide +kernel
theorem dX9_answerDue_89 : decode cX9_answerDue 89 = .ok (.istore 4, 2) := by decide +kernel
theorem dX9_answerDue_91 : decode cX9_answerDue 91 = .ok (.aload_n 0, 1) := by decide +kernel
theorem dX9_answerDue_92 : decode cX9_answerDue 92 = .ok (.aload_n 0, 1) := by decide +kernel
theorem dX9_answerDue_93 : decode cX9_answerDue 93 = .ok (.getfield 68, 3) := by decide +kernel
theorem dX9_answerDue_96 : decode cX9_answerDue 96 = .ok (.iload_n 2, 1) := by decide +kernel
theorem dX9_answerDue_97 : decode cX9_answerDue 97 = .ok (.iaload, 1) := by decide +kernel
theorem dX9_answerDue_98 : decode cX9_answerDue 98 = .ok (.iload 4, 2) := by decide +kernel
theorem dX9_answerDue_100 : decode cX9_answerDue 100 = .ok (.aload_n 0, 1) := by decide +kernel
theorem dX9_answerDue_101 : decode cX9_answerDue 101 = .ok (.getfield 83, 3) := by decide +kernel
theorem dX9_answerDue_104 : decode cX9_answerDue 104 = .ok (.iload_n 2, 1) := by decide +kernel
theorem dX9_answerDue_105 : decode cX9_answerDue 105 = .ok (.baload, 1) := by decide +kernel
theorem dX9_answerDue_106 : decode cX9_answerDue 106 = .ok (.aload_n 0, 1) := by decide +kernel
theorem dX9_answerDue_107 : decode cX9_answerDue 107 = .ok (.getfield 32, 3) := by decide +kernel
theorem dX9_answerDue_110 : decode cX9_answerDue 110 = .ok (.iload_n 1, 1) := by decide +kernel
theorem dX9_answerDue_111 : decode cX9_answerDue 111 = .ok (.iaload, 1) := by decide +kernel
theorem dX9_answerDue_112 : decode cX9_answerDue 112 = .ok (.invokevirtual 210, 3) := by decide +kernel
theorem dX9_answerDue_115 : decode cX9_answerDue 115 = .ok (.ireturn, 1) := by decide +kernel
theorem dX9_responseDue_0 : decode cX9_responseDue 0 = .ok (.aload_n 0, 1) := by decide +kernel
theorem dX9_responseDue_1 : decode cX9_responseDue 1 = .ok (.aload_n 0, 1) := by decide +kernel
theorem dX9_responseDue_2 : decode cX9_responseDue 2 = .ok (.getfield 68, 3) := by decide +kernel
theorem dX9_responseDue_5 : decode cX9_responseDue 5 = .ok (.iload_n 1, 1) := by decide +kernel
theorem dX9_responseDue_6 : decode cX9_responseDue 6 = .ok (.iaload, 1) := by decide +kernel
theorem dX9_responseDue_7 : decode cX9_responseDue 7 = .ok (.aload_n 0, 1) := by decide +kernel
theorem dX9_responseDue_8 : decode cX9_responseDue 8 = .ok (.getfield 80, 3) := by decide +kernel
theorem dX9_responseDue_11 : decode cX9_responseDue 11 = .ok (.iload_n 1, 1) := by decide +kernel
theorem dX9_responseDue_12 : decode cX9_responseDue 12 = .ok (.iaload, 1) := by decide +kernel
theorem dX9_responseDue_13 : decode cX9_responseDue 13 = .ok (.aload_n 0, 1) := by decide +kernel
theorem dX9_responseDue_14 : decode cX9_responseDue 14 = .ok (.getfield 98, 3) := by decide +kernel
theorem dX9_responseDue_17 : decode cX9_responseDue 17 = .ok (.iload_n 1, 1) := by decide +kernel
theorem dX9_responseDue_18 : decode cX9_responseDue 18 = .ok (.iaload, 1) := by decide +kernel
theorem dX9_responseDue_19 : decode cX9_responseDue 19 = .ok (.iadd, 1) := by decide +kernel
theorem dX9_responseDue_20 : decode cX9_responseDue 20 = .ok (.aload_n 0, 1) := by decide +kernel
theorem dX9_responseDue_21 : decode cX9_responseDue 21 = .ok (.getfield 83, 3) := by decide +kernel
theorem dX9_responseDue_24 : decode cX9_responseDue 24 = .ok (.iload_n 1, 1) := by decide +kernel
theorem dX9_responseDue_25 : decode cX9_responseDue 25 = .ok (.baload, 1) := by decide +kernel
theorem dX9_responseDue_26 : decode cX9_responseDue 26 = .ok (.aload_n 0, 1) := by decide +kernel
theorem dX9_responseDue_27 : decode cX9_responseDue 27 = .ok (.getfield 32, 3) := by decide +kernel
theorem dX9_responseDue_30 : decode cX9_responseDue 30 = .ok (.aload_n 0, 1) := by decide +kernel
theorem dX9_responseDue_31 : decode cX9_responseDue 31 = .ok (.getfield 71, 3) := by decide +kernel
theorem dX9_responseDue_34 : decode cX9_responseDue 34 = .ok (.iload_n 1, 1) := by decide +kernel
theorem dX9_responseDue_35 : decode cX9_responseDue 35 = .ok (.iaload, 1) := by decide +kernel
theorem dX9_responseDue_36 : decode cX9_responseDue 36 = .ok (.iaload, 1) := by decide +kernel
theorem dX9_responseDue_37 : decode cX9_responseDue 37 = .ok (.invokevirtual 210, 3) := by decide +kernel
theorem dX9_responseDue_40 : decode cX9_responseDue 40 = .ok (.ireturn, 1) := by decide +kernel
theorem dX9_appealFrom_0 : decode cX9_appealFrom 0 = .ok (.aload_n 0, 1) := by decide +kernel
theorem dX9_appealFrom_1 : decode cX9_appealFrom 1 = .ok (.iload_n 1, 1) := by decide +kernel
theorem dX9_appealFrom_2 : decode cX9_appealFrom 2 = .ok (.iconst 5, 1) := by decide +kernel
theorem dX9_appealFrom_3 : decode cX9_appealFrom 3 = .ok (.invokevirtual 220, 3) := by decide +kernel
theorem dX9_appealFrom_6 : decode cX9_appealFrom 6 = .ok (.istore_n 2, 1) := by decide +kernel
theorem dX9_appealFrom_7 : decode cX9_appealFrom 7 = .ok (.aload_n 0, 1) := by decide +kernel
theorem dX9_appealFrom_8 : decode cX9_appealFrom 8 = .ok (.iload_n 1, 1) := by decide +kernel
theorem dX9_appealFrom_9 : decode cX9_appealFrom 9 = .ok (.bipush 8, 2) := by decide +kernel
theorem dX9_appealFrom_11 : decode cX9_appealFrom 11 = .ok (.invokevirtual 220, 3) := by decide +kernel
theorem dX9_appealFrom_14 : decode cX9_appealFrom 14 = .ok (.istore_n 3, 1) := by decide +kernel
theorem dX9_appealFrom_15 : decode cX9_appealFrom 15 = .ok (.aload_n 0, 1) := by decide +kernel
theorem dX9_appealFrom_16 : decode cX9_appealFrom 16 = .ok (.getfield 41, 3) := by decide +kernel
theorem dX9_appealFrom_19 : decode cX9_appealFrom 19 = .ok (.iload_n 1, 1) := by decide +kernel
theorem dX9_appealFrom_20 : decode cX9_appealFrom 20 = .ok (.iaload, 1) := by decide +kernel
theorem dX9_appealFrom_21 : decode cX9_appealFrom 21 = .ok (.iconst 2, 1) := by decide +kernel
theorem dX9_appealFrom_22 : decode cX9_appealFrom 22 = .ok (.if_icmp .eq 7, 3) := by decide +kernel
theorem dX9_appealFrom_25 : decode cX9_appealFrom 25 = .ok (.iconst (-1), 1) := by decide +kernel
theorem dX9_appealFrom_26 : decode cX9_appealFrom 26 = .ok (.goto 13, 3) := by decide +kernel
theorem dX9_appealFrom_29 : decode cX9_appealFrom 29 = .ok (.iload_n 2, 1) := by decide +kernel
theorem dX9_appealFrom_30 : decode cX9_appealFrom 30 = .ok (.iload_n 3, 1) := by decide +kernel
theorem dX9_appealFrom_31 : decode cX9_appealFrom 31 = .ok (.if_icmp .le 7, 3) := by decide +kernel
theorem dX9_appealFrom_34 : decode cX9_appealFrom 34 = .ok (.iload_n 2, 1) := by decide +kernel
theorem dX9_appealFrom_35 : decode cX9_appealFrom 35 = .ok (.goto 4, 3) := by decide +kernel
theorem dX9_appealFrom_38 : decode cX9_appealFrom 38 = .ok (.iload_n 3, 1) := by decide +kernel
theorem dX9_appealFrom_39 : decode cX9_appealFrom 39 = .ok (.ireturn, 1) := by decide +kernel
theorem dX9_appealDue_0 : decode cX9_appealDue 0 = .ok (.aload_n 0, 1) := by decide +kernel
theorem dX9_appealDue_1 : decode cX9_appealDue 1 = .ok (.iload_n 1, 1) := by decide +kernel
theorem dX9_appealDue_2 : decode cX9_appealDue 2 = .ok (.invokevirtual 230, 3) := by decide +kernel
theorem dX9_appealDue_5 : decode cX9_appealDue 5 = .ok (.istore_n 2, 1) := by decide +kernel
theorem dX9_appealDue_6 : decode cX9_appealDue 6 = .ok (.iload_n 2, 1) := by decide +kernel
theorem dX9_appealDue_7 : decode cX9_appealDue 7 = .ok (.iconst (-1), 1) := by decide +kernel
theorem dX9_appealDue_8 : decode cX9_appealDue 8 = .ok (.if_icmp .ne 5, 3) := by decide +kernel
theorem dX9_appealDue_11 : decode cX9_appealDue 11 = .ok (.iconst (-1), 1) := by decide +kernel
theorem dX9_appealDue_12 : decode cX9_appealDue 12 = .ok (.ireturn, 1) := by decide +kernel
theorem dX9_appealDue_13 : decode cX9_appealDue 13 = .ok (.aload_n 0, 1) := by decide +kernel
theorem dX9_appealDue_14 : decode cX9_appealDue 14 = .ok (.getfield 80, 3) := by decide +kernel
theorem dX9_appealDue_17 : decode cX9_appealDue 17 = .ok (.iload_n 2, 1) := by decide +kernel
theorem dX9_appealDue_18 : decode cX9_appealDue 18 = .ok (.iaload, 1) := by decide +kernel
theorem dX9_appealDue_19 : decode cX9_appealDue 19 = .ok (.aload_n 0, 1) := by decide +kernel
theorem dX9_appealDue_20 : decode cX9_appealDue 20 = .ok (.getfield 62, 3) := by decide +kernel
theorem dX9_appealDue_23 : decode cX9_appealDue 23 = .ok (.iload_n 1, 1) := by decide +kernel
theorem dX9_appealDue_24 : decode cX9_appealDue 24 = .ok (.iaload, 1) := by decide +kernel
theorem dX9_appealDue_25 : decode cX9_appealDue 25 = .ok (.iload_n 2, 1) := by decide +kernel
theorem dX9_appealDue_26 : decode cX9_appealDue 26 = .ok (.if_icmp .ne 12, 3) := by decide +kernel
theorem dX9_appealDue_29 : decode cX9_appealDue 29 = .ok (.aload_n 0, 1) := by decide +kernel
theorem dX9_appealDue_30 : decode cX9_appealDue 30 = .ok (.getfield 59, 3) := by decide +kernel
theorem dX9_appealDue_33 : decode cX9_appealDue 33 = .ok (.iload_n 1, 1) := by decide +kernel
theorem dX9_appealDue_34 : decode cX9_appealDue 34 = .ok (.iaload, 1) := by decide +kernel
theorem dX9_appealDue_35 : decode cX9_appealDue 35 = .ok (.goto 4, 3) := by decide +kernel
theorem dX9_appealDue_38 : decode cX9_appealDue 38 = .ok (.iconst 0, 1) := by decide +kernel
theorem dX9_appealDue_39 : decode cX9_appealDue 39 = .ok (.iadd, 1) := by decide +kernel
theorem dX9_appealDue_40 : decode cX9_appealDue 40 = .ok (.istore_n 3, 1) := by decide +kernel
theorem dX9_appealDue_41 : decode cX9_appealDue 41 = .ok (.aload_n 0, 1) := by decide +kernel
theorem dX9_appealDue_42 : decode cX9_appealDue 42 = .ok (.aload_n 0, 1) := by decide +kernel
theorem dX9_appealDue_43 : decode cX9_appealDue 43 = .ok (.getfield 68, 3) := by decide +kernel
theorem dX9_appealDue_46 : decode cX9_appealDue 46 = .ok (.iload_n 2, 1) := by decide +kernel
theorem dX9_appealDue_47 : decode cX9_appealDue 47 = .ok (.iaload, 1) := by decide +kernel
theorem dX9_appealDue_48 : decode cX9_appealDue 48 = .ok (.iload_n 3, 1) := by decide +kernel
theorem dX9_appealDue_49 : decode cX9_appealDue 49 = .ok (.aload_n 0, 1) := by decide +kernel
theorem dX9_appealDue_50 : decode cX9_appealDue 50 = .ok (.getfield 83, 3) := by decide +kernel
theorem dX9_appealDue_53 : decode cX9_appealDue 53 = .ok (.iload_n 2, 1) := by decide +kernel
theorem dX9_appealDue_54 : decode cX9_appealDue 54 = .ok (.baload, 1) := by decide +kernel
theorem dX9_appealDue_55 : decode cX9_appealDue 55 = .ok (.aload_n 0, 1) := by decide +kernel
theorem dX9_appealDue_56 : decode cX9_appealDue 56 = .ok (.getfield 32, 3) := by decide +kernel
theorem dX9_appealDue_59 : decode cX9_appealDue 59 = .ok (.iload_n 1, 1) := by decide +kernel
theorem dX9_appealDue_60 : decode cX9_appealDue 60 = .ok (.iaload, 1) := by decide +kernel
theorem dX9_appealDue_61 : decode cX9_appealDue 61 = .ok (.invokevirtual 210, 3) := by decide +kernel
theorem dX9_appealDue_64 : decode cX9_appealDue 64 = .ok (.ireturn, 1) := by decide +kernel
theorem dX9_enter_0 : decode cX9_enter 0 = .ok (.aload_n 0, 1) := by decide +kernel
theorem dX9_enter_1 : decode cX9_enter 1 = .ok (.getfield 65, 3) := by decide +kernel
theorem dX9_enter_4 : decode cX9_enter 4 = .ok (.aload_n 0, 1) := by decide +kernel
theorem dX9_enter_5 : decode cX9_enter 5 = .ok (.getfield 171, 3) := by decide +kernel
theorem dX9_enter_8 : decode cX9_enter 8 = .ok (.iload_n 1, 1) := by decide +kernel
theorem dX9_enter_9 : decode cX9_enter 9 = .ok (.iastore, 1) := by decide +kernel
theorem dX9_enter_10 : decode cX9_enter 10 = .ok (.aload_n 0, 1) := by decide +kernel
theorem dX9_enter_11 : decode cX9_enter 11 = .ok (.getfield 68, 3) := by decide +kernel
theorem dX9_enter_14 : decode cX9_enter 14 = .ok (.aload_n 0, 1) := by decide +kernel
theorem dX9_enter_15 : decode cX9_enter 15 = .ok (.getfield 171, 3) := by decide +kernel
theorem dX9_enter_18 : decode cX9_enter 18 = .ok (.aload_n 0, 1) := by decide +kernel
theorem dX9_enter_19 : decode cX9_enter 19 = .ok (.getfield 152, 3) := by decide +kernel
theorem dX9_enter_22 : decode cX9_enter 22 = .ok (.iastore, 1) := by decide +kernel
theorem dX9_enter_23 : decode cX9_enter 23 = .ok (.aload_n 0, 1) := by decide +kernel
theorem dX9_enter_24 : decode cX9_enter 24 = .ok (.getfield 71, 3) := by decide +kernel
theorem dX9_enter_27 : decode cX9_enter 27 = .ok (.aload_n 0, 1) := by decide +kernel
theorem dX9_enter_28 : decode cX9_enter 28 = .ok (.getfield 171, 3) := by decide +kernel
theorem dX9_enter_31 : decode cX9_enter 31 = .ok (.iload_n 2, 1) := by decide +kernel
theorem dX9_enter_32 : decode cX9_enter 32 = .ok (.iastore, 1) := by decide +kernel
theorem dX9_enter_33 : decode cX9_enter 33 = .ok (.aload_n 0, 1) := by decide +kernel
theorem dX9_enter_34 : decode cX9_enter 34 = .ok (.getfield 74, 3) := by decide +kernel
theorem dX9_enter_37 : decode cX9_enter 37 = .ok (.aload_n 0, 1) := by decide +kernel
theorem dX9_enter_38 : decode cX9_enter 38 = .ok (.getfield 171, 3) := by decide +kernel
theorem dX9_enter_41 : decode cX9_enter 41 = .ok (.iload_n 3, 1) := by decide +kernel
theorem dX9_enter_42 : decode cX9_enter 42 = .ok (.iastore, 1) := by decide +kernel
theorem dX9_enter_43 : decode cX9_enter 43 = .ok (.aload_n 0, 1) := by decide +kernel
theorem dX9_enter_44 : decode cX9_enter 44 = .ok (.getfield 77, 3) := by decide +kernel
theorem dX9_enter_47 : decode cX9_enter 47 = .ok (.aload_n 0, 1) := by decide +kernel
theorem dX9_enter_48 : decode cX9_enter 48 = .ok (.getfield 171, 3) := by decide +kernel
theorem dX9_enter_51 : decode cX9_enter 51 = .ok (.iload 4, 2) := by decide +kernel
theorem dX9_enter_53 : decode cX9_enter 53 = .ok (.iastore, 1) := by decide +kernel
theorem dX9_enter_54 : decode cX9_enter 54 = .ok (.iload_n 1, 1) := by decide +kernel
theorem dX9_enter_55 : decode cX9_enter 55 = .ok (.ifCond .ne 7, 3) := by decide +kernel
theorem dX9_enter_58 : decode cX9_enter 58 = .ok (.iconst 0, 1) := by decide +kernel
theorem dX9_enter_59 : decode cX9_enter 59 = .ok (.goto 28, 3) := by decide +kernel
theorem dX9_enter_62 : decode cX9_enter 62 = .ok (.iload_n 1, 1) := by decide +kernel
theorem dX9_enter_63 : decode cX9_enter 63 = .ok (.iconst 2, 1) := by decide +kernel
theorem dX9_enter_64 : decode cX9_enter 64 = .ok (.if_icmp .ne 7, 3) := by decide +kernel
theorem dX9_enter_67 : decode cX9_enter 67 = .ok (.iconst 1, 1) := by decide +kernel
theorem dX9_enter_68 : decode cX9_enter 68 = .ok (.goto 19, 3) := by decide +kernel
theorem dX9_enter_71 : decode cX9_enter 71 = .ok (.iload_n 1, 1) := by decide +kernel
theorem dX9_enter_72 : decode cX9_enter 72 = .ok (.iconst 5, 1) := by decide +kernel
theorem dX9_enter_73 : decode cX9_enter 73 = .ok (.if_icmp .eq 9, 3) := by decide +kernel
theorem dX9_enter_76 : decode cX9_enter 76 = .ok (.iload_n 1, 1) := by decide +kernel
theorem dX9_enter_77 : decode cX9_enter 77 = .ok (.bipush 8, 2) := by decide +kernel
theorem dX9_enter_79 : decode cX9_enter 79 = .ok (.if_icmp .ne 7, 3) := by decide +kernel
theorem dX9_enter_82 : decode cX9_enter 82 = .ok (.iconst 2, 1) := by decide +kernel
theorem dX9_enter_83 : decode cX9_enter 83 = .ok (.goto 4, 3) := by decide +kernel
theorem dX9_enter_86 : decode cX9_enter 86 = .ok (.iconst 3, 1) := by decide +kernel
theorem dX9_enter_87 : decode cX9_enter 87 = .ok (.istore 5, 2) := by decide +kernel
theorem dX9_enter_89 : decode cX9_enter 89 = .ok (.aload_n 0, 1) := by decide +kernel
theorem dX9_enter_90 : decode cX9_enter 90 = .ok (.getfield 80, 3) := by decide +kernel
theorem dX9_enter_93 : decode cX9_enter 93 = .ok (.aload_n 0, 1) := by decide +kernel
theorem dX9_enter_94 : decode cX9_enter 94 = .ok (.getfield 171, 3) := by decide +kernel
theorem dX9_enter_97 : decode cX9_enter 97 = .ok (.aload_n 0, 1) := by decide +kernel
theorem dX9_enter_98 : decode cX9_enter 98 = .ok (.getfield 13, 3) := by decide +kernel
theorem dX9_enter_101 : decode cX9_enter 101 = .ok (.iload 5, 2) := by decide +kernel
theorem dX9_enter_103 : decode cX9_enter 103 = .ok (.iaload, 1) := by decide +kernel
theorem dX9_enter_104 : decode cX9_enter 104 = .ok (.iastore, 1) := by decide +kernel
theorem dX9_enter_105 : decode cX9_enter 105 = .ok (.aload_n 0, 1) := by decide +kernel
theorem dX9_enter_106 : decode cX9_enter 106 = .ok (.getfield 83, 3) := by decide +kernel
theorem dX9_enter_109 : decode cX9_enter 109 = .ok (.aload_n 0, 1) := by decide +kernel
theorem dX9_enter_110 : decode cX9_enter 110 = .ok (.getfield 171, 3) := by decide +kernel
theorem dX9_enter_113 : decode cX9_enter 113 = .ok (.aload_n 0, 1) := by decide +kernel
theorem dX9_enter_114 : decode cX9_enter 114 = .ok (.getfield 17, 3) := by decide +kernel
theorem dX9_enter_117 : decode cX9_enter 117 = .ok (.iload 5, 2) := by decide +kernel
theorem dX9_enter_119 : decode cX9_enter 119 = .ok (.baload, 1) := by decide +kernel
theorem dX9_enter_120 : decode cX9_enter 120 = .ok (.bastore, 1) := by decide +kernel
theorem dX9_enter_121 : decode cX9_enter 121 = .ok (.iload_n 1, 1) := by decide +kernel
theorem dX9_enter_122 : decode cX9_enter 122 = .ok (.bipush 11, 2) := by decide +kernel
theorem dX9_enter_124 : decode cX9_enter 124 = .ok (.if_icmp .ge 48, 3) := by decide +kernel
theorem dX9_enter_127 : decode cX9_enter 127 = .ok (.aload_n 0, 1) := by decide +kernel
theorem dX9_enter_128 : decode cX9_enter 128 = .ok (.getfield 86, 3) := by decide +kernel
theorem dX9_enter_131 : decode cX9_enter 131 = .ok (.aload_n 0, 1) := by decide +kernel
theorem dX9_enter_132 : decode cX9_enter 132 = .ok (.getfield 171, 3) := by decide +kernel
theorem dX9_enter_135 : decode cX9_enter 135 = .ok (.aload_n 0, 1) := by decide +kernel
theorem dX9_enter_136 : decode cX9_enter 136 = .ok (.getfield 41, 3) := by decide +kernel
theorem dX9_enter_139 : decode cX9_enter 139 = .ok (.iload_n 2, 1) := by decide +kernel
theorem dX9_enter_140 : decode cX9_enter 140 = .ok (.iaload, 1) := by decide +kernel
theorem dX9_enter_141 : decode cX9_enter 141 = .ok (.iastore, 1) := by decide +kernel
theorem dX9_enter_142 : decode cX9_enter 142 = .ok (.aload_n 0, 1) := by decide +kernel
theorem dX9_enter_143 : decode cX9_enter 143 = .ok (.getfield 89, 3) := by decide +kernel
theorem dX9_enter_146 : decode cX9_enter 146 = .ok (.aload_n 0, 1) := by decide +kernel
theorem dX9_enter_147 : decode cX9_enter 147 = .ok (.getfield 171, 3) := by decide +kernel
theorem dX9_enter_150 : decode cX9_enter 150 = .ok (.aload_n 0, 1) := by decide +kernel
theorem dX9_enter_151 : decode cX9_enter 151 = .ok (.getfield 44, 3) := by decide +kernel
theorem dX9_enter_154 : decode cX9_enter 154 = .ok (.iload_n 2, 1) := by decide +kernel
theorem dX9_enter_155 : decode cX9_enter 155 = .ok (.iaload, 1) := by decide +kernel
theorem dX9_enter_156 : decode cX9_enter 156 = .ok (.iastore, 1) := by decide +kernel
theorem dX9_enter_157 : decode cX9_enter 157 = .ok (.aload_n 0, 1) := by decide +kernel
theorem dX9_enter_158 : decode cX9_enter 158 = .ok (.getfield 92, 3) := by decide +kernel
theorem dX9_enter_161 : decode cX9_enter 161 = .ok (.aload_n 0, 1) := by decide +kernel
theorem dX9_enter_162 : decode cX9_enter 162 = .ok (.getfield 171, 3) := by decide +kernel
theorem dX9_enter_165 : decode cX9_enter 165 = .ok (.aload_n 0, 1) := by decide +kernel
theorem dX9_enter_166 : decode cX9_enter 166 = .ok (.getfield 47, 3) := by decide +kernel
theorem dX9_enter_169 : decode cX9_enter 169 = .ok (.iload_n 2, 1) := by decide +kernel
theorem dX9_enter_170 : decode cX9_enter 170 = .ok (.iaload, 1) := by decide +kernel
theorem dX9_enter_171 : decode cX9_enter 171 = .ok (.iastore, 1) := by decide +kernel
theorem dX9_enter_172 : decode cX9_enter 172 = .ok (.aload_n 0, 1) := by decide +kernel
theorem dX9_enter_173 : decode cX9_enter 173 = .ok (.dup, 1) := by decide +kernel
theorem dX9_enter_174 : decode cX9_enter 174 = .ok (.getfield 171, 3) := by decide +kernel
theorem dX9_enter_177 : decode cX9_enter 177 = .ok (.iconst 1, 1) := by decide +kernel
theorem dX9_enter_178 : decode cX9_enter 178 = .ok (.iadd, 1) := by decide +kernel
theorem dX9_enter_179 : decode cX9_enter 179 = .ok (.putfield 171, 3) := by decide +kernel
theorem dX9_enter_182 : decode cX9_enter 182 = .ok (.aload_n 0, 1) := by decide +kernel
theorem dX9_enter_183 : decode cX9_enter 183 = .ok (.getfield 171, 3) := by decide +kernel
theorem dX9_enter_186 : decode cX9_enter 186 = .ok (.iconst 1, 1) := by decide +kernel
theorem dX9_enter_187 : decode cX9_enter 187 = .ok (.isub, 1) := by decide +kernel
theorem dX9_enter_188 : decode cX9_enter 188 = .ok (.ireturn, 1) := by decide +kernel
theorem dX9_hasRoom_0 : decode cX9_hasRoom 0 = .ok (.aload_n 0, 1) := by decide +kernel
theorem dX9_hasRoom_1 : decode cX9_hasRoom 1 = .ok (.getfield 171, 3) := by decide +kernel
theorem dX9_hasRoom_4 : decode cX9_hasRoom 4 = .ok (.sipush 160, 3) := by decide +kernel
theorem dX9_hasRoom_7 : decode cX9_hasRoom 7 = .ok (.if_icmp .ge 7, 3) := by decide +kernel
theorem dX9_hasRoom_10 : decode cX9_hasRoom 10 = .ok (.iconst 1, 1) := by decide +kernel
theorem dX9_hasRoom_11 : decode cX9_hasRoom 11 = .ok (.goto 4, 3) := by decide +kernel
theorem dX9_hasRoom_14 : decode cX9_hasRoom 14 = .ok (.iconst 0, 1) := by decide +kernel
theorem dX9_hasRoom_15 : decode cX9_hasRoom 15 = .ok (.ireturn, 1) := by decide +kernel
theorem dX9_serve_0 : decode cX9_serve 0 = .ok (.aload_n 0, 1) := by decide +kernel
theorem dX9_serve_1 : decode cX9_serve 1 = .ok (.iload_n 1, 1) := by decide +kernel
theorem dX9_serve_2 : decode cX9_serve 2 = .ok (.invokevirtual 195, 3) := by decide +kernel
theorem dX9_serve_5 : decode cX9_serve 5 = .ok (.ifCond .eq 16, 3) := by decide +kernel
theorem dX9_serve_8 : decode cX9_serve 8 = .ok (.iload_n 2, 1) := by decide +kernel
theorem dX9_serve_9 : decode cX9_serve 9 = .ok (.iconst 0, 1) := by decide +kernel
theorem dX9_serve_10 : decode cX9_serve 10 = .ok (.iconst 2, 1) := by decide +kernel
theorem dX9_serve_11 : decode cX9_serve 11 = .ok (.invokestatic 148, 3) := by decide +kernel
theorem dX9_serve_14 : decode cX9_serve 14 = .ok (.ifCond .eq 7, 3) := by decide +kernel
theorem dX9_serve_17 : decode cX9_serve 17 = .ok (.iconst 1, 1) := by decide +kernel
theorem dX9_serve_18 : decode cX9_serve 18 = .ok (.goto 4, 3) := by decide +kernel
theorem dX9_serve_21 : decode cX9_serve 21 = .ok (.iconst 0, 1) := by decide +kernel
theorem dX9_serve_22 : decode cX9_serve 22 = .ok (.istore_n 3, 1) := by decide +kernel
theorem dX9_serve_23 : decode cX9_serve 23 = .ok (.iload_n 3, 1) := by decide +kernel
theorem dX9_serve_24 : decode cX9_serve 24 = .ok (.ifCond .eq 33, 3) := by decide +kernel
theorem dX9_serve_27 : decode cX9_serve 27 = .ok (.aload_n 0, 1) := by decide +kernel
theorem dX9_serve_28 : decode cX9_serve 28 = .ok (.invokevirtual 233, 3) := by decide +kernel
theorem dX9_serve_31 : decode cX9_serve 31 = .ok (.ifCond .eq 26, 3) := by decide +kernel
theorem dX9_serve_34 : decode cX9_serve 34 = .ok (.aload_n 0, 1) := by decide +kernel
theorem dX9_serve_35 : decode cX9_serve 35 = .ok (.getfield 41, 3) := by decide +kernel
theorem dX9_serve_38 : decode cX9_serve 38 = .ok (.iload_n 1, 1) := by decide +kernel
theorem dX9_serve_39 : decode cX9_serve 39 = .ok (.iaload, 1) := by decide +kernel
theorem dX9_serve_40 : decode cX9_serve 40 = .ok (.ifCond .ne 17, 3) := by decide +kernel
theorem dX9_serve_43 : decode cX9_serve 43 = .ok (.aload_n 0, 1) := by decide +kernel
theorem dX9_serve_44 : decode cX9_serve 44 = .ok (.iload_n 1, 1) := by decide +kernel
theorem dX9_serve_45 : decode cX9_serve 45 = .ok (.iconst 0, 1) := by decide +kernel
theorem dX9_serve_46 : decode cX9_serve 46 = .ok (.invokevirtual 220, 3) := by decide +kernel
theorem dX9_serve_49 : decode cX9_serve 49 = .ok (.iconst (-1), 1) := by decide +kernel
theorem dX9_serve_50 : decode cX9_serve 50 = .ok (.if_icmp .ne 7, 3) := by decide +kernel
theorem dX9_serve_53 : decode cX9_serve 53 = .ok (.iconst 1, 1) := by decide +kernel
theorem dX9_serve_54 : decode cX9_serve 54 = .ok (.goto 4, 3) := by decide +kernel
theorem dX9_serve_57 : decode cX9_serve 57 = .ok (.iconst 0, 1) := by decide +kernel
theorem dX9_serve_58 : decode cX9_serve 58 = .ok (.istore 4, 2) := by decide +kernel
theorem dX9_serve_60 : decode cX9_serve 60 = .ok (.aload_n 0, 1) := by decide +kernel
theorem dX9_serve_61 : decode cX9_serve 61 = .ok (.iload_n 3, 1) := by decide +kernel
theorem dX9_serve_62 : decode cX9_serve 62 = .ok (.ifCond .ne 7, 3) := by decide +kernel
theorem dX9_serve_65 : decode cX9_serve 65 = .ok (.iconst 1, 1) := by decide +kernel
theorem dX9_serve_66 : decode cX9_serve 66 = .ok (.goto 13, 3) := by decide +kernel
theorem dX9_serve_69 : decode cX9_serve 69 = .ok (.iload 4, 2) := by decide +kernel
theorem dX9_serve_71 : decode cX9_serve 71 = .ok (.ifCond .ne 7, 3) := by decide +kernel
theorem dX9_serve_74 : decode cX9_serve 74 = .ok (.iconst 2, 1) := by decide +kernel
theorem dX9_serve_75 : decode cX9_serve 75 = .ok (.goto 4, 3) := by decide +kernel
theorem dX9_serve_78 : decode cX9_serve 78 = .ok (.iconst 0, 1) := by decide +kernel
theorem dX9_serve_79 : decode cX9_serve 79 = .ok (.invokevirtual 155, 3) := by decide +kernel
theorem dX9_serve_82 : decode cX9_serve 82 = .ok (.ifCond .eq 7, 3) := by decide +kernel
theorem dX9_serve_85 : decode cX9_serve 85 = .ok (.iconst 0, 1) := by decide +kernel
theorem dX9_serve_86 : decode cX9_serve 86 = .ok (.goto 11, 3) := by decide +kernel
theorem dX9_serve_89 : decode cX9_serve 89 = .ok (.aload_n 0, 1) := by decide +kernel
theorem dX9_serve_90 : decode cX9_serve 90 = .ok (.iconst 0, 1) := by decide +kernel
theorem dX9_serve_91 : decode cX9_serve 91 = .ok (.iload_n 1, 1) := by decide +kernel
theorem dX9_serve_92 : decode cX9_serve 92 = .ok (.iload_n 2, 1) := by decide +kernel
theorem dX9_serve_93 : decode cX9_serve 93 = .ok (.iconst 0, 1) := by decide +kernel
theorem dX9_serve_94 : decode cX9_serve 94 = .ok (.invokevirtual 237, 3) := by decide +kernel
theorem dX9_serve_97 : decode cX9_serve 97 = .ok (.ireturn, 1) := by decide +kernel
theorem dX9_canAnswer_0 : decode cX9_canAnswer 0 = .ok (.aload_n 0, 1) := by decide +kernel
theorem dX9_canAnswer_1 : decode cX9_canAnswer 1 = .ok (.invokevirtual 233, 3) := by decide +kernel
theorem dX9_canAnswer_4 : decode cX9_canAnswer 4 = .ok (.ifCond .eq 54, 3) := by decide +kernel
theorem dX9_canAnswer_7 : decode cX9_canAnswer 7 = .ok (.aload_n 0, 1) := by decide +kernel
theorem dX9_canAnswer_8 : decode cX9_canAnswer 8 = .ok (.getfield 41, 3) := by decide +kernel
theorem dX9_canAnswer_11 : decode cX9_canAnswer 11 = .ok (.iload_n 1, 1) := by decide +kernel
theorem dX9_canAnswer_12 : decode cX9_canAnswer 12 = .ok (.iaload, 1) := by decide +kernel
theorem dX9_canAnswer_13 : decode cX9_canAnswer 13 = .ok (.ifCond .ne 45, 3) := by decide +kernel
theorem dX9_canAnswer_16 : decode cX9_canAnswer 16 = .ok (.aload_n 0, 1) := by decide +kernel
theorem dX9_canAnswer_17 : decode cX9_canAnswer 17 = .ok (.iload_n 1, 1) := by decide +kernel
theorem dX9_canAnswer_18 : decode cX9_canAnswer 18 = .ok (.iconst 0, 1) := by decide +kernel
theorem dX9_canAnswer_19 : decode cX9_canAnswer 19 = .ok (.invokevirtual 220, 3) := by decide +kernel
theorem dX9_canAnswer_22 : decode cX9_canAnswer 22 = .ok (.iconst (-1), 1) := by decide +kernel
theorem dX9_canAnswer_23 : decode cX9_canAnswer 23 = .ok (.if_icmp .eq 35, 3) := by decide +kernel
theorem dX9_canAnswer_26 : decode cX9_canAnswer 26 = .ok (.aload_n 0, 1) := by decide +kernel
theorem dX9_canAnswer_27 : decode cX9_canAnswer 27 = .ok (.iload_n 1, 1) := by decide +kernel
theorem dX9_canAnswer_28 : decode cX9_canAnswer 28 = .ok (.invokevirtual 241, 3) := by decide +kernel
theorem dX9_canAnswer_31 : decode cX9_canAnswer 31 = .ok (.ifCond .ne 27, 3) := by decide +kernel
theorem dX9_canAnswer_34 : decode cX9_canAnswer 34 = .ok (.aload_n 0, 1) := by decide +kernel
theorem dX9_canAnswer_35 : decode cX9_canAnswer 35 = .ok (.iload_n 1, 1) := by decide +kernel
theorem dX9_canAnswer_36 : decode cX9_canAnswer 36 = .ok (.invokevirtual 227, 3) := by decide +kernel
theorem dX9_canAnswer_39 : decode cX9_canAnswer 39 = .ok (.ifCond .ne 19, 3) := by decide +kernel
theorem dX9_canAnswer_42 : decode cX9_canAnswer 42 = .ok (.aload_n 0, 1) := by decide +kernel
theorem dX9_canAnswer_43 : decode cX9_canAnswer 43 = .ok (.aload_n 0, 1) := by decide +kernel
theorem dX9_canAnswer_44 : decode cX9_canAnswer 44 = .ok (.iload_n 1, 1) := by decide +kernel
theorem dX9_canAnswer_45 : decode cX9_canAnswer 45 = .ok (.invokevirtual 244, 3) := by decide +kernel
theorem dX9_canAnswer_48 : decode cX9_canAnswer 48 = .ok (.invokevirtual 207, 3) := by decide +kernel
theorem dX9_canAnswer_51 : decode cX9_canAnswer 51 = .ok (.ifCond .ne 7, 3) := by decide +kernel
theorem dX9_canAnswer_54 : decode cX9_canAnswer 54 = .ok (.iconst 1, 1) := by decide +kernel
theorem dX9_canAnswer_55 : decode cX9_canAnswer 55 = .ok (.goto 4, 3) := by decide +kernel
theorem dX9_canAnswer_58 : decode cX9_canAnswer 58 = .ok (.iconst 0, 1) := by decide +kernel
theorem dX9_canAnswer_59 : decode cX9_canAnswer 59 = .ok (.ireturn, 1) := by decide +kernel
theorem dX9_answer_0 : decode cX9_answer 0 = .ok (.aload_n 0, 1) := by decide +kernel
theorem dX9_answer_1 : decode cX9_answer 1 = .ok (.iload_n 1, 1) := by decide +kernel
theorem dX9_answer_2 : decode cX9_answer 2 = .ok (.invokevirtual 195, 3) := by decide +kernel
theorem dX9_answer_5 : decode cX9_answer 5 = .ok (.istore_n 2, 1) := by decide +kernel
theorem dX9_answer_6 : decode cX9_answer 6 = .ok (.aload_n 0, 1) := by decide +kernel
theorem dX9_answer_7 : decode cX9_answer 7 = .ok (.iload_n 2, 1) := by decide +kernel
theorem dX9_answer_8 : decode cX9_answer 8 = .ok (.ifCond .ne 7, 3) := by decide +kernel
theorem dX9_answer_11 : decode cX9_answer 11 = .ok (.iconst 1, 1) := by decide +kernel
theorem dX9_answer_12 : decode cX9_answer 12 = .ok (.goto 16, 3) := by decide +kernel
theorem dX9_answer_15 : decode cX9_answer 15 = .ok (.aload_n 0, 1) := by decide +kernel
theorem dX9_answer_16 : decode cX9_answer 16 = .ok (.iload_n 1, 1) := by decide +kernel
theorem dX9_answer_17 : decode cX9_answer 17 = .ok (.invokevirtual 247, 3) := by decide +kernel
theorem dX9_answer_20 : decode cX9_answer 20 = .ok (.ifCond .ne 7, 3) := by decide +kernel
theorem dX9_answer_23 : decode cX9_answer 23 = .ok (.iconst 2, 1) := by decide +kernel
theorem dX9_answer_24 : decode cX9_answer 24 = .ok (.goto 4, 3) := by decide +kernel
theorem dX9_answer_27 : decode cX9_answer 27 = .ok (.iconst 0, 1) := by decide +kernel
theorem dX9_answer_28 : decode cX9_answer 28 = .ok (.invokevirtual 155, 3) := by decide +kernel
theorem dX9_answer_31 : decode cX9_answer 31 = .ok (.ifCond .eq 7, 3) := by decide +kernel
theorem dX9_answer_34 : decode cX9_answer 34 = .ok (.iconst 0, 1) := by decide +kernel
theorem dX9_answer_35 : decode cX9_answer 35 = .ok (.goto 11, 3) := by decide +kernel
theorem dX9_answer_38 : decode cX9_answer 38 = .ok (.aload_n 0, 1) := by decide +kernel
theorem dX9_answer_39 : decode cX9_answer 39 = .ok (.iconst 1, 1) := by decide +kernel
theorem dX9_answer_40 : decode cX9_answer 40 = .ok (.iload_n 1, 1) := by decide +kernel
theorem dX9_answer_41 : decode cX9_answer 41 = .ok (.iconst 0, 1) := by decide +kernel
theorem dX9_answer_42 : decode cX9_answer 42 = .ok (.iconst 0, 1) := by decide +kernel
theorem dX9_answer_43 : decode cX9_answer 43 = .ok (.invokevirtual 237, 3) := by decide +kernel
theorem dX9_answer_46 : decode cX9_answer 46 = .ok (.ireturn, 1) := by decide +kernel
theorem dX9_motion_0 : decode cX9_motion 0 = .ok (.aload_n 0, 1) := by decide +kernel
theorem dX9_motion_1 : decode cX9_motion 1 = .ok (.iload_n 1, 1) := by decide +kernel
theorem dX9_motion_2 : decode cX9_motion 2 = .ok (.invokevirtual 195, 3) := by decide +kernel
theorem dX9_motion_5 : decode cX9_motion 5 = .ok (.istore_n 2, 1) := by decide +kernel
theorem dX9_motion_6 : decode cX9_motion 6 = .ok (.aload_n 0, 1) := by decide +kernel
theorem dX9_motion_7 : decode cX9_motion 7 = .ok (.iload_n 2, 1) := by decide +kernel
theorem dX9_motion_8 : decode cX9_motion 8 = .ok (.ifCond .ne 7, 3) := by decide +kernel
theorem dX9_motion_11 : decode cX9_motion 11 = .ok (.iconst 1, 1) := by decide +kernel
theorem dX9_motion_12 : decode cX9_motion 12 = .ok (.goto 16, 3) := by decide +kernel
theorem dX9_motion_15 : decode cX9_motion 15 = .ok (.aload_n 0, 1) := by decide +kernel
theorem dX9_motion_16 : decode cX9_motion 16 = .ok (.iload_n 1, 1) := by decide +kernel
theorem dX9_motion_17 : decode cX9_motion 17 = .ok (.invokevirtual 247, 3) := by decide +kernel
theorem dX9_motion_20 : decode cX9_motion 20 = .ok (.ifCond .ne 7, 3) := by decide +kernel
theorem dX9_motion_23 : decode cX9_motion 23 = .ok (.iconst 2, 1) := by decide +kernel
theorem dX9_motion_24 : decode cX9_motion 24 = .ok (.goto 4, 3) := by decide +kernel
theorem dX9_motion_27 : decode cX9_motion 27 = .ok (.iconst 0, 1) := by decide +kernel
theorem dX9_motion_28 : decode cX9_motion 28 = .ok (.invokevirtual 155, 3) := by decide +kernel
theorem dX9_motion_31 : decode cX9_motion 31 = .ok (.ifCond .eq 7, 3) := by decide +kernel
theorem dX9_motion_34 : decode cX9_motion 34 = .ok (.iconst 0, 1) := by decide +kernel
theorem dX9_motion_35 : decode cX9_motion 35 = .ok (.goto 11, 3) := by decide +kernel
theorem dX9_motion_38 : decode cX9_motion 38 = .ok (.aload_n 0, 1) := by decide +kernel
theorem dX9_motion_39 : decode cX9_motion 39 = .ok (.iconst 2, 1) := by decide +kernel
theorem dX9_motion_40 : decode cX9_motion 40 = .ok (.iload_n 1, 1) := by decide +kernel
theorem dX9_motion_41 : decode cX9_motion 41 = .ok (.iconst 0, 1) := by decide +kernel
theorem dX9_motion_42 : decode cX9_motion 42 = .ok (.iconst 0, 1) := by decide +kernel
theorem dX9_motion_43 : decode cX9_motion 43 = .ok (.invokevirtual 237, 3) := by decide +kernel
theorem dX9_motion_46 : decode cX9_motion 46 = .ok (.ireturn, 1) := by decide +kernel
theorem dX9_isResponded_0 : decode cX9_isResponded 0 = .ok (.iconst 0, 1) := by decide +kernel
theorem dX9_isResponded_1 : decode cX9_isResponded 1 = .ok (.istore_n 2, 1) := by decide +kernel
theorem dX9_isResponded_2 : decode cX9_isResponded 2 = .ok (.iconst 0, 1) := by decide +kernel
theorem dX9_isResponded_3 : decode cX9_isResponded 3 = .ok (.istore_n 3, 1) := by decide +kernel
theorem dX9_isResponded_4 : decode cX9_isResponded 4 = .ok (.iload_n 3, 1) := by decide +kernel
theorem dX9_isResponded_5 : decode cX9_isResponded 5 = .ok (.aload_n 0, 1) := by decide +kernel
theorem dX9_isResponded_6 : decode cX9_isResponded 6 = .ok (.getfield 171, 3) := by decide +kernel
theorem dX9_isResponded_9 : decode cX9_isResponded 9 = .ok (.if_icmp .ge 47, 3) := by decide +kernel
theorem dX9_isResponded_12 : decode cX9_isResponded 12 = .ok (.iload_n 2, 1) := by decide +kernel
theorem dX9_isResponded_13 : decode cX9_isResponded 13 = .ok (.ifCond .ne 43, 3) := by decide +kernel
theorem dX9_isResponded_16 : decode cX9_isResponded 16 = .ok (.aload_n 0, 1) := by decide +kernel
theorem dX9_isResponded_17 : decode cX9_isResponded 17 = .ok (.getfield 65, 3) := by decide +kernel
theorem dX9_isResponded_20 : decode cX9_isResponded 20 = .ok (.iload_n 3, 1) := by decide +kernel
theorem dX9_isResponded_21 : decode cX9_isResponded 21 = .ok (.iaload, 1) := by decide +kernel
theorem dX9_isResponded_22 : decode cX9_isResponded 22 = .ok (.iconst 3, 1) := by decide +kernel
theorem dX9_isResponded_23 : decode cX9_isResponded 23 = .ok (.if_icmp .ne 25, 3) := by decide +kernel
theorem dX9_isResponded_26 : decode cX9_isResponded 26 = .ok (.aload_n 0, 1) := by decide +kernel
theorem dX9_isResponded_27 : decode cX9_isResponded 27 = .ok (.getfield 74, 3) := by decide +kernel
theorem dX9_isResponded_30 : decode cX9_isResponded 30 = .ok (.iload_n 3, 1) := by decide +kernel
theorem dX9_isResponded_31 : decode cX9_isResponded 31 = .ok (.iaload, 1) := by decide +kernel
theorem dX9_isResponded_32 : decode cX9_isResponded 32 = .ok (.iload_n 1, 1) := by decide +kernel
theorem dX9_isResponded_33 : decode cX9_isResponded 33 = .ok (.if_icmp .ne 15, 3) := by decide +kernel
theorem dX9_isResponded_36 : decode cX9_isResponded 36 = .ok (.aload_n 0, 1) := by decide +kernel
theorem dX9_isResponded_37 : decode cX9_isResponded 37 = .ok (.iload_n 3, 1) := by decide +kernel
theorem dX9_isResponded_38 : decode cX9_isResponded 38 = .ok (.invokevirtual 214, 3) := by decide +kernel
theorem dX9_isResponded_41 : decode cX9_isResponded 41 = .ok (.ifCond .eq 7, 3) := by decide +kernel
theorem dX9_isResponded_44 : decode cX9_isResponded 44 = .ok (.iconst 1, 1) := by decide +kernel
theorem dX9_isResponded_45 : decode cX9_isResponded 45 = .ok (.goto 4, 3) := by decide +kernel
theorem dX9_isResponded_48 : decode cX9_isResponded 48 = .ok (.iconst 0, 1) := by decide +kernel
theorem dX9_isResponded_49 : decode cX9_isResponded 49 = .ok (.istore_n 2, 1) := by decide +kernel
theorem dX9_isResponded_50 : decode cX9_isResponded 50 = .ok (.iinc 3 1, 3) := by decide +kernel
theorem dX9_isResponded_53 : decode cX9_isResponded 53 = .ok (.goto (-49), 3) := by decide +kernel
theorem dX9_isResponded_56 : decode cX9_isResponded 56 = .ok (.iload_n 2, 1) := by decide +kernel
theorem dX9_isResponded_57 : decode cX9_isResponded 57 = .ok (.ireturn, 1) := by decide +kernel
theorem dX9_respond_0 : decode cX9_respond 0 = .ok (.aload_n 0, 1) := by decide +kernel
theorem dX9_respond_1 : decode cX9_respond 1 = .ok (.iload_n 1, 1) := by decide +kernel
theorem dX9_respond_2 : decode cX9_respond 2 = .ok (.invokevirtual 250, 3) := by decide +kernel
theorem dX9_respond_5 : decode cX9_respond 5 = .ok (.istore_n 2, 1) := by decide +kernel
theorem dX9_respond_6 : decode cX9_respond 6 = .ok (.iload_n 2, 1) := by decide +kernel
theorem dX9_respond_7 : decode cX9_respond 7 = .ok (.ifCond .eq 42, 3) := by decide +kernel
theorem dX9_respond_10 : decode cX9_respond 10 = .ok (.aload_n 0, 1) := by decide +kernel
theorem dX9_respond_11 : decode cX9_respond 11 = .ok (.invokevirtual 233, 3) := by decide +kernel
theorem dX9_respond_14 : decode cX9_respond 14 = .ok (.ifCond .eq 35, 3) := by decide +kernel
theorem dX9_respond_17 : decode cX9_respond 17 = .ok (.aload_n 0, 1) := by decide +kernel
theorem dX9_respond_18 : decode cX9_respond 18 = .ok (.iload_n 1, 1) := by decide +kernel
theorem dX9_respond_19 : decode cX9_respond 19 = .ok (.invokevirtual 217, 3) := by decide +kernel
theorem dX9_respond_22 : decode cX9_respond 22 = .ok (.ifCond .eq 27, 3) := by decide +kernel
theorem dX9_respond_25 : decode cX9_respond 25 = .ok (.aload_n 0, 1) := by decide +kernel
theorem dX9_respond_26 : decode cX9_respond 26 = .ok (.iload_n 1, 1) := by decide +kernel
theorem dX9_respond_27 : decode cX9_respond 27 = .ok (.invokevirtual 253, 3) := by decide +kernel
theorem dX9_respond_30 : decode cX9_respond 30 = .ok (.ifCond .ne 19, 3) := by decide +kernel
theorem dX9_respond_33 : decode cX9_respond 33 = .ok (.aload_n 0, 1) := by decide +kernel
theorem dX9_respond_34 : decode cX9_respond 34 = .ok (.aload_n 0, 1) := by decide +kernel
theorem dX9_respond_35 : decode cX9_respond 35 = .ok (.iload_n 1, 1) := by decide +kernel
theorem dX9_respond_36 : decode cX9_respond 36 = .ok (.invokevirtual 256, 3) := by decide +kernel
theorem dX9_respond_39 : decode cX9_respond 39 = .ok (.invokevirtual 207, 3) := by decide +kernel
theorem dX9_respond_42 : decode cX9_respond 42 = .ok (.ifCond .ne 7, 3) := by decide +kernel
theorem dX9_respond_45 : decode cX9_respond 45 = .ok (.iconst 1, 1) := by decide +kernel
theorem dX9_respond_46 : decode cX9_respond 46 = .ok (.goto 4, 3) := by decide +kernel
theorem dX9_respond_49 : decode cX9_respond 49 = .ok (.iconst 0, 1) := by decide +kernel
theorem dX9_respond_50 : decode cX9_respond 50 = .ok (.istore_n 3, 1) := by decide +kernel
theorem dX9_respond_51 : decode cX9_respond 51 = .ok (.aload_n 0, 1) := by decide +kernel
theorem dX9_respond_52 : decode cX9_respond 52 = .ok (.iload_n 2, 1) := by decide +kernel
theorem dX9_respond_53 : decode cX9_respond 53 = .ok (.ifCond .ne 7, 3) := by decide +kernel
theorem dX9_respond_56 : decode cX9_respond 56 = .ok (.iconst 1, 1) := by decide +kernel
theorem dX9_respond_57 : decode cX9_respond 57 = .ok (.goto 12, 3) := by decide +kernel
theorem dX9_respond_60 : decode cX9_respond 60 = .ok (.iload_n 3, 1) := by decide +kernel
theorem dX9_respond_61 : decode cX9_respond 61 = .ok (.ifCond .ne 7, 3) := by decide +kernel
theorem dX9_respond_64 : decode cX9_respond 64 = .ok (.iconst 2, 1) := by decide +kernel
theorem dX9_respond_65 : decode cX9_respond 65 = .ok (.goto 4, 3) := by decide +kernel
theorem dX9_respond_68 : decode cX9_respond 68 = .ok (.iconst 0, 1) := by decide +kernel
theorem dX9_respond_69 : decode cX9_respond 69 = .ok (.invokevirtual 155, 3) := by decide +kernel
theorem dX9_respond_72 : decode cX9_respond 72 = .ok (.ifCond .eq 7, 3) := by decide +kernel
theorem dX9_respond_75 : decode cX9_respond 75 = .ok (.iconst 0, 1) := by decide +kernel
theorem dX9_respond_76 : decode cX9_respond 76 = .ok (.goto 16, 3) := by decide +kernel
theorem dX9_respond_79 : decode cX9_respond 79 = .ok (.aload_n 0, 1) := by decide +kernel
theorem dX9_respond_80 : decode cX9_respond 80 = .ok (.iconst 3, 1) := by decide +kernel
theorem dX9_respond_81 : decode cX9_respond 81 = .ok (.aload_n 0, 1) := by decide +kernel
theorem dX9_respond_82 : decode cX9_respond 82 = .ok (.getfield 71, 3) := by decide +kernel
theorem dX9_respond_85 : decode cX9_respond 85 = .ok (.iload_n 1, 1) := by decide +kernel
theorem dX9_respond_86 : decode cX9_respond 86 = .ok (.iaload, 1) := by decide +kernel
theorem dX9_respond_87 : decode cX9_respond 87 = .ok (.iload_n 1, 1) := by decide +kernel
theorem dX9_respond_88 : decode cX9_respond 88 = .ok (.iconst 0, 1) := by decide +kernel
theorem dX9_respond_89 : decode cX9_respond 89 = .ok (.invokevirtual 237, 3) := by decide +kernel
theorem dX9_respond_92 : decode cX9_respond 92 = .ok (.ireturn, 1) := by decide +kernel
theorem dX9_ruling_0 : decode cX9_ruling 0 = .ok (.aload_n 0, 1) := by decide +kernel
theorem dX9_ruling_1 : decode cX9_ruling 1 = .ok (.iload_n 1, 1) := by decide +kernel
theorem dX9_ruling_2 : decode cX9_ruling 2 = .ok (.invokevirtual 250, 3) := by decide +kernel
theorem dX9_ruling_5 : decode cX9_ruling 5 = .ok (.istore_n 3, 1) := by decide +kernel
theorem dX9_ruling_6 : decode cX9_ruling 6 = .ok (.iload_n 3, 1) := by decide +kernel
theorem dX9_ruling_7 : decode cX9_ruling 7 = .ok (.ifCond .eq 12, 3) := by decide +kernel
theorem dX9_ruling_10 : decode cX9_ruling 10 = .ok (.aload_n 0, 1) := by decide +kernel
theorem dX9_ruling_11 : decode cX9_ruling 11 = .ok (.getfield 71, 3) := by decide +kernel
theorem dX9_ruling_14 : decode cX9_ruling 14 = .ok (.iload_n 1, 1) := by decide +kernel
theorem dX9_ruling_15 : decode cX9_ruling 15 = .ok (.iaload, 1) := by decide +kernel
theorem dX9_ruling_16 : decode cX9_ruling 16 = .ok (.goto 4, 3) := by decide +kernel
theorem dX9_ruling_19 : decode cX9_ruling 19 = .ok (.iconst 0, 1) := by decide +kernel
theorem dX9_ruling_20 : decode cX9_ruling 20 = .ok (.istore 4, 2) := by decide +kernel
theorem dX9_ruling_22 : decode cX9_ruling 22 = .ok (.iload_n 3, 1) := by decide +kernel
theorem dX9_ruling_23 : decode cX9_ruling 23 = .ok (.ifCond .eq 23, 3) := by decide +kernel
theorem dX9_ruling_26 : decode cX9_ruling 26 = .ok (.iload_n 2, 1) := by decide +kernel
theorem dX9_ruling_27 : decode cX9_ruling 27 = .ok (.iconst (-1), 1) := by decide +kernel
theorem dX9_ruling_28 : decode cX9_ruling 28 = .ok (.if_icmp .lt 18, 3) := by decide +kernel
theorem dX9_ruling_31 : decode cX9_ruling 31 = .ok (.iload_n 2, 1) := by decide +kernel
theorem dX9_ruling_32 : decode cX9_ruling 32 = .ok (.aload_n 0, 1) := by decide +kernel
theorem dX9_ruling_33 : decode cX9_ruling 33 = .ok (.getfield 44, 3) := by decide +kernel
theorem dX9_ruling_36 : decode cX9_ruling 36 = .ok (.iload 4, 2) := by decide +kernel
theorem dX9_ruling_38 : decode cX9_ruling 38 = .ok (.iaload, 1) := by decide +kernel
theorem dX9_ruling_39 : decode cX9_ruling 39 = .ok (.if_icmp .ge 7, 3) := by decide +kernel
theorem dX9_ruling_42 : decode cX9_ruling 42 = .ok (.iconst 1, 1) := by decide +kernel
theorem dX9_ruling_43 : decode cX9_ruling 43 = .ok (.goto 4, 3) := by decide +kernel
theorem dX9_ruling_46 : decode cX9_ruling 46 = .ok (.iconst 0, 1) := by decide +kernel
theorem dX9_ruling_47 : decode cX9_ruling 47 = .ok (.istore 5, 2) := by decide +kernel
theorem dX9_ruling_49 : decode cX9_ruling 49 = .ok (.iload_n 3, 1) := by decide +kernel
theorem dX9_ruling_50 : decode cX9_ruling 50 = .ok (.ifCond .eq 52, 3) := by decide +kernel
theorem dX9_ruling_53 : decode cX9_ruling 53 = .ok (.aload_n 0, 1) := by decide +kernel
theorem dX9_ruling_54 : decode cX9_ruling 54 = .ok (.invokevirtual 233, 3) := by decide +kernel
theorem dX9_ruling_57 : decode cX9_ruling 57 = .ok (.ifCond .eq 45, 3) := by decide +kernel
theorem dX9_ruling_60 : decode cX9_ruling 60 = .ok (.aload_n 0, 1) := by decide +kernel
theorem dX9_ruling_61 : decode cX9_ruling 61 = .ok (.iload_n 1, 1) := by decide +kernel
theorem dX9_ruling_62 : decode cX9_ruling 62 = .ok (.invokevirtual 217, 3) := by decide +kernel
theorem dX9_ruling_65 : decode cX9_ruling 65 = .ok (.ifCond .eq 37, 3) := by decide +kernel
theorem dX9_ruling_68 : decode cX9_ruling 68 = .ok (.aload_n 0, 1) := by decide +kernel
theorem dX9_ruling_69 : decode cX9_ruling 69 = .ok (.getfield 41, 3) := by decide +kernel
theorem dX9_ruling_72 : decode cX9_ruling 72 = .ok (.iload 4, 2) := by decide +kernel
theorem dX9_ruling_74 : decode cX9_ruling 74 = .ok (.iaload, 1) := by decide +kernel
theorem dX9_ruling_75 : decode cX9_ruling 75 = .ok (.ifCond .ne 27, 3) := by decide +kernel
theorem dX9_ruling_78 : decode cX9_ruling 78 = .ok (.aload_n 0, 1) := by decide +kernel
theorem dX9_ruling_79 : decode cX9_ruling 79 = .ok (.iload_n 1, 1) := by decide +kernel
theorem dX9_ruling_80 : decode cX9_ruling 80 = .ok (.invokevirtual 253, 3) := by decide +kernel
theorem dX9_ruling_83 : decode cX9_ruling 83 = .ok (.ifCond .ne 15, 3) := by decide +kernel
theorem dX9_ruling_86 : decode cX9_ruling 86 = .ok (.aload_n 0, 1) := by decide +kernel
theorem dX9_ruling_87 : decode cX9_ruling 87 = .ok (.aload_n 0, 1) := by decide +kernel
theorem dX9_ruling_88 : decode cX9_ruling 88 = .ok (.iload_n 1, 1) := by decide +kernel
theorem dX9_ruling_89 : decode cX9_ruling 89 = .ok (.invokevirtual 256, 3) := by decide +kernel
theorem dX9_ruling_92 : decode cX9_ruling 92 = .ok (.invokevirtual 207, 3) := by decide +kernel
theorem dX9_ruling_95 : decode cX9_ruling 95 = .ok (.ifCond .eq 7, 3) := by decide +kernel
theorem dX9_ruling_98 : decode cX9_ruling 98 = .ok (.iconst 1, 1) := by decide +kernel
theorem dX9_ruling_99 : decode cX9_ruling 99 = .ok (.goto 4, 3) := by decide +kernel
theorem dX9_ruling_102 : decode cX9_ruling 102 = .ok (.iconst 0, 1) := by decide +kernel
theorem dX9_ruling_103 : decode cX9_ruling 103 = .ok (.istore 6, 2) := by decide +kernel
theorem dX9_ruling_105 : decode cX9_ruling 105 = .ok (.aload_n 0, 1) := by decide +kernel
theorem dX9_ruling_106 : decode cX9_ruling 106 = .ok (.iload_n 3, 1) := by decide +kernel
theorem dX9_ruling_107 : decode cX9_ruling 107 = .ok (.ifCond .ne 7, 3) := by decide +kernel
theorem dX9_ruling_110 : decode cX9_ruling 110 = .ok (.iconst 1, 1) := by decide +kernel
theorem dX9_ruling_111 : decode cX9_ruling 111 = .ok (.goto 22, 3) := by decide +kernel
theorem dX9_ruling_114 : decode cX9_ruling 114 = .ok (.iload 5, 2) := by decide +kernel
theorem dX9_ruling_116 : decode cX9_ruling 116 = .ok (.ifCond .ne 7, 3) := by decide +kernel
theorem dX9_ruling_119 : decode cX9_ruling 119 = .ok (.iconst 2, 1) := by decide +kernel
theorem dX9_ruling_120 : decode cX9_ruling 120 = .ok (.goto 13, 3) := by decide +kernel
theorem dX9_ruling_123 : decode cX9_ruling 123 = .ok (.iload 6, 2) := by decide +kernel
theorem dX9_ruling_125 : decode cX9_ruling 125 = .ok (.ifCond .ne 7, 3) := by decide +kernel
theorem dX9_ruling_128 : decode cX9_ruling 128 = .ok (.iconst 3, 1) := by decide +kernel
theorem dX9_ruling_129 : decode cX9_ruling 129 = .ok (.goto 4, 3) := by decide +kernel
theorem dX9_ruling_132 : decode cX9_ruling 132 = .ok (.iconst 0, 1) := by decide +kernel
theorem dX9_ruling_133 : decode cX9_ruling 133 = .ok (.invokevirtual 155, 3) := by decide +kernel
theorem dX9_ruling_136 : decode cX9_ruling 136 = .ok (.ifCond .eq 5, 3) := by decide +kernel
theorem dX9_ruling_139 : decode cX9_ruling 139 = .ok (.iconst 0, 1) := by decide +kernel
theorem dX9_ruling_140 : decode cX9_ruling 140 = .ok (.ireturn, 1) := by decide +kernel
theorem dX9_ruling_141 : decode cX9_ruling 141 = .ok (.aload_n 0, 1) := by decide +kernel
theorem dX9_ruling_142 : decode cX9_ruling 142 = .ok (.iconst 4, 1) := by decide +kernel
theorem dX9_ruling_143 : decode cX9_ruling 143 = .ok (.iload 4, 2) := by decide +kernel
theorem dX9_ruling_145 : decode cX9_ruling 145 = .ok (.iload_n 2, 1) := by decide +kernel
theorem dX9_ruling_146 : decode cX9_ruling 146 = .ok (.iload_n 1, 1) := by decide +kernel
theorem dX9_ruling_147 : decode cX9_ruling 147 = .ok (.invokevirtual 237, 3) := by decide +kernel
theorem dX9_ruling_150 : decode cX9_ruling 150 = .ok (.istore 7, 2) := by decide +kernel
theorem dX9_ruling_152 : decode cX9_ruling 152 = .ok (.aload_n 0, 1) := by decide +kernel
theorem dX9_ruling_153 : decode cX9_ruling 153 = .ok (.getfield 41, 3) := by decide +kernel
theorem dX9_ruling_156 : decode cX9_ruling 156 = .ok (.iload 4, 2) := by decide +kernel
theorem dX9_ruling_158 : decode cX9_ruling 158 = .ok (.iload_n 2, 1) := by decide +kernel
theorem dX9_ruling_159 : decode cX9_ruling 159 = .ok (.ifCond .ne 7, 3) := by decide +kernel
theorem dX9_ruling_162 : decode cX9_ruling 162 = .ok (.iconst 1, 1) := by decide +kernel
theorem dX9_ruling_163 : decode cX9_ruling 163 = .ok (.goto 4, 3) := by decide +kernel
theorem dX9_ruling_166 : decode cX9_ruling 166 = .ok (.iconst 0, 1) := by decide +kernel
theorem dX9_ruling_167 : decode cX9_ruling 167 = .ok (.iastore, 1) := by decide +kernel
theorem dX9_ruling_168 : decode cX9_ruling 168 = .ok (.aload_n 0, 1) := by decide +kernel
theorem dX9_ruling_169 : decode cX9_ruling 169 = .ok (.getfield 44, 3) := by decide +kernel
theorem dX9_ruling_172 : decode cX9_ruling 172 = .ok (.iload 4, 2) := by decide +kernel
theorem dX9_ruling_174 : decode cX9_ruling 174 = .ok (.iload_n 2, 1) := by decide +kernel
theorem dX9_ruling_175 : decode cX9_ruling 175 = .ok (.ifCond .le 7, 3) := by decide +kernel
theorem dX9_ruling_178 : decode cX9_ruling 178 = .ok (.iload_n 2, 1) := by decide +kernel
theorem dX9_ruling_179 : decode cX9_ruling 179 = .ok (.goto 10, 3) := by decide +kernel
theorem dX9_ruling_182 : decode cX9_ruling 182 = .ok (.aload_n 0, 1) := by decide +kernel
theorem dX9_ruling_183 : decode cX9_ruling 183 = .ok (.getfield 44, 3) := by decide +kernel
theorem dX9_ruling_186 : decode cX9_ruling 186 = .ok (.iload 4, 2) := by decide +kernel
theorem dX9_ruling_188 : decode cX9_ruling 188 = .ok (.iaload, 1) := by decide +kernel
theorem dX9_ruling_189 : decode cX9_ruling 189 = .ok (.iastore, 1) := by decide +kernel
theorem dX9_ruling_190 : decode cX9_ruling 190 = .ok (.iload 7, 2) := by decide +kernel
theorem dX9_ruling_192 : decode cX9_ruling 192 = .ok (.ireturn, 1) := by decide +kernel
theorem dX9_judge_0 : decode cX9_judge 0 = .ok (.aload_n 0, 1) := by decide +kernel
theorem dX9_judge_1 : decode cX9_judge 1 = .ok (.iload_n 1, 1) := by decide +kernel
theorem dX9_judge_2 : decode cX9_judge 2 = .ok (.invokevirtual 195, 3) := by decide +kernel
theorem dX9_judge_5 : decode cX9_judge 5 = .ok (.istore_n 3, 1) := by decide +kernel
theorem dX9_judge_6 : decode cX9_judge 6 = .ok (.iload_n 3, 1) := by decide +kernel
theorem dX9_judge_7 : decode cX9_judge 7 = .ok (.ifCond .eq 21, 3) := by decide +kernel
theorem dX9_judge_10 : decode cX9_judge 10 = .ok (.iload_n 2, 1) := by decide +kernel
theorem dX9_judge_11 : decode cX9_judge 11 = .ok (.iconst (-1), 1) := by decide +kernel
theorem dX9_judge_12 : decode cX9_judge 12 = .ok (.aload_n 0, 1) := by decide +kernel
theorem dX9_judge_13 : decode cX9_judge 13 = .ok (.getfield 44, 3) := by decide +kernel
theorem dX9_judge_16 : decode cX9_judge 16 = .ok (.iload_n 1, 1) := by decide +kernel
theorem dX9_judge_17 : decode cX9_judge 17 = .ok (.iaload, 1) := by decide +kernel
theorem dX9_judge_18 : decode cX9_judge 18 = .ok (.invokestatic 148, 3) := by decide +kernel
theorem dX9_judge_21 : decode cX9_judge 21 = .ok (.ifCond .eq 7, 3) := by decide +kernel
theorem dX9_judge_24 : decode cX9_judge 24 = .ok (.iconst 1, 1) := by decide +kernel
theorem dX9_judge_25 : decode cX9_judge 25 = .ok (.goto 4, 3) := by decide +kernel
theorem dX9_judge_28 : decode cX9_judge 28 = .ok (.iconst 0, 1) := by decide +kernel
theorem dX9_judge_29 : decode cX9_judge 29 = .ok (.istore 4, 2) := by decide +kernel
theorem dX9_judge_31 : decode cX9_judge 31 = .ok (.iload 4, 2) := by decide +kernel
theorem dX9_judge_33 : decode cX9_judge 33 = .ok (.ifCond .eq 23, 3) := by decide +kernel
theorem dX9_judge_36 : decode cX9_judge 36 = .ok (.aload_n 0, 1) := by decide +kernel
theorem dX9_judge_37 : decode cX9_judge 37 = .ok (.invokevirtual 233, 3) := by decide +kernel
theorem dX9_judge_40 : decode cX9_judge 40 = .ok (.ifCond .eq 16, 3) := by decide +kernel
theorem dX9_judge_43 : decode cX9_judge 43 = .ok (.aload_n 0, 1) := by decide +kernel
theorem dX9_judge_44 : decode cX9_judge 44 = .ok (.getfield 41, 3) := by decide +kernel
theorem dX9_judge_47 : decode cX9_judge 47 = .ok (.iload_n 1, 1) := by decide +kernel
theorem dX9_judge_48 : decode cX9_judge 48 = .ok (.iaload, 1) := by decide +kernel
theorem dX9_judge_49 : decode cX9_judge 49 = .ok (.ifCond .ne 7, 3) := by decide +kernel
theorem dX9_judge_52 : decode cX9_judge 52 = .ok (.iconst 1, 1) := by decide +kernel
theorem dX9_judge_53 : decode cX9_judge 53 = .ok (.goto 4, 3) := by decide +kernel
theorem dX9_judge_56 : decode cX9_judge 56 = .ok (.iconst 0, 1) := by decide +kernel
theorem dX9_judge_57 : decode cX9_judge 57 = .ok (.istore 5, 2) := by decide +kernel
theorem dX9_judge_59 : decode cX9_judge 59 = .ok (.iload_n 3, 1) := by decide +kernel
theorem dX9_judge_60 : decode cX9_judge 60 = .ok (.ifCond .eq 12, 3) := by decide +kernel
theorem dX9_judge_63 : decode cX9_judge 63 = .ok (.aload_n 0, 1) := by decide +kernel
theorem dX9_judge_64 : decode cX9_judge 64 = .ok (.getfield 47, 3) := by decide +kernel
theorem dX9_judge_67 : decode cX9_judge 67 = .ok (.iload_n 1, 1) := by decide +kernel
theorem dX9_judge_68 : decode cX9_judge 68 = .ok (.iaload, 1) := by decide +kernel
theorem dX9_judge_69 : decode cX9_judge 69 = .ok (.goto 4, 3) := by decide +kernel
theorem dX9_judge_72 : decode cX9_judge 72 = .ok (.iconst (-1), 1) := by decide +kernel
theorem dX9_judge_73 : decode cX9_judge 73 = .ok (.istore 6, 2) := by decide +kernel
theorem dX9_judge_75 : decode cX9_judge 75 = .ok (.iload_n 2, 1) := by decide +kernel
theorem dX9_judge_76 : decode cX9_judge 76 = .ok (.istore 7, 2) := by decide +kernel
theorem dX9_judge_78 : decode cX9_judge 78 = .ok (.iload_n 2, 1) := by decide +kernel
theorem dX9_judge_79 : decode cX9_judge 79 = .ok (.iconst (-1), 1) := by decide +kernel
theorem dX9_judge_80 : decode cX9_judge 80 = .ok (.if_icmp .ne 91, 3) := by decide +kernel
theorem dX9_judge_83 : decode cX9_judge 83 = .ok (.iload 5, 2) := by decide +kernel
theorem dX9_judge_85 : decode cX9_judge 85 = .ok (.ifCond .eq 86, 3) := by decide +kernel
theorem dX9_judge_88 : decode cX9_judge 88 = .ok (.aload_n 0, 1) := by decide +kernel
theorem dX9_judge_89 : decode cX9_judge 89 = .ok (.iload_n 1, 1) := by decide +kernel
theorem dX9_judge_90 : decode cX9_judge 90 = .ok (.iconst 0, 1) := by decide +kernel
theorem dX9_judge_91 : decode cX9_judge 91 = .ok (.invokevirtual 220, 3) := by decide +kernel
theorem dX9_judge_94 : decode cX9_judge 94 = .ok (.iconst (-1), 1) := by decide +kernel
theorem dX9_judge_95 : decode cX9_judge 95 = .ok (.if_icmp .eq 40, 3) := by decide +kernel
theorem dX9_judge_98 : decode cX9_judge 98 = .ok (.aload_n 0, 1) := by decide +kernel
theorem dX9_judge_99 : decode cX9_judge 99 = .ok (.iload_n 1, 1) := by decide +kernel
theorem dX9_judge_100 : decode cX9_judge 100 = .ok (.invokevirtual 241, 3) := by decide +kernel
theorem dX9_judge_103 : decode cX9_judge 103 = .ok (.ifCond .ne 32, 3) := by decide +kernel
theorem dX9_judge_106 : decode cX9_judge 106 = .ok (.aload_n 0, 1) := by decide +kernel
theorem dX9_judge_107 : decode cX9_judge 107 = .ok (.iload_n 1, 1) := by decide +kernel
theorem dX9_judge_108 : decode cX9_judge 108 = .ok (.invokevirtual 227, 3) := by decide +kernel
theorem dX9_judge_111 : decode cX9_judge 111 = .ok (.ifCond .ne 24, 3) := by decide +kernel
theorem dX9_judge_114 : decode cX9_judge 114 = .ok (.aload_n 0, 1) := by decide +kernel
theorem dX9_judge_115 : decode cX9_judge 115 = .ok (.aload_n 0, 1) := by decide +kernel
theorem dX9_judge_116 : decode cX9_judge 116 = .ok (.iload_n 1, 1) := by decide +kernel
theorem dX9_judge_117 : decode cX9_judge 117 = .ok (.invokevirtual 244, 3) := by decide +kernel
theorem dX9_judge_120 : decode cX9_judge 120 = .ok (.invokevirtual 207, 3) := by decide +kernel
theorem dX9_judge_123 : decode cX9_judge 123 = .ok (.ifCond .eq 12, 3) := by decide +kernel
theorem dX9_judge_126 : decode cX9_judge 126 = .ok (.iload 6, 2) := by decide +kernel
theorem dX9_judge_128 : decode cX9_judge 128 = .ok (.ifCond .eq 7, 3) := by decide +kernel
theorem dX9_judge_131 : decode cX9_judge 131 = .ok (.iconst 1, 1) := by decide +kernel
theorem dX9_judge_132 : decode cX9_judge 132 = .ok (.goto 4, 3) := by decide +kernel
theorem dX9_judge_135 : decode cX9_judge 135 = .ok (.iconst 0, 1) := by decide +kernel
theorem dX9_judge_136 : decode cX9_judge 136 = .ok (.istore 5, 2) := by decide +kernel
theorem dX9_judge_138 : decode cX9_judge 138 = .ok (.iload 6, 2) := by decide +kernel
theorem dX9_judge_140 : decode cX9_judge 140 = .ok (.iconst (-1), 1) := by decide +kernel
theorem dX9_judge_141 : decode cX9_judge 141 = .ok (.if_icmp .eq 19, 3) := by decide +kernel
theorem dX9_judge_144 : decode cX9_judge 144 = .ok (.iload 6, 2) := by decide +kernel
theorem dX9_judge_146 : decode cX9_judge 146 = .ok (.aload_n 0, 1) := by decide +kernel
theorem dX9_judge_147 : decode cX9_judge 147 = .ok (.getfield 44, 3) := by decide +kernel
theorem dX9_judge_150 : decode cX9_judge 150 = .ok (.iload_n 1, 1) := by decide +kernel
theorem dX9_judge_151 : decode cX9_judge 151 = .ok (.iaload, 1) := by decide +kernel
theorem dX9_judge_152 : decode cX9_judge 152 = .ok (.if_icmp .ge 8, 3) := by decide +kernel
theorem dX9_judge_155 : decode cX9_judge 155 = .ok (.iload 6, 2) := by decide +kernel
theorem dX9_judge_157 : decode cX9_judge 157 = .ok (.goto 9, 3) := by decide +kernel
theorem dX9_judge_160 : decode cX9_judge 160 = .ok (.aload_n 0, 1) := by decide +kernel
theorem dX9_judge_161 : decode cX9_judge 161 = .ok (.getfield 44, 3) := by decide +kernel
theorem dX9_judge_164 : decode cX9_judge 164 = .ok (.iload_n 1, 1) := by decide +kernel
theorem dX9_judge_165 : decode cX9_judge 165 = .ok (.iaload, 1) := by decide +kernel
theorem dX9_judge_166 : decode cX9_judge 166 = .ok (.istore 7, 2) := by decide +kernel
theorem dX9_judge_168 : decode cX9_judge 168 = .ok (.goto 35, 3) := by decide +kernel
theorem dX9_judge_171 : decode cX9_judge 171 = .ok (.iload 5, 2) := by decide +kernel
theorem dX9_judge_173 : decode cX9_judge 173 = .ok (.ifCond .eq 30, 3) := by decide +kernel
theorem dX9_judge_176 : decode cX9_judge 176 = .ok (.aload_n 0, 1) := by decide +kernel
theorem dX9_judge_177 : decode cX9_judge 177 = .ok (.iload_n 1, 1) := by decide +kernel
theorem dX9_judge_178 : decode cX9_judge 178 = .ok (.invokevirtual 241, 3) := by decide +kernel
theorem dX9_judge_181 : decode cX9_judge 181 = .ok (.ifCond .eq 19, 3) := by decide +kernel
theorem dX9_judge_184 : decode cX9_judge 184 = .ok (.iload 6, 2) := by decide +kernel
theorem dX9_judge_186 : decode cX9_judge 186 = .ok (.iconst (-1), 1) := by decide +kernel
theorem dX9_judge_187 : decode cX9_judge 187 = .ok (.if_icmp .eq 9, 3) := by decide +kernel
theorem dX9_judge_190 : decode cX9_judge 190 = .ok (.iload_n 2, 1) := by decide +kernel
theorem dX9_judge_191 : decode cX9_judge 191 = .ok (.iload 6, 2) := by decide +kernel
theorem dX9_judge_193 : decode cX9_judge 193 = .ok (.if_icmp .gt 7, 3) := by decide +kernel
theorem dX9_judge_196 : decode cX9_judge 196 = .ok (.iconst 1, 1) := by decide +kernel
theorem dX9_judge_197 : decode cX9_judge 197 = .ok (.goto 4, 3) := by decide +kernel
theorem dX9_judge_200 : decode cX9_judge 200 = .ok (.iconst 0, 1) := by decide +kernel
theorem dX9_judge_201 : decode cX9_judge 201 = .ok (.istore 5, 2) := by decide +kernel
theorem dX9_judge_203 : decode cX9_judge 203 = .ok (.aload_n 0, 1) := by decide +kernel
theorem dX9_judge_204 : decode cX9_judge 204 = .ok (.iload_n 3, 1) := by decide +kernel
theorem dX9_judge_205 : decode cX9_judge 205 = .ok (.ifCond .ne 7, 3) := by decide +kernel
theorem dX9_judge_208 : decode cX9_judge 208 = .ok (.iconst 1, 1) := by decide +kernel
theorem dX9_judge_209 : decode cX9_judge 209 = .ok (.goto 22, 3) := by decide +kernel
theorem dX9_judge_212 : decode cX9_judge 212 = .ok (.iload 4, 2) := by decide +kernel
theorem dX9_judge_214 : decode cX9_judge 214 = .ok (.ifCond .ne 7, 3) := by decide +kernel
theorem dX9_judge_217 : decode cX9_judge 217 = .ok (.iconst 2, 1) := by decide +kernel
theorem dX9_judge_218 : decode cX9_judge 218 = .ok (.goto 13, 3) := by decide +kernel
theorem dX9_judge_221 : decode cX9_judge 221 = .ok (.iload 5, 2) := by decide +kernel
theorem dX9_judge_223 : decode cX9_judge 223 = .ok (.ifCond .ne 7, 3) := by decide +kernel
theorem dX9_judge_226 : decode cX9_judge 226 = .ok (.iconst 3, 1) := by decide +kernel
theorem dX9_judge_227 : decode cX9_judge 227 = .ok (.goto 4, 3) := by decide +kernel
theorem dX9_judge_230 : decode cX9_judge 230 = .ok (.iconst 0, 1) := by decide +kernel
theorem dX9_judge_231 : decode cX9_judge 231 = .ok (.invokevirtual 155, 3) := by decide +kernel
theorem dX9_judge_234 : decode cX9_judge 234 = .ok (.ifCond .eq 5, 3) := by decide +kernel
theorem dX9_judge_237 : decode cX9_judge 237 = .ok (.iconst 0, 1) := by decide +kernel
theorem dX9_judge_238 : decode cX9_judge 238 = .ok (.ireturn, 1) := by decide +kernel
theorem dX9_judge_239 : decode cX9_judge 239 = .ok (.aload_n 0, 1) := by decide +kernel
theorem dX9_judge_240 : decode cX9_judge 240 = .ok (.iconst 5, 1) := by decide +kernel
theorem dX9_judge_241 : decode cX9_judge 241 = .ok (.iload_n 1, 1) := by decide +kernel
theorem dX9_judge_242 : decode cX9_judge 242 = .ok (.iload 7, 2) := by decide +kernel
theorem dX9_judge_244 : decode cX9_judge 244 = .ok (.iconst 0, 1) := by decide +kernel
theorem dX9_judge_245 : decode cX9_judge 245 = .ok (.invokevirtual 237, 3) := by decide +kernel
theorem dX9_judge_248 : decode cX9_judge 248 = .ok (.istore 8, 2) := by decide +kernel
theorem dX9_judge_250 : decode cX9_judge 250 = .ok (.aload_n 0, 1) := by decide +kernel
theorem dX9_judge_251 : decode cX9_judge 251 = .ok (.getfield 41, 3) := by decide +kernel
theorem dX9_judge_254 : decode cX9_judge 254 = .ok (.iload_n 1, 1) := by decide +kernel
theorem dX9_judge_255 : decode cX9_judge 255 = .ok (.iload 7, 2) := by decide +kernel
theorem dX9_judge_257 : decode cX9_judge 257 = .ok (.ifCond .ne 7, 3) := by decide +kernel
theorem dX9_judge_260 : decode cX9_judge 260 = .ok (.iconst 1, 1) := by decide +kernel
theorem dX9_judge_261 : decode cX9_judge 261 = .ok (.goto 4, 3) := by decide +kernel
theorem dX9_judge_264 : decode cX9_judge 264 = .ok (.iconst 2, 1) := by decide +kernel
theorem dX9_judge_265 : decode cX9_judge 265 = .ok (.iastore, 1) := by decide +kernel
theorem dX9_judge_266 : decode cX9_judge 266 = .ok (.aload_n 0, 1) := by decide +kernel
theorem dX9_judge_267 : decode cX9_judge 267 = .ok (.getfield 44, 3) := by decide +kernel
theorem dX9_judge_270 : decode cX9_judge 270 = .ok (.iload_n 1, 1) := by decide +kernel
theorem dX9_judge_271 : decode cX9_judge 271 = .ok (.iload 7, 2) := by decide +kernel
theorem dX9_judge_273 : decode cX9_judge 273 = .ok (.ifCond .ne 12, 3) := by decide +kernel
theorem dX9_judge_276 : decode cX9_judge 276 = .ok (.aload_n 0, 1) := by decide +kernel
theorem dX9_judge_277 : decode cX9_judge 277 = .ok (.getfield 44, 3) := by decide +kernel
theorem dX9_judge_280 : decode cX9_judge 280 = .ok (.iload_n 1, 1) := by decide +kernel
theorem dX9_judge_281 : decode cX9_judge 281 = .ok (.iaload, 1) := by decide +kernel
theorem dX9_judge_282 : decode cX9_judge 282 = .ok (.goto 5, 3) := by decide +kernel
theorem dX9_judge_285 : decode cX9_judge 285 = .ok (.iload 7, 2) := by decide +kernel
theorem dX9_judge_287 : decode cX9_judge 287 = .ok (.iastore, 1) := by decide +kernel
theorem dX9_judge_288 : decode cX9_judge 288 = .ok (.iload 8, 2) := by decide +kernel
theorem dX9_judge_290 : decode cX9_judge 290 = .ok (.ireturn, 1) := by decide +kernel
theorem dX9_latestOrder_0 : decode cX9_latestOrder 0 = .ok (.iconst (-1), 1) := by decide +kernel
theorem dX9_latestOrder_1 : decode cX9_latestOrder 1 = .ok (.istore_n 2, 1) := by decide +kernel
theorem dX9_latestOrder_2 : decode cX9_latestOrder 2 = .ok (.iconst 0, 1) := by decide +kernel
theorem dX9_latestOrder_3 : decode cX9_latestOrder 3 = .ok (.istore_n 3, 1) := by decide +kernel
theorem dX9_latestOrder_4 : decode cX9_latestOrder 4 = .ok (.iload_n 3, 1) := by decide +kernel
theorem dX9_latestOrder_5 : decode cX9_latestOrder 5 = .ok (.aload_n 0, 1) := by decide +kernel
theorem dX9_latestOrder_6 : decode cX9_latestOrder 6 = .ok (.getfield 171, 3) := by decide +kernel
theorem dX9_latestOrder_9 : decode cX9_latestOrder 9 = .ok (.if_icmp .ge 82, 3) := by decide +kernel
theorem dX9_latestOrder_12 : decode cX9_latestOrder 12 = .ok (.aload_n 0, 1) := by decide +kernel
theorem dX9_latestOrder_13 : decode cX9_latestOrder 13 = .ok (.getfield 65, 3) := by decide +kernel
theorem dX9_latestOrder_16 : decode cX9_latestOrder 16 = .ok (.iload_n 3, 1) := by decide +kernel
theorem dX9_latestOrder_17 : decode cX9_latestOrder 17 = .ok (.iaload, 1) := by decide +kernel
theorem dX9_latestOrder_18 : decode cX9_latestOrder 18 = .ok (.iconst 4, 1) := by decide +kernel
theorem dX9_latestOrder_19 : decode cX9_latestOrder 19 = .ok (.if_icmp .eq 29, 3) := by decide +kernel
theorem dX9_latestOrder_22 : decode cX9_latestOrder 22 = .ok (.aload_n 0, 1) := by decide +kernel
theorem dX9_latestOrder_23 : decode cX9_latestOrder 23 = .ok (.getfield 65, 3) := by decide +kernel
theorem dX9_latestOrder_26 : decode cX9_latestOrder 26 = .ok (.iload_n 3, 1) := by decide +kernel
theorem dX9_latestOrder_27 : decode cX9_latestOrder 27 = .ok (.iaload, 1) := by decide +kernel
theorem dX9_latestOrder_28 : decode cX9_latestOrder 28 = .ok (.iconst 5, 1) := by decide +kernel
theorem dX9_latestOrder_29 : decode cX9_latestOrder 29 = .ok (.if_icmp .eq 19, 3) := by decide +kernel
theorem dX9_latestOrder_32 : decode cX9_latestOrder 32 = .ok (.aload_n 0, 1) := by decide +kernel
theorem dX9_latestOrder_33 : decode cX9_latestOrder 33 = .ok (.getfield 65, 3) := by decide +kernel
theorem dX9_latestOrder_36 : decode cX9_latestOrder 36 = .ok (.iload_n 3, 1) := by decide +kernel
theorem dX9_latestOrder_37 : decode cX9_latestOrder 37 = .ok (.iaload, 1) := by decide +kernel
theorem dX9_latestOrder_38 : decode cX9_latestOrder 38 = .ok (.bipush 7, 2) := by decide +kernel
theorem dX9_latestOrder_40 : decode cX9_latestOrder 40 = .ok (.bipush 10, 2) := by decide +kernel
theorem dX9_latestOrder_42 : decode cX9_latestOrder 42 = .ok (.invokestatic 148, 3) := by decide +kernel
theorem dX9_latestOrder_45 : decode cX9_latestOrder 45 = .ok (.ifCond .eq 7, 3) := by decide +kernel
theorem dX9_latestOrder_48 : decode cX9_latestOrder 48 = .ok (.iconst 1, 1) := by decide +kernel
theorem dX9_latestOrder_49 : decode cX9_latestOrder 49 = .ok (.goto 4, 3) := by decide +kernel
theorem dX9_latestOrder_52 : decode cX9_latestOrder 52 = .ok (.iconst 0, 1) := by decide +kernel
theorem dX9_latestOrder_53 : decode cX9_latestOrder 53 = .ok (.istore 4, 2) := by decide +kernel
theorem dX9_latestOrder_55 : decode cX9_latestOrder 55 = .ok (.iload 4, 2) := by decide +kernel
theorem dX9_latestOrder_57 : decode cX9_latestOrder 57 = .ok (.ifCond .eq 26, 3) := by decide +kernel
theorem dX9_latestOrder_60 : decode cX9_latestOrder 60 = .ok (.aload_n 0, 1) := by decide +kernel
theorem dX9_latestOrder_61 : decode cX9_latestOrder 61 = .ok (.getfield 71, 3) := by decide +kernel
theorem dX9_latestOrder_64 : decode cX9_latestOrder 64 = .ok (.iload_n 3, 1) := by decide +kernel
theorem dX9_latestOrder_65 : decode cX9_latestOrder 65 = .ok (.iaload, 1) := by decide +kernel
theorem dX9_latestOrder_66 : decode cX9_latestOrder 66 = .ok (.iload_n 1, 1) := by decide +kernel
theorem dX9_latestOrder_67 : decode cX9_latestOrder 67 = .ok (.if_icmp .ne 16, 3) := by decide +kernel
theorem dX9_latestOrder_70 : decode cX9_latestOrder 70 = .ok (.aload_n 0, 1) := by decide +kernel
theorem dX9_latestOrder_71 : decode cX9_latestOrder 71 = .ok (.getfield 95, 3) := by decide +kernel
theorem dX9_latestOrder_74 : decode cX9_latestOrder 74 = .ok (.iload_n 3, 1) := by decide +kernel
theorem dX9_latestOrder_75 : decode cX9_latestOrder 75 = .ok (.baload, 1) := by decide +kernel
theorem dX9_latestOrder_76 : decode cX9_latestOrder 76 = .ok (.ifCond .ne 7, 3) := by decide +kernel
theorem dX9_latestOrder_79 : decode cX9_latestOrder 79 = .ok (.iload_n 3, 1) := by decide +kernel
theorem dX9_latestOrder_80 : decode cX9_latestOrder 80 = .ok (.goto 4, 3) := by decide +kernel
theorem dX9_latestOrder_83 : decode cX9_latestOrder 83 = .ok (.iload_n 2, 1) := by decide +kernel
theorem dX9_latestOrder_84 : decode cX9_latestOrder 84 = .ok (.istore_n 2, 1) := by decide +kernel
theorem dX9_latestOrder_85 : decode cX9_latestOrder 85 = .ok (.iinc 3 1, 3) := by decide +kernel
theorem dX9_latestOrder_88 : decode cX9_latestOrder 88 = .ok (.goto (-84), 3) := by decide +kernel
theorem dX9_latestOrder_91 : decode cX9_latestOrder 91 = .ok (.iload_n 2, 1) := by decide +kernel
theorem dX9_latestOrder_92 : decode cX9_latestOrder 92 = .ok (.ireturn, 1) := by decide +kernel
theorem dX9_vacate_0 : decode cX9_vacate 0 = .ok (.aload_n 0, 1) := by decide +kernel
theorem dX9_vacate_1 : decode cX9_vacate 1 = .ok (.iload_n 1, 1) := by decide +kernel
theorem dX9_vacate_2 : decode cX9_vacate 2 = .ok (.invokevirtual 195, 3) := by decide +kernel
theorem dX9_vacate_5 : decode cX9_vacate 5 = .ok (.istore_n 2, 1) := by decide +kernel
theorem dX9_vacate_6 : decode cX9_vacate 6 = .ok (.iload_n 2, 1) := by decide +kernel
theorem dX9_vacate_7 : decode cX9_vacate 7 = .ok (.ifCond .eq 11, 3) := by decide +kernel
theorem dX9_vacate_10 : decode cX9_vacate 10 = .ok (.aload_n 0, 1) := by decide +kernel
theorem dX9_vacate_11 : decode cX9_vacate 11 = .ok (.iload_n 1, 1) := by decide +kernel
theorem dX9_vacate_12 : decode cX9_vacate 12 = .ok (.invokevirtual 259, 3) := by decide +kernel
theorem dX9_vacate_15 : decode cX9_vacate 15 = .ok (.goto 4, 3) := by decide +kernel
theorem dX9_vacate_18 : decode cX9_vacate 18 = .ok (.iconst (-1), 1) := by decide +kernel
theorem dX9_vacate_19 : decode cX9_vacate 19 = .ok (.istore_n 3, 1) := by decide +kernel
theorem dX9_vacate_20 : decode cX9_vacate 20 = .ok (.iload_n 3, 1) := by decide +kernel
theorem dX9_vacate_21 : decode cX9_vacate 21 = .ok (.iconst (-1), 1) := by decide +kernel
theorem dX9_vacate_22 : decode cX9_vacate 22 = .ok (.if_icmp .eq 44, 3) := by decide +kernel
theorem dX9_vacate_25 : decode cX9_vacate 25 = .ok (.aload_n 0, 1) := by decide +kernel
theorem dX9_vacate_26 : decode cX9_vacate 26 = .ok (.invokevirtual 233, 3) := by decide +kernel
theorem dX9_vacate_29 : decode cX9_vacate 29 = .ok (.ifCond .eq 37, 3) := by decide +kernel
theorem dX9_vacate_32 : decode cX9_vacate 32 = .ok (.aload_n 0, 1) := by decide +kernel
theorem dX9_vacate_33 : decode cX9_vacate 33 = .ok (.getfield 65, 3) := by decide +kernel
theorem dX9_vacate_36 : decode cX9_vacate 36 = .ok (.iload_n 3, 1) := by decide +kernel
theorem dX9_vacate_37 : decode cX9_vacate 37 = .ok (.iaload, 1) := by decide +kernel
theorem dX9_vacate_38 : decode cX9_vacate 38 = .ok (.iconst 4, 1) := by decide +kernel
theorem dX9_vacate_39 : decode cX9_vacate 39 = .ok (.if_icmp .ne 13, 3) := by decide +kernel
theorem dX9_vacate_42 : decode cX9_vacate 42 = .ok (.aload_n 0, 1) := by decide +kernel
theorem dX9_vacate_43 : decode cX9_vacate 43 = .ok (.getfield 74, 3) := by decide +kernel
theorem dX9_vacate_46 : decode cX9_vacate 46 = .ok (.iload_n 3, 1) := by decide +kernel
theorem dX9_vacate_47 : decode cX9_vacate 47 = .ok (.iaload, 1) := by decide +kernel
theorem dX9_vacate_48 : decode cX9_vacate 48 = .ok (.iconst (-1), 1) := by decide +kernel
theorem dX9_vacate_49 : decode cX9_vacate 49 = .ok (.if_icmp .ne 13, 3) := by decide +kernel
theorem dX9_vacate_52 : decode cX9_vacate 52 = .ok (.aload_n 0, 1) := by decide +kernel
theorem dX9_vacate_53 : decode cX9_vacate 53 = .ok (.getfield 65, 3) := by decide +kernel
theorem dX9_vacate_56 : decode cX9_vacate 56 = .ok (.iload_n 3, 1) := by decide +kernel
theorem dX9_vacate_57 : decode cX9_vacate 57 = .ok (.iaload, 1) := by decide +kernel
theorem dX9_vacate_58 : decode cX9_vacate 58 = .ok (.iconst 5, 1) := by decide +kernel
theorem dX9_vacate_59 : decode cX9_vacate 59 = .ok (.if_icmp .ne 7, 3) := by decide +kernel
theorem dX9_vacate_62 : decode cX9_vacate 62 = .ok (.iconst 1, 1) := by decide +kernel
theorem dX9_vacate_63 : decode cX9_vacate 63 = .ok (.goto 4, 3) := by decide +kernel
theorem dX9_vacate_66 : decode cX9_vacate 66 = .ok (.iconst 0, 1) := by decide +kernel
theorem dX9_vacate_67 : decode cX9_vacate 67 = .ok (.istore 4, 2) := by decide +kernel
theorem dX9_vacate_69 : decode cX9_vacate 69 = .ok (.aload_n 0, 1) := by decide +kernel
theorem dX9_vacate_70 : decode cX9_vacate 70 = .ok (.iload_n 2, 1) := by decide +kernel
theorem dX9_vacate_71 : decode cX9_vacate 71 = .ok (.ifCond .ne 7, 3) := by decide +kernel
theorem dX9_vacate_74 : decode cX9_vacate 74 = .ok (.iconst 1, 1) := by decide +kernel
theorem dX9_vacate_75 : decode cX9_vacate 75 = .ok (.goto 13, 3) := by decide +kernel
theorem dX9_vacate_78 : decode cX9_vacate 78 = .ok (.iload 4, 2) := by decide +kernel
theorem dX9_vacate_80 : decode cX9_vacate 80 = .ok (.ifCond .ne 7, 3) := by decide +kernel
theorem dX9_vacate_83 : decode cX9_vacate 83 = .ok (.iconst 2, 1) := by decide +kernel
theorem dX9_vacate_84 : decode cX9_vacate 84 = .ok (.goto 4, 3) := by decide +kernel
theorem dX9_vacate_87 : decode cX9_vacate 87 = .ok (.iconst 0, 1) := by decide +kernel
theorem dX9_vacate_88 : decode cX9_vacate 88 = .ok (.invokevirtual 155, 3) := by decide +kernel
theorem dX9_vacate_91 : decode cX9_vacate 91 = .ok (.ifCond .eq 5, 3) := by decide +kernel
theorem dX9_vacate_94 : decode cX9_vacate 94 = .ok (.iconst 0, 1) := by decide +kernel
theorem dX9_vacate_95 : decode cX9_vacate 95 = .ok (.ireturn, 1) := by decide +kernel
theorem dX9_vacate_96 : decode cX9_vacate 96 = .ok (.aload_n 0, 1) := by decide +kernel
theorem dX9_vacate_97 : decode cX9_vacate 97 = .ok (.bipush 6, 2) := by decide +kernel
theorem dX9_vacate_99 : decode cX9_vacate 99 = .ok (.iload_n 1, 1) := by decide +kernel
theorem dX9_vacate_100 : decode cX9_vacate 100 = .ok (.iload_n 3, 1) := by decide +kernel
theorem dX9_vacate_101 : decode cX9_vacate 101 = .ok (.iconst 0, 1) := by decide +kernel
theorem dX9_vacate_102 : decode cX9_vacate 102 = .ok (.invokevirtual 237, 3) := by decide +kernel
theorem dX9_vacate_105 : decode cX9_vacate 105 = .ok (.istore 5, 2) := by decide +kernel
theorem dX9_vacate_107 : decode cX9_vacate 107 = .ok (.aload_n 0, 1) := by decide +kernel
theorem dX9_vacate_108 : decode cX9_vacate 108 = .ok (.getfield 95, 3) := by decide +kernel
theorem dX9_vacate_111 : decode cX9_vacate 111 = .ok (.iload_n 3, 1) := by decide +kernel
theorem dX9_vacate_112 : decode cX9_vacate 112 = .ok (.iconst 1, 1) := by decide +kernel
theorem dX9_vacate_113 : decode cX9_vacate 113 = .ok (.bastore, 1) := by decide +kernel
theorem dX9_vacate_114 : decode cX9_vacate 114 = .ok (.aload_n 0, 1) := by decide +kernel
theorem dX9_vacate_115 : decode cX9_vacate 115 = .ok (.getfield 41, 3) := by decide +kernel
theorem dX9_vacate_118 : decode cX9_vacate 118 = .ok (.iload_n 1, 1) := by decide +kernel
theorem dX9_vacate_119 : decode cX9_vacate 119 = .ok (.aload_n 0, 1) := by decide +kernel
theorem dX9_vacate_120 : decode cX9_vacate 120 = .ok (.getfield 86, 3) := by decide +kernel
theorem dX9_vacate_123 : decode cX9_vacate 123 = .ok (.iload_n 3, 1) := by decide +kernel
theorem dX9_vacate_124 : decode cX9_vacate 124 = .ok (.iaload, 1) := by decide +kernel
theorem dX9_vacate_125 : decode cX9_vacate 125 = .ok (.iastore, 1) := by decide +kernel
theorem dX9_vacate_126 : decode cX9_vacate 126 = .ok (.aload_n 0, 1) := by decide +kernel
theorem dX9_vacate_127 : decode cX9_vacate 127 = .ok (.getfield 44, 3) := by decide +kernel
theorem dX9_vacate_130 : decode cX9_vacate 130 = .ok (.iload_n 1, 1) := by decide +kernel
theorem dX9_vacate_131 : decode cX9_vacate 131 = .ok (.aload_n 0, 1) := by decide +kernel
theorem dX9_vacate_132 : decode cX9_vacate 132 = .ok (.getfield 89, 3) := by decide +kernel
theorem dX9_vacate_135 : decode cX9_vacate 135 = .ok (.iload_n 3, 1) := by decide +kernel
theorem dX9_vacate_136 : decode cX9_vacate 136 = .ok (.iaload, 1) := by decide +kernel
theorem dX9_vacate_137 : decode cX9_vacate 137 = .ok (.iastore, 1) := by decide +kernel
theorem dX9_vacate_138 : decode cX9_vacate 138 = .ok (.aload_n 0, 1) := by decide +kernel
theorem dX9_vacate_139 : decode cX9_vacate 139 = .ok (.getfield 47, 3) := by decide +kernel
theorem dX9_vacate_142 : decode cX9_vacate 142 = .ok (.iload_n 1, 1) := by decide +kernel
theorem dX9_vacate_143 : decode cX9_vacate 143 = .ok (.aload_n 0, 1) := by decide +kernel
theorem dX9_vacate_144 : decode cX9_vacate 144 = .ok (.getfield 92, 3) := by decide +kernel
theorem dX9_vacate_147 : decode cX9_vacate 147 = .ok (.iload_n 3, 1) := by decide +kernel
theorem dX9_vacate_148 : decode cX9_vacate 148 = .ok (.iaload, 1) := by decide +kernel
theorem dX9_vacate_149 : decode cX9_vacate 149 = .ok (.iastore, 1) := by decide +kernel
theorem dX9_vacate_150 : decode cX9_vacate 150 = .ok (.iload 5, 2) := by decide +kernel
theorem dX9_vacate_152 : decode cX9_vacate 152 = .ok (.ireturn, 1) := by decide +kernel
theorem dX9_paid_0 : decode cX9_paid 0 = .ok (.iconst 0, 1) := by decide +kernel
theorem dX9_paid_1 : decode cX9_paid 1 = .ok (.istore_n 2, 1) := by decide +kernel
theorem dX9_paid_2 : decode cX9_paid 2 = .ok (.iconst 0, 1) := by decide +kernel
theorem dX9_paid_3 : decode cX9_paid 3 = .ok (.istore_n 3, 1) := by decide +kernel
theorem dX9_paid_4 : decode cX9_paid 4 = .ok (.iload_n 3, 1) := by decide +kernel
theorem dX9_paid_5 : decode cX9_paid 5 = .ok (.aload_n 0, 1) := by decide +kernel
theorem dX9_paid_6 : decode cX9_paid 6 = .ok (.getfield 171, 3) := by decide +kernel
theorem dX9_paid_9 : decode cX9_paid 9 = .ok (.if_icmp .ge 43, 3) := by decide +kernel
theorem dX9_paid_12 : decode cX9_paid 12 = .ok (.iload_n 2, 1) := by decide +kernel
theorem dX9_paid_13 : decode cX9_paid 13 = .ok (.aload_n 0, 1) := by decide +kernel
theorem dX9_paid_14 : decode cX9_paid 14 = .ok (.getfield 65, 3) := by decide +kernel
theorem dX9_paid_17 : decode cX9_paid 17 = .ok (.iload_n 3, 1) := by decide +kernel
theorem dX9_paid_18 : decode cX9_paid 18 = .ok (.iaload, 1) := by decide +kernel
theorem dX9_paid_19 : decode cX9_paid 19 = .ok (.bipush 10, 2) := by decide +kernel
theorem dX9_paid_21 : decode cX9_paid 21 = .ok (.if_icmp .ne 22, 3) := by decide +kernel
theorem dX9_paid_24 : decode cX9_paid 24 = .ok (.aload_n 0, 1) := by decide +kernel
theorem dX9_paid_25 : decode cX9_paid 25 = .ok (.getfield 71, 3) := by decide +kernel
theorem dX9_paid_28 : decode cX9_paid 28 = .ok (.iload_n 3, 1) := by decide +kernel
theorem dX9_paid_29 : decode cX9_paid 29 = .ok (.iaload, 1) := by decide +kernel
theorem dX9_paid_30 : decode cX9_paid 30 = .ok (.iload_n 1, 1) := by decide +kernel
theorem dX9_paid_31 : decode cX9_paid 31 = .ok (.if_icmp .ne 12, 3) := by decide +kernel
theorem dX9_paid_34 : decode cX9_paid 34 = .ok (.aload_n 0, 1) := by decide +kernel
theorem dX9_paid_35 : decode cX9_paid 35 = .ok (.getfield 74, 3) := by decide +kernel
theorem dX9_paid_38 : decode cX9_paid 38 = .ok (.iload_n 3, 1) := by decide +kernel
theorem dX9_paid_39 : decode cX9_paid 39 = .ok (.iaload, 1) := by decide +kernel
theorem dX9_paid_40 : decode cX9_paid 40 = .ok (.goto 4, 3) := by decide +kernel
theorem dX9_paid_43 : decode cX9_paid 43 = .ok (.iconst 0, 1) := by decide +kernel
theorem dX9_paid_44 : decode cX9_paid 44 = .ok (.iadd, 1) := by decide +kernel
theorem dX9_paid_45 : decode cX9_paid 45 = .ok (.istore_n 2, 1) := by decide +kernel
theorem dX9_paid_46 : decode cX9_paid 46 = .ok (.iinc 3 1, 3) := by decide +kernel
theorem dX9_paid_49 : decode cX9_paid 49 = .ok (.goto (-45), 3) := by decide +kernel
theorem dX9_paid_52 : decode cX9_paid 52 = .ok (.iload_n 2, 1) := by decide +kernel
theorem dX9_paid_53 : decode cX9_paid 53 = .ok (.ireturn, 1) := by decide +kernel
theorem dX9_appeal_0 : decode cX9_appeal 0 = .ok (.aload_n 0, 1) := by decide +kernel
theorem dX9_appeal_1 : decode cX9_appeal 1 = .ok (.iload_n 1, 1) := by decide +kernel
theorem dX9_appeal_2 : decode cX9_appeal 2 = .ok (.invokevirtual 195, 3) := by decide +kernel
theorem dX9_appeal_5 : decode cX9_appeal 5 = .ok (.istore_n 2, 1) := by decide +kernel
theorem dX9_appeal_6 : decode cX9_appeal 6 = .ok (.iload_n 2, 1) := by decide +kernel
theorem dX9_appeal_7 : decode cX9_appeal 7 = .ok (.ifCond .eq 44, 3) := by decide +kernel
theorem dX9_appeal_10 : decode cX9_appeal 10 = .ok (.aload_n 0, 1) := by decide +kernel
theorem dX9_appeal_11 : decode cX9_appeal 11 = .ok (.invokevirtual 233, 3) := by decide +kernel
theorem dX9_appeal_14 : decode cX9_appeal 14 = .ok (.ifCond .eq 37, 3) := by decide +kernel
theorem dX9_appeal_17 : decode cX9_appeal 17 = .ok (.aload_n 0, 1) := by decide +kernel
theorem dX9_appeal_18 : decode cX9_appeal 18 = .ok (.getfield 41, 3) := by decide +kernel
theorem dX9_appeal_21 : decode cX9_appeal 21 = .ok (.iload_n 1, 1) := by decide +kernel
theorem dX9_appeal_22 : decode cX9_appeal 22 = .ok (.iaload, 1) := by decide +kernel
theorem dX9_appeal_23 : decode cX9_appeal 23 = .ok (.iconst 2, 1) := by decide +kernel
theorem dX9_appeal_24 : decode cX9_appeal 24 = .ok (.if_icmp .ne 27, 3) := by decide +kernel
theorem dX9_appeal_27 : decode cX9_appeal 27 = .ok (.aload_n 0, 1) := by decide +kernel
theorem dX9_appeal_28 : decode cX9_appeal 28 = .ok (.iload_n 1, 1) := by decide +kernel
theorem dX9_appeal_29 : decode cX9_appeal 29 = .ok (.invokevirtual 262, 3) := by decide +kernel
theorem dX9_appeal_32 : decode cX9_appeal 32 = .ok (.ifCond .ne 19, 3) := by decide +kernel
theorem dX9_appeal_35 : decode cX9_appeal 35 = .ok (.aload_n 0, 1) := by decide +kernel
theorem dX9_appeal_36 : decode cX9_appeal 36 = .ok (.aload_n 0, 1) := by decide +kernel
theorem dX9_appeal_37 : decode cX9_appeal 37 = .ok (.iload_n 1, 1) := by decide +kernel
theorem dX9_appeal_38 : decode cX9_appeal 38 = .ok (.invokevirtual 265, 3) := by decide +kernel
theorem dX9_appeal_41 : decode cX9_appeal 41 = .ok (.invokevirtual 207, 3) := by decide +kernel
theorem dX9_appeal_44 : decode cX9_appeal 44 = .ok (.ifCond .ne 7, 3) := by decide +kernel
theorem dX9_appeal_47 : decode cX9_appeal 47 = .ok (.iconst 1, 1) := by decide +kernel
theorem dX9_appeal_48 : decode cX9_appeal 48 = .ok (.goto 4, 3) := by decide +kernel
theorem dX9_appeal_51 : decode cX9_appeal 51 = .ok (.iconst 0, 1) := by decide +kernel
theorem dX9_appeal_52 : decode cX9_appeal 52 = .ok (.istore_n 3, 1) := by decide +kernel
theorem dX9_appeal_53 : decode cX9_appeal 53 = .ok (.iload_n 3, 1) := by decide +kernel
theorem dX9_appeal_54 : decode cX9_appeal 54 = .ok (.ifCond .eq 12, 3) := by decide +kernel
theorem dX9_appeal_57 : decode cX9_appeal 57 = .ok (.aload_n 0, 1) := by decide +kernel
theorem dX9_appeal_58 : decode cX9_appeal 58 = .ok (.iload_n 1, 1) := by decide +kernel
theorem dX9_appeal_59 : decode cX9_appeal 59 = .ok (.iconst 5, 1) := by decide +kernel
theorem dX9_appeal_60 : decode cX9_appeal 60 = .ok (.invokevirtual 220, 3) := by decide +kernel
theorem dX9_appeal_63 : decode cX9_appeal 63 = .ok (.goto 4, 3) := by decide +kernel
theorem dX9_appeal_66 : decode cX9_appeal 66 = .ok (.iconst (-1), 1) := by decide +kernel
theorem dX9_appeal_67 : decode cX9_appeal 67 = .ok (.istore 4, 2) := by decide +kernel
theorem dX9_appeal_69 : decode cX9_appeal 69 = .ok (.iconst 0, 1) := by decide +kernel
theorem dX9_appeal_70 : decode cX9_appeal 70 = .ok (.istore 5, 2) := by decide +kernel
theorem dX9_appeal_72 : decode cX9_appeal 72 = .ok (.iload 4, 2) := by decide +kernel
theorem dX9_appeal_74 : decode cX9_appeal 74 = .ok (.iconst 1, 1) := by decide +kernel
theorem dX9_appeal_75 : decode cX9_appeal 75 = .ok (.iadd, 1) := by decide +kernel
theorem dX9_appeal_76 : decode cX9_appeal 76 = .ok (.istore 6, 2) := by decide +kernel
theorem dX9_appeal_78 : decode cX9_appeal 78 = .ok (.iload 6, 2) := by decide +kernel
theorem dX9_appeal_80 : decode cX9_appeal 80 = .ok (.aload_n 0, 1) := by decide +kernel
theorem dX9_appeal_81 : decode cX9_appeal 81 = .ok (.getfield 171, 3) := by decide +kernel
theorem dX9_appeal_84 : decode cX9_appeal 84 = .ok (.if_icmp .ge 46, 3) := by decide +kernel
theorem dX9_appeal_87 : decode cX9_appeal 87 = .ok (.iload_n 3, 1) := by decide +kernel
theorem dX9_appeal_88 : decode cX9_appeal 88 = .ok (.ifCond .eq 42, 3) := by decide +kernel
theorem dX9_appeal_91 : decode cX9_appeal 91 = .ok (.iload 5, 2) := by decide +kernel
theorem dX9_appeal_93 : decode cX9_appeal 93 = .ok (.aload_n 0, 1) := by decide +kernel
theorem dX9_appeal_94 : decode cX9_appeal 94 = .ok (.getfield 65, 3) := by decide +kernel
theorem dX9_appeal_97 : decode cX9_appeal 97 = .ok (.iload 6, 2) := by decide +kernel
theorem dX9_appeal_99 : decode cX9_appeal 99 = .ok (.iaload, 1) := by decide +kernel
theorem dX9_appeal_100 : decode cX9_appeal 100 = .ok (.bipush 7, 2) := by decide +kernel
theorem dX9_appeal_102 : decode cX9_appeal 102 = .ok (.if_icmp .ne 18, 3) := by decide +kernel
theorem dX9_appeal_105 : decode cX9_appeal 105 = .ok (.aload_n 0, 1) := by decide +kernel
theorem dX9_appeal_106 : decode cX9_appeal 106 = .ok (.getfield 71, 3) := by decide +kernel
theorem dX9_appeal_109 : decode cX9_appeal 109 = .ok (.iload 6, 2) := by decide +kernel
theorem dX9_appeal_111 : decode cX9_appeal 111 = .ok (.iaload, 1) := by decide +kernel
theorem dX9_appeal_112 : decode cX9_appeal 112 = .ok (.iload_n 1, 1) := by decide +kernel
theorem dX9_appeal_113 : decode cX9_appeal 113 = .ok (.if_icmp .ne 7, 3) := by decide +kernel
theorem dX9_appeal_116 : decode cX9_appeal 116 = .ok (.iconst 1, 1) := by decide +kernel
theorem dX9_appeal_117 : decode cX9_appeal 117 = .ok (.goto 4, 3) := by decide +kernel
theorem dX9_appeal_120 : decode cX9_appeal 120 = .ok (.iconst 0, 1) := by decide +kernel
theorem dX9_appeal_121 : decode cX9_appeal 121 = .ok (.iadd, 1) := by decide +kernel
theorem dX9_appeal_122 : decode cX9_appeal 122 = .ok (.istore 5, 2) := by decide +kernel
theorem dX9_appeal_124 : decode cX9_appeal 124 = .ok (.iinc 6 1, 3) := by decide +kernel
theorem dX9_appeal_127 : decode cX9_appeal 127 = .ok (.goto (-49), 3) := by decide +kernel
theorem dX9_appeal_130 : decode cX9_appeal 130 = .ok (.aload_n 0, 1) := by decide +kernel
theorem dX9_appeal_131 : decode cX9_appeal 131 = .ok (.iload_n 2, 1) := by decide +kernel
theorem dX9_appeal_132 : decode cX9_appeal 132 = .ok (.ifCond .ne 7, 3) := by decide +kernel
theorem dX9_appeal_135 : decode cX9_appeal 135 = .ok (.iconst 1, 1) := by decide +kernel
theorem dX9_appeal_136 : decode cX9_appeal 136 = .ok (.goto 18, 3) := by decide +kernel
theorem dX9_appeal_139 : decode cX9_appeal 139 = .ok (.iload_n 3, 1) := by decide +kernel
theorem dX9_appeal_140 : decode cX9_appeal 140 = .ok (.ifCond .eq 9, 3) := by decide +kernel
theorem dX9_appeal_143 : decode cX9_appeal 143 = .ok (.iload 5, 2) := by decide +kernel
theorem dX9_appeal_145 : decode cX9_appeal 145 = .ok (.iconst 1, 1) := by decide +kernel
theorem dX9_appeal_146 : decode cX9_appeal 146 = .ok (.if_icmp .le 7, 3) := by decide +kernel
theorem dX9_appeal_149 : decode cX9_appeal 149 = .ok (.iconst 2, 1) := by decide +kernel
theorem dX9_appeal_150 : decode cX9_appeal 150 = .ok (.goto 4, 3) := by decide +kernel
theorem dX9_appeal_153 : decode cX9_appeal 153 = .ok (.iconst 0, 1) := by decide +kernel
theorem dX9_appeal_154 : decode cX9_appeal 154 = .ok (.invokevirtual 155, 3) := by decide +kernel
theorem dX9_appeal_157 : decode cX9_appeal 157 = .ok (.ifCond .eq 5, 3) := by decide +kernel
theorem dX9_appeal_160 : decode cX9_appeal 160 = .ok (.iconst 0, 1) := by decide +kernel
theorem dX9_appeal_161 : decode cX9_appeal 161 = .ok (.ireturn, 1) := by decide +kernel
theorem dX9_appeal_162 : decode cX9_appeal 162 = .ok (.aload_n 0, 1) := by decide +kernel
theorem dX9_appeal_163 : decode cX9_appeal 163 = .ok (.bipush 7, 2) := by decide +kernel
theorem dX9_appeal_165 : decode cX9_appeal 165 = .ok (.iload_n 1, 1) := by decide +kernel
theorem dX9_appeal_166 : decode cX9_appeal 166 = .ok (.iconst 0, 1) := by decide +kernel
theorem dX9_appeal_167 : decode cX9_appeal 167 = .ok (.iconst 0, 1) := by decide +kernel
theorem dX9_appeal_168 : decode cX9_appeal 168 = .ok (.invokevirtual 237, 3) := by decide +kernel
theorem dX9_appeal_171 : decode cX9_appeal 171 = .ok (.istore 6, 2) := by decide +kernel
theorem dX9_appeal_173 : decode cX9_appeal 173 = .ok (.aload_n 0, 1) := by decide +kernel
theorem dX9_appeal_174 : decode cX9_appeal 174 = .ok (.getfield 41, 3) := by decide +kernel
theorem dX9_appeal_177 : decode cX9_appeal 177 = .ok (.iload_n 1, 1) := by decide +kernel
theorem dX9_appeal_178 : decode cX9_appeal 178 = .ok (.iconst 3, 1) := by decide +kernel
theorem dX9_appeal_179 : decode cX9_appeal 179 = .ok (.iastore, 1) := by decide +kernel
theorem dX9_appeal_180 : decode cX9_appeal 180 = .ok (.iload 6, 2) := by decide +kernel
theorem dX9_appeal_182 : decode cX9_appeal 182 = .ok (.ireturn, 1) := by decide +kernel
theorem dX9_decide_0 : decode cX9_decide 0 = .ok (.aload_n 0, 1) := by decide +kernel
theorem dX9_decide_1 : decode cX9_decide 1 = .ok (.iload_n 1, 1) := by decide +kernel
theorem dX9_decide_2 : decode cX9_decide 2 = .ok (.invokevirtual 195, 3) := by decide +kernel
theorem dX9_decide_5 : decode cX9_decide 5 = .ok (.istore 4, 2) := by decide +kernel
theorem dX9_decide_7 : decode cX9_decide 7 = .ok (.iload 4, 2) := by decide +kernel
theorem dX9_decide_9 : decode cX9_decide 9 = .ok (.ifCond .eq 35, 3) := by decide +kernel
theorem dX9_decide_12 : decode cX9_decide 12 = .ok (.iload_n 2, 1) := by decide +kernel
theorem dX9_decide_13 : decode cX9_decide 13 = .ok (.iconst 0, 1) := by decide +kernel
theorem dX9_decide_14 : decode cX9_decide 14 = .ok (.iconst 2, 1) := by decide +kernel
theorem dX9_decide_15 : decode cX9_decide 15 = .ok (.invokestatic 148, 3) := by decide +kernel
theorem dX9_decide_18 : decode cX9_decide 18 = .ok (.ifCond .eq 26, 3) := by decide +kernel
theorem dX9_decide_21 : decode cX9_decide 21 = .ok (.iload_n 2, 1) := by decide +kernel
theorem dX9_decide_22 : decode cX9_decide 22 = .ok (.iconst 2, 1) := by decide +kernel
theorem dX9_decide_23 : decode cX9_decide 23 = .ok (.if_icmp .lt 17, 3) := by decide +kernel
theorem dX9_decide_26 : decode cX9_decide 26 = .ok (.iload_n 3, 1) := by decide +kernel
theorem dX9_decide_27 : decode cX9_decide 27 = .ok (.iconst 0, 1) := by decide +kernel
theorem dX9_decide_28 : decode cX9_decide 28 = .ok (.aload_n 0, 1) := by decide +kernel
theorem dX9_decide_29 : decode cX9_decide 29 = .ok (.getfield 44, 3) := by decide +kernel
theorem dX9_decide_32 : decode cX9_decide 32 = .ok (.iload_n 1, 1) := by decide +kernel
theorem dX9_decide_33 : decode cX9_decide 33 = .ok (.iaload, 1) := by decide +kernel
theorem dX9_decide_34 : decode cX9_decide 34 = .ok (.invokestatic 148, 3) := by decide +kernel
theorem dX9_decide_37 : decode cX9_decide 37 = .ok (.ifCond .eq 7, 3) := by decide +kernel
theorem dX9_decide_40 : decode cX9_decide 40 = .ok (.iconst 1, 1) := by decide +kernel
theorem dX9_decide_41 : decode cX9_decide 41 = .ok (.goto 4, 3) := by decide +kernel
theorem dX9_decide_44 : decode cX9_decide 44 = .ok (.iconst 0, 1) := by decide +kernel
theorem dX9_decide_45 : decode cX9_decide 45 = .ok (.istore 5, 2) := by decide +kernel
theorem dX9_decide_47 : decode cX9_decide 47 = .ok (.iload 4, 2) := by decide +kernel
theorem dX9_decide_49 : decode cX9_decide 49 = .ok (.ifCond .eq 24, 3) := by decide +kernel
theorem dX9_decide_52 : decode cX9_decide 52 = .ok (.aload_n 0, 1) := by decide +kernel
theorem dX9_decide_53 : decode cX9_decide 53 = .ok (.invokevirtual 233, 3) := by decide +kernel
theorem dX9_decide_56 : decode cX9_decide 56 = .ok (.ifCond .eq 17, 3) := by decide +kernel
theorem dX9_decide_59 : decode cX9_decide 59 = .ok (.aload_n 0, 1) := by decide +kernel
theorem dX9_decide_60 : decode cX9_decide 60 = .ok (.getfield 41, 3) := by decide +kernel
theorem dX9_decide_63 : decode cX9_decide 63 = .ok (.iload_n 1, 1) := by decide +kernel
theorem dX9_decide_64 : decode cX9_decide 64 = .ok (.iaload, 1) := by decide +kernel
theorem dX9_decide_65 : decode cX9_decide 65 = .ok (.iconst 3, 1) := by decide +kernel
theorem dX9_decide_66 : decode cX9_decide 66 = .ok (.if_icmp .ne 7, 3) := by decide +kernel
theorem dX9_decide_69 : decode cX9_decide 69 = .ok (.iconst 1, 1) := by decide +kernel
theorem dX9_decide_70 : decode cX9_decide 70 = .ok (.goto 4, 3) := by decide +kernel
theorem dX9_decide_73 : decode cX9_decide 73 = .ok (.iconst 0, 1) := by decide +kernel
theorem dX9_decide_74 : decode cX9_decide 74 = .ok (.istore 6, 2) := by decide +kernel
theorem dX9_decide_76 : decode cX9_decide 76 = .ok (.aload_n 0, 1) := by decide +kernel
theorem dX9_decide_77 : decode cX9_decide 77 = .ok (.iload 4, 2) := by decide +kernel
theorem dX9_decide_79 : decode cX9_decide 79 = .ok (.ifCond .ne 7, 3) := by decide +kernel
theorem dX9_decide_82 : decode cX9_decide 82 = .ok (.iconst 1, 1) := by decide +kernel
theorem dX9_decide_83 : decode cX9_decide 83 = .ok (.goto 22, 3) := by decide +kernel
theorem dX9_decide_86 : decode cX9_decide 86 = .ok (.iload 5, 2) := by decide +kernel
theorem dX9_decide_88 : decode cX9_decide 88 = .ok (.ifCond .ne 7, 3) := by decide +kernel
theorem dX9_decide_91 : decode cX9_decide 91 = .ok (.iconst 2, 1) := by decide +kernel
theorem dX9_decide_92 : decode cX9_decide 92 = .ok (.goto 13, 3) := by decide +kernel
theorem dX9_decide_95 : decode cX9_decide 95 = .ok (.iload 6, 2) := by decide +kernel
theorem dX9_decide_97 : decode cX9_decide 97 = .ok (.ifCond .ne 7, 3) := by decide +kernel
theorem dX9_decide_100 : decode cX9_decide 100 = .ok (.iconst 3, 1) := by decide +kernel
theorem dX9_decide_101 : decode cX9_decide 101 = .ok (.goto 4, 3) := by decide +kernel
theorem dX9_decide_104 : decode cX9_decide 104 = .ok (.iconst 0, 1) := by decide +kernel
theorem dX9_decide_105 : decode cX9_decide 105 = .ok (.invokevirtual 155, 3) := by decide +kernel
theorem dX9_decide_108 : decode cX9_decide 108 = .ok (.ifCond .eq 5, 3) := by decide +kernel
theorem dX9_decide_111 : decode cX9_decide 111 = .ok (.iconst 0, 1) := by decide +kernel
theorem dX9_decide_112 : decode cX9_decide 112 = .ok (.ireturn, 1) := by decide +kernel
theorem dX9_decide_113 : decode cX9_decide 113 = .ok (.aload_n 0, 1) := by decide +kernel
theorem dX9_decide_114 : decode cX9_decide 114 = .ok (.iload_n 1, 1) := by decide +kernel
theorem dX9_decide_115 : decode cX9_decide 115 = .ok (.iconst 5, 1) := by decide +kernel
theorem dX9_decide_116 : decode cX9_decide 116 = .ok (.invokevirtual 220, 3) := by decide +kernel
theorem dX9_decide_119 : decode cX9_decide 119 = .ok (.istore 7, 2) := by decide +kernel
theorem dX9_decide_121 : decode cX9_decide 121 = .ok (.aload_n 0, 1) := by decide +kernel
theorem dX9_decide_122 : decode cX9_decide 122 = .ok (.bipush 8, 2) := by decide +kernel
theorem dX9_decide_124 : decode cX9_decide 124 = .ok (.iload_n 1, 1) := by decide +kernel
theorem dX9_decide_125 : decode cX9_decide 125 = .ok (.iload_n 2, 1) := by decide +kernel
theorem dX9_decide_126 : decode cX9_decide 126 = .ok (.iload_n 2, 1) := by decide +kernel
theorem dX9_decide_127 : decode cX9_decide 127 = .ok (.iconst 2, 1) := by decide +kernel
theorem dX9_decide_128 : decode cX9_decide 128 = .ok (.if_icmp .ne 7, 3) := by decide +kernel
theorem dX9_decide_131 : decode cX9_decide 131 = .ok (.iload_n 3, 1) := by decide +kernel
theorem dX9_decide_132 : decode cX9_decide 132 = .ok (.goto 4, 3) := by decide +kernel
theorem dX9_decide_135 : decode cX9_decide 135 = .ok (.iconst 0, 1) := by decide +kernel
theorem dX9_decide_136 : decode cX9_decide 136 = .ok (.invokevirtual 237, 3) := by decide +kernel
theorem dX9_decide_139 : decode cX9_decide 139 = .ok (.istore 8, 2) := by decide +kernel
theorem dX9_decide_141 : decode cX9_decide 141 = .ok (.aload_n 0, 1) := by decide +kernel
theorem dX9_decide_142 : decode cX9_decide 142 = .ok (.getfield 41, 3) := by decide +kernel
theorem dX9_decide_145 : decode cX9_decide 145 = .ok (.iload_n 1, 1) := by decide +kernel
theorem dX9_decide_146 : decode cX9_decide 146 = .ok (.iload_n 2, 1) := by decide +kernel
theorem dX9_decide_147 : decode cX9_decide 147 = .ok (.ifCond .ne 7, 3) := by decide +kernel
theorem dX9_decide_150 : decode cX9_decide 150 = .ok (.iconst 2, 1) := by decide +kernel
theorem dX9_decide_151 : decode cX9_decide 151 = .ok (.goto 13, 3) := by decide +kernel
theorem dX9_decide_154 : decode cX9_decide 154 = .ok (.iload_n 2, 1) := by decide +kernel
theorem dX9_decide_155 : decode cX9_decide 155 = .ok (.iconst 1, 1) := by decide +kernel
theorem dX9_decide_156 : decode cX9_decide 156 = .ok (.if_icmp .ne 7, 3) := by decide +kernel
theorem dX9_decide_159 : decode cX9_decide 159 = .ok (.iconst 1, 1) := by decide +kernel
theorem dX9_decide_160 : decode cX9_decide 160 = .ok (.goto 4, 3) := by decide +kernel
theorem dX9_decide_163 : decode cX9_decide 163 = .ok (.iconst 0, 1) := by decide +kernel
theorem dX9_decide_164 : decode cX9_decide 164 = .ok (.iastore, 1) := by decide +kernel
theorem dX9_decide_165 : decode cX9_decide 165 = .ok (.iload_n 2, 1) := by decide +kernel
theorem dX9_decide_166 : decode cX9_decide 166 = .ok (.iconst 2, 1) := by decide +kernel
theorem dX9_decide_167 : decode cX9_decide 167 = .ok (.if_icmp .ne 23, 3) := by decide +kernel
theorem dX9_decide_170 : decode cX9_decide 170 = .ok (.aload_n 0, 1) := by decide +kernel
theorem dX9_decide_171 : decode cX9_decide 171 = .ok (.getfield 47, 3) := by decide +kernel
theorem dX9_decide_174 : decode cX9_decide 174 = .ok (.iload_n 1, 1) := by decide +kernel
theorem dX9_decide_175 : decode cX9_decide 175 = .ok (.iload_n 3, 1) := by decide +kernel
theorem dX9_decide_176 : decode cX9_decide 176 = .ok (.iastore, 1) := by decide +kernel
theorem dX9_decide_177 : decode cX9_decide 177 = .ok (.aload_n 0, 1) := by decide +kernel
theorem dX9_decide_178 : decode cX9_decide 178 = .ok (.getfield 44, 3) := by decide +kernel
theorem dX9_decide_181 : decode cX9_decide 181 = .ok (.iload_n 1, 1) := by decide +kernel
theorem dX9_decide_182 : decode cX9_decide 182 = .ok (.aload_n 0, 1) := by decide +kernel
theorem dX9_decide_183 : decode cX9_decide 183 = .ok (.getfield 89, 3) := by decide +kernel
theorem dX9_decide_186 : decode cX9_decide 186 = .ok (.iload 7, 2) := by decide +kernel
theorem dX9_decide_188 : decode cX9_decide 188 = .ok (.iaload, 1) := by decide +kernel
theorem dX9_decide_189 : decode cX9_decide 189 = .ok (.iastore, 1) := by decide +kernel
theorem dX9_decide_190 : decode cX9_decide 190 = .ok (.iload 8, 2) := by decide +kernel
theorem dX9_decide_192 : decode cX9_decide 192 = .ok (.ireturn, 1) := by decide +kernel
theorem dX9_settle_0 : decode cX9_settle 0 = .ok (.aload_n 0, 1) := by decide +kernel
theorem dX9_settle_1 : decode cX9_settle 1 = .ok (.iload_n 1, 1) := by decide +kernel
theorem dX9_settle_2 : decode cX9_settle 2 = .ok (.invokevirtual 195, 3) := by decide +kernel
theorem dX9_settle_5 : decode cX9_settle 5 = .ok (.istore_n 2, 1) := by decide +kernel
theorem dX9_settle_6 : decode cX9_settle 6 = .ok (.iload_n 2, 1) := by decide +kernel
theorem dX9_settle_7 : decode cX9_settle 7 = .ok (.ifCond .eq 43, 3) := by decide +kernel
theorem dX9_settle_10 : decode cX9_settle 10 = .ok (.aload_n 0, 1) := by decide +kernel
theorem dX9_settle_11 : decode cX9_settle 11 = .ok (.invokevirtual 233, 3) := by decide +kernel
theorem dX9_settle_14 : decode cX9_settle 14 = .ok (.ifCond .eq 36, 3) := by decide +kernel
theorem dX9_settle_17 : decode cX9_settle 17 = .ok (.aload_n 0, 1) := by decide +kernel
theorem dX9_settle_18 : decode cX9_settle 18 = .ok (.getfield 41, 3) := by decide +kernel
theorem dX9_settle_21 : decode cX9_settle 21 = .ok (.iload_n 1, 1) := by decide +kernel
theorem dX9_settle_22 : decode cX9_settle 22 = .ok (.iaload, 1) := by decide +kernel
theorem dX9_settle_23 : decode cX9_settle 23 = .ok (.ifCond .eq 23, 3) := by decide +kernel
theorem dX9_settle_26 : decode cX9_settle 26 = .ok (.aload_n 0, 1) := by decide +kernel
theorem dX9_settle_27 : decode cX9_settle 27 = .ok (.getfield 41, 3) := by decide +kernel
theorem dX9_settle_30 : decode cX9_settle 30 = .ok (.iload_n 1, 1) := by decide +kernel
theorem dX9_settle_31 : decode cX9_settle 31 = .ok (.iaload, 1) := by decide +kernel
theorem dX9_settle_32 : decode cX9_settle 32 = .ok (.iconst 2, 1) := by decide +kernel
theorem dX9_settle_33 : decode cX9_settle 33 = .ok (.if_icmp .eq 13, 3) := by decide +kernel
theorem dX9_settle_36 : decode cX9_settle 36 = .ok (.aload_n 0, 1) := by decide +kernel
theorem dX9_settle_37 : decode cX9_settle 37 = .ok (.getfield 41, 3) := by decide +kernel
theorem dX9_settle_40 : decode cX9_settle 40 = .ok (.iload_n 1, 1) := by decide +kernel
theorem dX9_settle_41 : decode cX9_settle 41 = .ok (.iaload, 1) := by decide +kernel
theorem dX9_settle_42 : decode cX9_settle 42 = .ok (.iconst 3, 1) := by decide +kernel
theorem dX9_settle_43 : decode cX9_settle 43 = .ok (.if_icmp .ne 7, 3) := by decide +kernel
theorem dX9_settle_46 : decode cX9_settle 46 = .ok (.iconst 1, 1) := by decide +kernel
theorem dX9_settle_47 : decode cX9_settle 47 = .ok (.goto 4, 3) := by decide +kernel
theorem dX9_settle_50 : decode cX9_settle 50 = .ok (.iconst 0, 1) := by decide +kernel
theorem dX9_settle_51 : decode cX9_settle 51 = .ok (.istore_n 3, 1) := by decide +kernel
theorem dX9_settle_52 : decode cX9_settle 52 = .ok (.aload_n 0, 1) := by decide +kernel
theorem dX9_settle_53 : decode cX9_settle 53 = .ok (.iload_n 2, 1) := by decide +kernel
theorem dX9_settle_54 : decode cX9_settle 54 = .ok (.ifCond .ne 7, 3) := by decide +kernel
theorem dX9_settle_57 : decode cX9_settle 57 = .ok (.iconst 1, 1) := by decide +kernel
theorem dX9_settle_58 : decode cX9_settle 58 = .ok (.goto 12, 3) := by decide +kernel
theorem dX9_settle_61 : decode cX9_settle 61 = .ok (.iload_n 3, 1) := by decide +kernel
theorem dX9_settle_62 : decode cX9_settle 62 = .ok (.ifCond .ne 7, 3) := by decide +kernel
theorem dX9_settle_65 : decode cX9_settle 65 = .ok (.iconst 2, 1) := by decide +kernel
theorem dX9_settle_66 : decode cX9_settle 66 = .ok (.goto 4, 3) := by decide +kernel
theorem dX9_settle_69 : decode cX9_settle 69 = .ok (.iconst 0, 1) := by decide +kernel
theorem dX9_settle_70 : decode cX9_settle 70 = .ok (.invokevirtual 155, 3) := by decide +kernel
theorem dX9_settle_73 : decode cX9_settle 73 = .ok (.ifCond .eq 5, 3) := by decide +kernel
theorem dX9_settle_76 : decode cX9_settle 76 = .ok (.iconst 0, 1) := by decide +kernel
theorem dX9_settle_77 : decode cX9_settle 77 = .ok (.ireturn, 1) := by decide +kernel
theorem dX9_settle_78 : decode cX9_settle 78 = .ok (.aload_n 0, 1) := by decide +kernel
theorem dX9_settle_79 : decode cX9_settle 79 = .ok (.bipush 9, 2) := by decide +kernel
theorem dX9_settle_81 : decode cX9_settle 81 = .ok (.iload_n 1, 1) := by decide +kernel
theorem dX9_settle_82 : decode cX9_settle 82 = .ok (.iconst 0, 1) := by decide +kernel
theorem dX9_settle_83 : decode cX9_settle 83 = .ok (.iconst 0, 1) := by decide +kernel
theorem dX9_settle_84 : decode cX9_settle 84 = .ok (.invokevirtual 237, 3) := by decide +kernel
theorem dX9_settle_87 : decode cX9_settle 87 = .ok (.istore 4, 2) := by decide +kernel
theorem dX9_settle_89 : decode cX9_settle 89 = .ok (.aload_n 0, 1) := by decide +kernel
theorem dX9_settle_90 : decode cX9_settle 90 = .ok (.getfield 41, 3) := by decide +kernel
theorem dX9_settle_93 : decode cX9_settle 93 = .ok (.iload_n 1, 1) := by decide +kernel
theorem dX9_settle_94 : decode cX9_settle 94 = .ok (.iconst 4, 1) := by decide +kernel
theorem dX9_settle_95 : decode cX9_settle 95 = .ok (.iastore, 1) := by decide +kernel
theorem dX9_settle_96 : decode cX9_settle 96 = .ok (.iload 4, 2) := by decide +kernel
theorem dX9_settle_98 : decode cX9_settle 98 = .ok (.ireturn, 1) := by decide +kernel
theorem dX9_owed_0 : decode cX9_owed 0 = .ok (.aload_n 0, 1) := by decide +kernel
theorem dX9_owed_1 : decode cX9_owed 1 = .ok (.getfield 41, 3) := by decide +kernel
theorem dX9_owed_4 : decode cX9_owed 4 = .ok (.iload_n 1, 1) := by decide +kernel
theorem dX9_owed_5 : decode cX9_owed 5 = .ok (.iaload, 1) := by decide +kernel
theorem dX9_owed_6 : decode cX9_owed 6 = .ok (.iconst 2, 1) := by decide +kernel
theorem dX9_owed_7 : decode cX9_owed 7 = .ok (.if_icmp .eq 5, 3) := by decide +kernel
theorem dX9_owed_10 : decode cX9_owed 10 = .ok (.iconst 0, 1) := by decide +kernel
theorem dX9_owed_11 : decode cX9_owed 11 = .ok (.ireturn, 1) := by decide +kernel
theorem dX9_owed_12 : decode cX9_owed 12 = .ok (.aload_n 0, 1) := by decide +kernel
theorem dX9_owed_13 : decode cX9_owed 13 = .ok (.getfield 152, 3) := by decide +kernel
theorem dX9_owed_16 : decode cX9_owed 16 = .ok (.aload_n 0, 1) := by decide +kernel
theorem dX9_owed_17 : decode cX9_owed 17 = .ok (.getfield 68, 3) := by decide +kernel
theorem dX9_owed_20 : decode cX9_owed 20 = .ok (.aload_n 0, 1) := by decide +kernel
theorem dX9_owed_21 : decode cX9_owed 21 = .ok (.iload_n 1, 1) := by decide +kernel
theorem dX9_owed_22 : decode cX9_owed 22 = .ok (.iconst 5, 1) := by decide +kernel
theorem dX9_owed_23 : decode cX9_owed 23 = .ok (.invokevirtual 220, 3) := by decide +kernel
theorem dX9_owed_26 : decode cX9_owed 26 = .ok (.iaload, 1) := by decide +kernel
theorem dX9_owed_27 : decode cX9_owed 27 = .ok (.isub, 1) := by decide +kernel
theorem dX9_owed_28 : decode cX9_owed 28 = .ok (.istore_n 2, 1) := by decide +kernel
theorem dX9_owed_29 : decode cX9_owed 29 = .ok (.aload_n 0, 1) := by decide +kernel
theorem dX9_owed_30 : decode cX9_owed 30 = .ok (.getfield 44, 3) := by decide +kernel
theorem dX9_owed_33 : decode cX9_owed 33 = .ok (.iload_n 1, 1) := by decide +kernel
theorem dX9_owed_34 : decode cX9_owed 34 = .ok (.iaload, 1) := by decide +kernel
theorem dX9_owed_35 : decode cX9_owed 35 = .ok (.aload_n 0, 1) := by decide +kernel
theorem dX9_owed_36 : decode cX9_owed 36 = .ok (.getfield 44, 3) := by decide +kernel
theorem dX9_owed_39 : decode cX9_owed 39 = .ok (.iload_n 1, 1) := by decide +kernel
theorem dX9_owed_40 : decode cX9_owed 40 = .ok (.iaload, 1) := by decide +kernel
theorem dX9_owed_41 : decode cX9_owed 41 = .ok (.iload_n 2, 1) := by decide +kernel
theorem dX9_owed_42 : decode cX9_owed 42 = .ok (.bipush 30, 2) := by decide +kernel
theorem dX9_owed_44 : decode cX9_owed 44 = .ok (.idiv, 1) := by decide +kernel
theorem dX9_owed_45 : decode cX9_owed 45 = .ok (.imul, 1) := by decide +kernel
theorem dX9_owed_46 : decode cX9_owed 46 = .ok (.bipush 100, 2) := by decide +kernel
theorem dX9_owed_48 : decode cX9_owed 48 = .ok (.idiv, 1) := by decide +kernel
theorem dX9_owed_49 : decode cX9_owed 49 = .ok (.iadd, 1) := by decide +kernel
theorem dX9_owed_50 : decode cX9_owed 50 = .ok (.aload_n 0, 1) := by decide +kernel
theorem dX9_owed_51 : decode cX9_owed 51 = .ok (.iload_n 1, 1) := by decide +kernel
theorem dX9_owed_52 : decode cX9_owed 52 = .ok (.invokevirtual 262, 3) := by decide +kernel
theorem dX9_owed_55 : decode cX9_owed 55 = .ok (.isub, 1) := by decide +kernel
theorem dX9_owed_56 : decode cX9_owed 56 = .ok (.ireturn, 1) := by decide +kernel
theorem dX9_pay_0 : decode cX9_pay 0 = .ok (.aload_n 0, 1) := by decide +kernel
theorem dX9_pay_1 : decode cX9_pay 1 = .ok (.iload_n 1, 1) := by decide +kernel
theorem dX9_pay_2 : decode cX9_pay 2 = .ok (.invokevirtual 195, 3) := by decide +kernel
theorem dX9_pay_5 : decode cX9_pay 5 = .ok (.istore_n 3, 1) := by decide +kernel
theorem dX9_pay_6 : decode cX9_pay 6 = .ok (.iload_n 3, 1) := by decide +kernel
theorem dX9_pay_7 : decode cX9_pay 7 = .ok (.ifCond .eq 33, 3) := by decide +kernel
theorem dX9_pay_10 : decode cX9_pay 10 = .ok (.aload_n 0, 1) := by decide +kernel
theorem dX9_pay_11 : decode cX9_pay 11 = .ok (.invokevirtual 233, 3) := by decide +kernel
theorem dX9_pay_14 : decode cX9_pay 14 = .ok (.ifCond .eq 26, 3) := by decide +kernel
theorem dX9_pay_17 : decode cX9_pay 17 = .ok (.aload_n 0, 1) := by decide +kernel
theorem dX9_pay_18 : decode cX9_pay 18 = .ok (.getfield 41, 3) := by decide +kernel
theorem dX9_pay_21 : decode cX9_pay 21 = .ok (.iload_n 1, 1) := by decide +kernel
theorem dX9_pay_22 : decode cX9_pay 22 = .ok (.iaload, 1) := by decide +kernel
theorem dX9_pay_23 : decode cX9_pay 23 = .ok (.iconst 2, 1) := by decide +kernel
theorem dX9_pay_24 : decode cX9_pay 24 = .ok (.if_icmp .ne 16, 3) := by decide +kernel
theorem dX9_pay_27 : decode cX9_pay 27 = .ok (.iload_n 2, 1) := by decide +kernel
theorem dX9_pay_28 : decode cX9_pay 28 = .ok (.aload_n 0, 1) := by decide +kernel
theorem dX9_pay_29 : decode cX9_pay 29 = .ok (.iload_n 1, 1) := by decide +kernel
theorem dX9_pay_30 : decode cX9_pay 30 = .ok (.invokevirtual 268, 3) := by decide +kernel
theorem dX9_pay_33 : decode cX9_pay 33 = .ok (.if_icmp .gt 7, 3) := by decide +kernel
theorem dX9_pay_36 : decode cX9_pay 36 = .ok (.iconst 1, 1) := by decide +kernel
theorem dX9_pay_37 : decode cX9_pay 37 = .ok (.goto 4, 3) := by decide +kernel
theorem dX9_pay_40 : decode cX9_pay 40 = .ok (.iconst 0, 1) := by decide +kernel
theorem dX9_pay_41 : decode cX9_pay 41 = .ok (.istore 4, 2) := by decide +kernel
theorem dX9_pay_43 : decode cX9_pay 43 = .ok (.aload_n 0, 1) := by decide +kernel
theorem dX9_pay_44 : decode cX9_pay 44 = .ok (.iload_n 3, 1) := by decide +kernel
theorem dX9_pay_45 : decode cX9_pay 45 = .ok (.ifCond .ne 7, 3) := by decide +kernel
theorem dX9_pay_48 : decode cX9_pay 48 = .ok (.iconst 1, 1) := by decide +kernel
theorem dX9_pay_49 : decode cX9_pay 49 = .ok (.goto 28, 3) := by decide +kernel
theorem dX9_pay_52 : decode cX9_pay 52 = .ok (.iload_n 2, 1) := by decide +kernel
theorem dX9_pay_53 : decode cX9_pay 53 = .ok (.iconst 1, 1) := by decide +kernel
theorem dX9_pay_54 : decode cX9_pay 54 = .ok (.ldc_w 271, 3) := by decide +kernel
theorem dX9_pay_57 : decode cX9_pay 57 = .ok (.invokestatic 148, 3) := by decide +kernel
theorem dX9_pay_60 : decode cX9_pay 60 = .ok (.ifCond .ne 7, 3) := by decide +kernel
theorem dX9_pay_63 : decode cX9_pay 63 = .ok (.iconst 2, 1) := by decide +kernel
theorem dX9_pay_64 : decode cX9_pay 64 = .ok (.goto 13, 3) := by decide +kernel
theorem dX9_pay_67 : decode cX9_pay 67 = .ok (.iload 4, 2) := by decide +kernel
theorem dX9_pay_69 : decode cX9_pay 69 = .ok (.ifCond .ne 7, 3) := by decide +kernel
theorem dX9_pay_72 : decode cX9_pay 72 = .ok (.iconst 3, 1) := by decide +kernel
theorem dX9_pay_73 : decode cX9_pay 73 = .ok (.goto 4, 3) := by decide +kernel
theorem dX9_pay_76 : decode cX9_pay 76 = .ok (.iconst 0, 1) := by decide +kernel
theorem dX9_pay_77 : decode cX9_pay 77 = .ok (.invokevirtual 155, 3) := by decide +kernel
theorem dX9_pay_80 : decode cX9_pay 80 = .ok (.ifCond .eq 5, 3) := by decide +kernel
theorem dX9_pay_83 : decode cX9_pay 83 = .ok (.iconst 0, 1) := by decide +kernel
theorem dX9_pay_84 : decode cX9_pay 84 = .ok (.ireturn, 1) := by decide +kernel
theorem dX9_pay_85 : decode cX9_pay 85 = .ok (.aload_n 0, 1) := by decide +kernel
theorem dX9_pay_86 : decode cX9_pay 86 = .ok (.bipush 10, 2) := by decide +kernel
theorem dX9_pay_88 : decode cX9_pay 88 = .ok (.iload_n 1, 1) := by decide +kernel
theorem dX9_pay_89 : decode cX9_pay 89 = .ok (.iload_n 2, 1) := by decide +kernel
theorem dX9_pay_90 : decode cX9_pay 90 = .ok (.iconst 0, 1) := by decide +kernel
theorem dX9_pay_91 : decode cX9_pay 91 = .ok (.invokevirtual 237, 3) := by decide +kernel
theorem dX9_pay_94 : decode cX9_pay 94 = .ok (.pop, 1) := by decide +kernel
theorem dX9_pay_95 : decode cX9_pay 95 = .ok (.aload_n 0, 1) := by decide +kernel
theorem dX9_pay_96 : decode cX9_pay 96 = .ok (.getfield 41, 3) := by decide +kernel
theorem dX9_pay_99 : decode cX9_pay 99 = .ok (.iload_n 1, 1) := by decide +kernel
theorem dX9_pay_100 : decode cX9_pay 100 = .ok (.aload_n 0, 1) := by decide +kernel
theorem dX9_pay_101 : decode cX9_pay 101 = .ok (.iload_n 1, 1) := by decide +kernel
theorem dX9_pay_102 : decode cX9_pay 102 = .ok (.invokevirtual 268, 3) := by decide +kernel
theorem dX9_pay_105 : decode cX9_pay 105 = .ok (.ifCond .ne 7, 3) := by decide +kernel
theorem dX9_pay_108 : decode cX9_pay 108 = .ok (.iconst 5, 1) := by decide +kernel
theorem dX9_pay_109 : decode cX9_pay 109 = .ok (.goto 4, 3) := by decide +kernel
theorem dX9_pay_112 : decode cX9_pay 112 = .ok (.iconst 2, 1) := by decide +kernel
theorem dX9_pay_113 : decode cX9_pay 113 = .ok (.iastore, 1) := by decide +kernel
theorem dX9_pay_114 : decode cX9_pay 114 = .ok (.aload_n 0, 1) := by decide +kernel
theorem dX9_pay_115 : decode cX9_pay 115 = .ok (.iload_n 1, 1) := by decide +kernel
theorem dX9_pay_116 : decode cX9_pay 116 = .ok (.invokevirtual 268, 3) := by decide +kernel
theorem dX9_pay_119 : decode cX9_pay 119 = .ok (.ireturn, 1) := by decide +kernel
theorem dX9_stay_0 : decode cX9_stay 0 = .ok (.aload_n 0, 1) := by decide +kernel
theorem dX9_stay_1 : decode cX9_stay 1 = .ok (.iload_n 1, 1) := by decide +kernel
theorem dX9_stay_2 : decode cX9_stay 2 = .ok (.invokevirtual 181, 3) := by decide +kernel
theorem dX9_stay_5 : decode cX9_stay 5 = .ok (.istore_n 3, 1) := by decide +kernel
theorem dX9_stay_6 : decode cX9_stay 6 = .ok (.iload_n 3, 1) := by decide +kernel
theorem dX9_stay_7 : decode cX9_stay 7 = .ok (.ifCond .eq 26, 3) := by decide +kernel
theorem dX9_stay_10 : decode cX9_stay 10 = .ok (.aload_n 0, 1) := by decide +kernel
theorem dX9_stay_11 : decode cX9_stay 11 = .ok (.invokevirtual 233, 3) := by decide +kernel
theorem dX9_stay_14 : decode cX9_stay 14 = .ok (.ifCond .eq 19, 3) := by decide +kernel
theorem dX9_stay_17 : decode cX9_stay 17 = .ok (.aload_n 0, 1) := by decide +kernel
theorem dX9_stay_18 : decode cX9_stay 18 = .ok (.iload_n 1, 1) := by decide +kernel
theorem dX9_stay_19 : decode cX9_stay 19 = .ok (.sipush 1400, 3) := by decide +kernel
theorem dX9_stay_22 : decode cX9_stay 22 = .ok (.invokevirtual 198, 3) := by decide +kernel
theorem dX9_stay_25 : decode cX9_stay 25 = .ok (.iload_n 2, 1) := by decide +kernel
theorem dX9_stay_26 : decode cX9_stay 26 = .ok (.if_icmp .eq 7, 3) := by decide +kernel
theorem dX9_stay_29 : decode cX9_stay 29 = .ok (.iconst 1, 1) := by decide +kernel
theorem dX9_stay_30 : decode cX9_stay 30 = .ok (.goto 4, 3) := by decide +kernel
theorem dX9_stay_33 : decode cX9_stay 33 = .ok (.iconst 0, 1) := by decide +kernel
theorem dX9_stay_34 : decode cX9_stay 34 = .ok (.istore 4, 2) := by decide +kernel
theorem dX9_stay_36 : decode cX9_stay 36 = .ok (.aload_n 0, 1) := by decide +kernel
theorem dX9_stay_37 : decode cX9_stay 37 = .ok (.iload_n 3, 1) := by decide +kernel
theorem dX9_stay_38 : decode cX9_stay 38 = .ok (.ifCond .ne 7, 3) := by decide +kernel
theorem dX9_stay_41 : decode cX9_stay 41 = .ok (.iconst 1, 1) := by decide +kernel
theorem dX9_stay_42 : decode cX9_stay 42 = .ok (.goto 13, 3) := by decide +kernel
theorem dX9_stay_45 : decode cX9_stay 45 = .ok (.iload 4, 2) := by decide +kernel
theorem dX9_stay_47 : decode cX9_stay 47 = .ok (.ifCond .ne 7, 3) := by decide +kernel
theorem dX9_stay_50 : decode cX9_stay 50 = .ok (.iconst 2, 1) := by decide +kernel
theorem dX9_stay_51 : decode cX9_stay 51 = .ok (.goto 4, 3) := by decide +kernel
theorem dX9_stay_54 : decode cX9_stay 54 = .ok (.iconst 0, 1) := by decide +kernel
theorem dX9_stay_55 : decode cX9_stay 55 = .ok (.invokevirtual 155, 3) := by decide +kernel
theorem dX9_stay_58 : decode cX9_stay 58 = .ok (.ifCond .eq 7, 3) := by decide +kernel
theorem dX9_stay_61 : decode cX9_stay 61 = .ok (.iconst 0, 1) := by decide +kernel
theorem dX9_stay_62 : decode cX9_stay 62 = .ok (.goto 21, 3) := by decide +kernel
theorem dX9_stay_65 : decode cX9_stay 65 = .ok (.aload_n 0, 1) := by decide +kernel
theorem dX9_stay_66 : decode cX9_stay 66 = .ok (.iload_n 2, 1) := by decide +kernel
theorem dX9_stay_67 : decode cX9_stay 67 = .ok (.ifCond .eq 8, 3) := by decide +kernel
theorem dX9_stay_70 : decode cX9_stay 70 = .ok (.bipush 11, 2) := by decide +kernel
theorem dX9_stay_72 : decode cX9_stay 72 = .ok (.goto 5, 3) := by decide +kernel
theorem dX9_stay_75 : decode cX9_stay 75 = .ok (.bipush 12, 2) := by decide +kernel
theorem dX9_stay_77 : decode cX9_stay 77 = .ok (.iload_n 1, 1) := by decide +kernel
theorem dX9_stay_78 : decode cX9_stay 78 = .ok (.iconst 0, 1) := by decide +kernel
theorem dX9_stay_79 : decode cX9_stay 79 = .ok (.iconst 0, 1) := by decide +kernel
theorem dX9_stay_80 : decode cX9_stay 80 = .ok (.invokevirtual 237, 3) := by decide +kernel
theorem dX9_stay_83 : decode cX9_stay 83 = .ok (.ireturn, 1) := by decide +kernel
theorem dX9_defect_0 : decode cX9_defect 0 = .ok (.aload_n 0, 1) := by decide +kernel
theorem dX9_defect_1 : decode cX9_defect 1 = .ok (.iload_n 1, 1) := by decide +kernel
theorem dX9_defect_2 : decode cX9_defect 2 = .ok (.invokevirtual 174, 3) := by decide +kernel
theorem dX9_defect_5 : decode cX9_defect 5 = .ok (.istore_n 2, 1) := by decide +kernel
theorem dX9_defect_6 : decode cX9_defect 6 = .ok (.aload_n 0, 1) := by decide +kernel
theorem dX9_defect_7 : decode cX9_defect 7 = .ok (.iload_n 2, 1) := by decide +kernel
theorem dX9_defect_8 : decode cX9_defect 8 = .ok (.ifCond .ne 7, 3) := by decide +kernel
theorem dX9_defect_11 : decode cX9_defect 11 = .ok (.iconst 1, 1) := by decide +kernel
theorem dX9_defect_12 : decode cX9_defect 12 = .ok (.goto 31, 3) := by decide +kernel
theorem dX9_defect_15 : decode cX9_defect 15 = .ok (.aload_n 0, 1) := by decide +kernel
theorem dX9_defect_16 : decode cX9_defect 16 = .ok (.getfield 65, 3) := by decide +kernel
theorem dX9_defect_19 : decode cX9_defect 19 = .ok (.iload_n 1, 1) := by decide +kernel
theorem dX9_defect_20 : decode cX9_defect 20 = .ok (.iaload, 1) := by decide +kernel
theorem dX9_defect_21 : decode cX9_defect 21 = .ok (.iconst 1, 1) := by decide +kernel
theorem dX9_defect_22 : decode cX9_defect 22 = .ok (.iconst 3, 1) := by decide +kernel
theorem dX9_defect_23 : decode cX9_defect 23 = .ok (.invokestatic 148, 3) := by decide +kernel
theorem dX9_defect_26 : decode cX9_defect 26 = .ok (.ifCond .eq 12, 3) := by decide +kernel
theorem dX9_defect_29 : decode cX9_defect 29 = .ok (.aload_n 0, 1) := by decide +kernel
theorem dX9_defect_30 : decode cX9_defect 30 = .ok (.getfield 101, 3) := by decide +kernel
theorem dX9_defect_33 : decode cX9_defect 33 = .ok (.iload_n 1, 1) := by decide +kernel
theorem dX9_defect_34 : decode cX9_defect 34 = .ok (.iaload, 1) := by decide +kernel
theorem dX9_defect_35 : decode cX9_defect 35 = .ok (.ifCond .eq 7, 3) := by decide +kernel
theorem dX9_defect_38 : decode cX9_defect 38 = .ok (.iconst 2, 1) := by decide +kernel
theorem dX9_defect_39 : decode cX9_defect 39 = .ok (.goto 4, 3) := by decide +kernel
theorem dX9_defect_42 : decode cX9_defect 42 = .ok (.iconst 0, 1) := by decide +kernel
theorem dX9_defect_43 : decode cX9_defect 43 = .ok (.invokevirtual 155, 3) := by decide +kernel
theorem dX9_defect_46 : decode cX9_defect 46 = .ok (.ifCond .eq 5, 3) := by decide +kernel
theorem dX9_defect_49 : decode cX9_defect 49 = .ok (.iconst 0, 1) := by decide +kernel
theorem dX9_defect_50 : decode cX9_defect 50 = .ok (.ireturn, 1) := by decide +kernel
theorem dX9_defect_51 : decode cX9_defect 51 = .ok (.aload_n 0, 1) := by decide +kernel
theorem dX9_defect_52 : decode cX9_defect 52 = .ok (.getfield 101, 3) := by decide +kernel
theorem dX9_defect_55 : decode cX9_defect 55 = .ok (.iload_n 1, 1) := by decide +kernel
theorem dX9_defect_56 : decode cX9_defect 56 = .ok (.aload_n 0, 1) := by decide +kernel
theorem dX9_defect_57 : decode cX9_defect 57 = .ok (.getfield 152, 3) := by decide +kernel
theorem dX9_defect_60 : decode cX9_defect 60 = .ok (.iconst 1, 1) := by decide +kernel
theorem dX9_defect_61 : decode cX9_defect 61 = .ok (.iadd, 1) := by decide +kernel
theorem dX9_defect_62 : decode cX9_defect 62 = .ok (.iastore, 1) := by decide +kernel
theorem dX9_defect_63 : decode cX9_defect 63 = .ok (.aload_n 0, 1) := by decide +kernel
theorem dX9_defect_64 : decode cX9_defect 64 = .ok (.getfield 104, 3) := by decide +kernel
theorem dX9_defect_67 : decode cX9_defect 67 = .ok (.iload_n 1, 1) := by decide +kernel
theorem dX9_defect_68 : decode cX9_defect 68 = .ok (.aload_n 0, 1) := by decide +kernel
theorem dX9_defect_69 : decode cX9_defect 69 = .ok (.getfield 13, 3) := by decide +kernel
theorem dX9_defect_72 : decode cX9_defect 72 = .ok (.iconst 4, 1) := by decide +kernel
theorem dX9_defect_73 : decode cX9_defect 73 = .ok (.iaload, 1) := by decide +kernel
theorem dX9_defect_74 : decode cX9_defect 74 = .ok (.iastore, 1) := by decide +kernel
theorem dX9_defect_75 : decode cX9_defect 75 = .ok (.aload_n 0, 1) := by decide +kernel
theorem dX9_defect_76 : decode cX9_defect 76 = .ok (.getfield 107, 3) := by decide +kernel
theorem dX9_defect_79 : decode cX9_defect 79 = .ok (.iload_n 1, 1) := by decide +kernel
theorem dX9_defect_80 : decode cX9_defect 80 = .ok (.aload_n 0, 1) := by decide +kernel
theorem dX9_defect_81 : decode cX9_defect 81 = .ok (.getfield 17, 3) := by decide +kernel
theorem dX9_defect_84 : decode cX9_defect 84 = .ok (.iconst 4, 1) := by decide +kernel
theorem dX9_defect_85 : decode cX9_defect 85 = .ok (.baload, 1) := by decide +kernel
theorem dX9_defect_86 : decode cX9_defect 86 = .ok (.bastore, 1) := by decide +kernel
theorem dX9_defect_87 : decode cX9_defect 87 = .ok (.aload_n 0, 1) := by decide +kernel
theorem dX9_defect_88 : decode cX9_defect 88 = .ok (.iload_n 1, 1) := by decide +kernel
theorem dX9_defect_89 : decode cX9_defect 89 = .ok (.invokevirtual 204, 3) := by decide +kernel
theorem dX9_defect_92 : decode cX9_defect 92 = .ok (.ireturn, 1) := by decide +kernel
theorem dX9_cure_0 : decode cX9_cure 0 = .ok (.aload_n 0, 1) := by decide +kernel
theorem dX9_cure_1 : decode cX9_cure 1 = .ok (.iload_n 1, 1) := by decide +kernel
theorem dX9_cure_2 : decode cX9_cure 2 = .ok (.invokevirtual 174, 3) := by decide +kernel
theorem dX9_cure_5 : decode cX9_cure 5 = .ok (.istore_n 2, 1) := by decide +kernel
theorem dX9_cure_6 : decode cX9_cure 6 = .ok (.aload_n 0, 1) := by decide +kernel
theorem dX9_cure_7 : decode cX9_cure 7 = .ok (.iload_n 2, 1) := by decide +kernel
theorem dX9_cure_8 : decode cX9_cure 8 = .ok (.ifCond .ne 7, 3) := by decide +kernel
theorem dX9_cure_11 : decode cX9_cure 11 = .ok (.iconst 1, 1) := by decide +kernel
theorem dX9_cure_12 : decode cX9_cure 12 = .ok (.goto 38, 3) := by decide +kernel
theorem dX9_cure_15 : decode cX9_cure 15 = .ok (.aload_n 0, 1) := by decide +kernel
theorem dX9_cure_16 : decode cX9_cure 16 = .ok (.getfield 101, 3) := by decide +kernel
theorem dX9_cure_19 : decode cX9_cure 19 = .ok (.iload_n 1, 1) := by decide +kernel
theorem dX9_cure_20 : decode cX9_cure 20 = .ok (.iaload, 1) := by decide +kernel
theorem dX9_cure_21 : decode cX9_cure 21 = .ok (.ifCond .eq 24, 3) := by decide +kernel
theorem dX9_cure_24 : decode cX9_cure 24 = .ok (.aload_n 0, 1) := by decide +kernel
theorem dX9_cure_25 : decode cX9_cure 25 = .ok (.getfield 110, 3) := by decide +kernel
theorem dX9_cure_28 : decode cX9_cure 28 = .ok (.iload_n 1, 1) := by decide +kernel
theorem dX9_cure_29 : decode cX9_cure 29 = .ok (.baload, 1) := by decide +kernel
theorem dX9_cure_30 : decode cX9_cure 30 = .ok (.ifCond .ne 15, 3) := by decide +kernel
theorem dX9_cure_33 : decode cX9_cure 33 = .ok (.aload_n 0, 1) := by decide +kernel
theorem dX9_cure_34 : decode cX9_cure 34 = .ok (.aload_n 0, 1) := by decide +kernel
theorem dX9_cure_35 : decode cX9_cure 35 = .ok (.iload_n 1, 1) := by decide +kernel
theorem dX9_cure_36 : decode cX9_cure 36 = .ok (.invokevirtual 204, 3) := by decide +kernel
theorem dX9_cure_39 : decode cX9_cure 39 = .ok (.invokevirtual 207, 3) := by decide +kernel
theorem dX9_cure_42 : decode cX9_cure 42 = .ok (.ifCond .eq 7, 3) := by decide +kernel
theorem dX9_cure_45 : decode cX9_cure 45 = .ok (.iconst 2, 1) := by decide +kernel
theorem dX9_cure_46 : decode cX9_cure 46 = .ok (.goto 4, 3) := by decide +kernel
theorem dX9_cure_49 : decode cX9_cure 49 = .ok (.iconst 0, 1) := by decide +kernel
theorem dX9_cure_50 : decode cX9_cure 50 = .ok (.invokevirtual 155, 3) := by decide +kernel
theorem dX9_cure_53 : decode cX9_cure 53 = .ok (.ifCond .eq 5, 3) := by decide +kernel
theorem dX9_cure_56 : decode cX9_cure 56 = .ok (.iconst 0, 1) := by decide +kernel
theorem dX9_cure_57 : decode cX9_cure 57 = .ok (.ireturn, 1) := by decide +kernel
theorem dX9_cure_58 : decode cX9_cure 58 = .ok (.aload_n 0, 1) := by decide +kernel
theorem dX9_cure_59 : decode cX9_cure 59 = .ok (.getfield 110, 3) := by decide +kernel
theorem dX9_cure_62 : decode cX9_cure 62 = .ok (.iload_n 1, 1) := by decide +kernel
theorem dX9_cure_63 : decode cX9_cure 63 = .ok (.iconst 1, 1) := by decide +kernel
theorem dX9_cure_64 : decode cX9_cure 64 = .ok (.bastore, 1) := by decide +kernel
theorem dX9_cure_65 : decode cX9_cure 65 = .ok (.iconst 1, 1) := by decide +kernel
theorem dX9_cure_66 : decode cX9_cure 66 = .ok (.ireturn, 1) := by decide +kernel
theorem dX9_isOfSort_0 : decode cX9_isOfSort 0 = .ok (.iload_n 1, 1) := by decide +kernel
theorem dX9_isOfSort_1 : decode cX9_isOfSort 1 = .ok (.iconst 1, 1) := by decide +kernel
theorem dX9_isOfSort_2 : decode cX9_isOfSort 2 = .ok (.if_icmp .ne 11, 3) := by decide +kernel
theorem dX9_isOfSort_5 : decode cX9_isOfSort 5 = .ok (.aload_n 0, 1) := by decide +kernel
theorem dX9_isOfSort_6 : decode cX9_isOfSort 6 = .ok (.iload_n 2, 1) := by decide +kernel
theorem dX9_isOfSort_7 : decode cX9_isOfSort 7 = .ok (.invokevirtual 250, 3) := by decide +kernel
theorem dX9_isOfSort_10 : decode cX9_isOfSort 10 = .ok (.goto 38, 3) := by decide +kernel
theorem dX9_isOfSort_13 : decode cX9_isOfSort 13 = .ok (.iload_n 1, 1) := by decide +kernel
theorem dX9_isOfSort_14 : decode cX9_isOfSort 14 = .ok (.iconst 3, 1) := by decide +kernel
theorem dX9_isOfSort_15 : decode cX9_isOfSort 15 = .ok (.if_icmp .ne 11, 3) := by decide +kernel
theorem dX9_isOfSort_18 : decode cX9_isOfSort 18 = .ok (.aload_n 0, 1) := by decide +kernel
theorem dX9_isOfSort_19 : decode cX9_isOfSort 19 = .ok (.iload_n 2, 1) := by decide +kernel
theorem dX9_isOfSort_20 : decode cX9_isOfSort 20 = .ok (.invokevirtual 174, 3) := by decide +kernel
theorem dX9_isOfSort_23 : decode cX9_isOfSort 23 = .ok (.goto 25, 3) := by decide +kernel
theorem dX9_isOfSort_26 : decode cX9_isOfSort 26 = .ok (.iload_n 1, 1) := by decide +kernel
theorem dX9_isOfSort_27 : decode cX9_isOfSort 27 = .ok (.iconst 0, 1) := by decide +kernel
theorem dX9_isOfSort_28 : decode cX9_isOfSort 28 = .ok (.iconst 2, 1) := by decide +kernel
theorem dX9_isOfSort_29 : decode cX9_isOfSort 29 = .ok (.invokestatic 148, 3) := by decide +kernel
theorem dX9_isOfSort_32 : decode cX9_isOfSort 32 = .ok (.ifCond .eq 15, 3) := by decide +kernel
theorem dX9_isOfSort_35 : decode cX9_isOfSort 35 = .ok (.aload_n 0, 1) := by decide +kernel
theorem dX9_isOfSort_36 : decode cX9_isOfSort 36 = .ok (.iload_n 2, 1) := by decide +kernel
theorem dX9_isOfSort_37 : decode cX9_isOfSort 37 = .ok (.invokevirtual 195, 3) := by decide +kernel
theorem dX9_isOfSort_40 : decode cX9_isOfSort 40 = .ok (.ifCond .eq 7, 3) := by decide +kernel
theorem dX9_isOfSort_43 : decode cX9_isOfSort 43 = .ok (.iconst 1, 1) := by decide +kernel
theorem dX9_isOfSort_44 : decode cX9_isOfSort 44 = .ok (.goto 4, 3) := by decide +kernel
theorem dX9_isOfSort_47 : decode cX9_isOfSort 47 = .ok (.iconst 0, 1) := by decide +kernel
theorem dX9_isOfSort_48 : decode cX9_isOfSort 48 = .ok (.ireturn, 1) := by decide +kernel
theorem dX9_dueOf_0 : decode cX9_dueOf 0 = .ok (.iload_n 1, 1) := by decide +kernel
theorem dX9_dueOf_1 : decode cX9_dueOf 1 = .ok (.ifCond .ne 11, 3) := by decide +kernel
theorem dX9_dueOf_4 : decode cX9_dueOf 4 = .ok (.aload_n 0, 1) := by decide +kernel
theorem dX9_dueOf_5 : decode cX9_dueOf 5 = .ok (.iload_n 2, 1) := by decide +kernel
theorem dX9_dueOf_6 : decode cX9_dueOf 6 = .ok (.invokevirtual 244, 3) := by decide +kernel
theorem dX9_dueOf_9 : decode cX9_dueOf 9 = .ok (.goto 34, 3) := by decide +kernel
theorem dX9_dueOf_12 : decode cX9_dueOf 12 = .ok (.iload_n 1, 1) := by decide +kernel
theorem dX9_dueOf_13 : decode cX9_dueOf 13 = .ok (.iconst 1, 1) := by decide +kernel
theorem dX9_dueOf_14 : decode cX9_dueOf 14 = .ok (.if_icmp .ne 11, 3) := by decide +kernel
theorem dX9_dueOf_17 : decode cX9_dueOf 17 = .ok (.aload_n 0, 1) := by decide +kernel
theorem dX9_dueOf_18 : decode cX9_dueOf 18 = .ok (.iload_n 2, 1) := by decide +kernel
theorem dX9_dueOf_19 : decode cX9_dueOf 19 = .ok (.invokevirtual 256, 3) := by decide +kernel
theorem dX9_dueOf_22 : decode cX9_dueOf 22 = .ok (.goto 21, 3) := by decide +kernel
theorem dX9_dueOf_25 : decode cX9_dueOf 25 = .ok (.iload_n 1, 1) := by decide +kernel
theorem dX9_dueOf_26 : decode cX9_dueOf 26 = .ok (.iconst 2, 1) := by decide +kernel
theorem dX9_dueOf_27 : decode cX9_dueOf 27 = .ok (.if_icmp .ne 11, 3) := by decide +kernel
theorem dX9_dueOf_30 : decode cX9_dueOf 30 = .ok (.aload_n 0, 1) := by decide +kernel
theorem dX9_dueOf_31 : decode cX9_dueOf 31 = .ok (.iload_n 2, 1) := by decide +kernel
theorem dX9_dueOf_32 : decode cX9_dueOf 32 = .ok (.invokevirtual 265, 3) := by decide +kernel
theorem dX9_dueOf_35 : decode cX9_dueOf 35 = .ok (.goto 8, 3) := by decide +kernel
theorem dX9_dueOf_38 : decode cX9_dueOf 38 = .ok (.aload_n 0, 1) := by decide +kernel
theorem dX9_dueOf_39 : decode cX9_dueOf 39 = .ok (.iload_n 2, 1) := by decide +kernel
theorem dX9_dueOf_40 : decode cX9_dueOf 40 = .ok (.invokevirtual 204, 3) := by decide +kernel
theorem dX9_dueOf_43 : decode cX9_dueOf 43 = .ok (.ireturn, 1) := by decide +kernel
theorem dX9_extend_0 : decode cX9_extend 0 = .ok (.iload_n 1, 1) := by decide +kernel
theorem dX9_extend_1 : decode cX9_extend 1 = .ok (.iconst 3, 1) := by decide +kernel
theorem dX9_extend_2 : decode cX9_extend 2 = .ok (.if_icmp .eq 16, 3) := by decide +kernel
theorem dX9_extend_5 : decode cX9_extend 5 = .ok (.aload_n 0, 1) := by decide +kernel
theorem dX9_extend_6 : decode cX9_extend 6 = .ok (.iload_n 1, 1) := by decide +kernel
theorem dX9_extend_7 : decode cX9_extend 7 = .ok (.iload_n 2, 1) := by decide +kernel
theorem dX9_extend_8 : decode cX9_extend 8 = .ok (.invokevirtual 272, 3) := by decide +kernel
theorem dX9_extend_11 : decode cX9_extend 11 = .ok (.ifCond .eq 7, 3) := by decide +kernel
theorem dX9_extend_14 : decode cX9_extend 14 = .ok (.iconst 1, 1) := by decide +kernel
theorem dX9_extend_15 : decode cX9_extend 15 = .ok (.goto 4, 3) := by decide +kernel
theorem dX9_extend_18 : decode cX9_extend 18 = .ok (.iconst 0, 1) := by decide +kernel
theorem dX9_extend_19 : decode cX9_extend 19 = .ok (.istore 4, 2) := by decide +kernel
theorem dX9_extend_21 : decode cX9_extend 21 = .ok (.iload 4, 2) := by decide +kernel
theorem dX9_extend_23 : decode cX9_extend 23 = .ok (.ifCond .eq 12, 3) := by decide +kernel
theorem dX9_extend_26 : decode cX9_extend 26 = .ok (.aload_n 0, 1) := by decide +kernel
theorem dX9_extend_27 : decode cX9_extend 27 = .ok (.iload_n 1, 1) := by decide +kernel
theorem dX9_extend_28 : decode cX9_extend 28 = .ok (.iload_n 2, 1) := by decide +kernel
theorem dX9_extend_29 : decode cX9_extend 29 = .ok (.invokevirtual 275, 3) := by decide +kernel
theorem dX9_extend_32 : decode cX9_extend 32 = .ok (.goto 4, 3) := by decide +kernel
theorem dX9_extend_35 : decode cX9_extend 35 = .ok (.iconst (-1), 1) := by decide +kernel
theorem dX9_extend_36 : decode cX9_extend 36 = .ok (.istore 5, 2) := by decide +kernel
theorem dX9_extend_38 : decode cX9_extend 38 = .ok (.aload_n 0, 1) := by decide +kernel
theorem dX9_extend_39 : decode cX9_extend 39 = .ok (.iload 4, 2) := by decide +kernel
theorem dX9_extend_41 : decode cX9_extend 41 = .ok (.ifCond .ne 7, 3) := by decide +kernel
theorem dX9_extend_44 : decode cX9_extend 44 = .ok (.iconst 1, 1) := by decide +kernel
theorem dX9_extend_45 : decode cX9_extend 45 = .ok (.goto 37, 3) := by decide +kernel
theorem dX9_extend_48 : decode cX9_extend 48 = .ok (.iload_n 3, 1) := by decide +kernel
theorem dX9_extend_49 : decode cX9_extend 49 = .ok (.iconst 1, 1) := by decide +kernel
theorem dX9_extend_50 : decode cX9_extend 50 = .ok (.bipush 60, 2) := by decide +kernel
theorem dX9_extend_52 : decode cX9_extend 52 = .ok (.invokestatic 148, 3) := by decide +kernel
theorem dX9_extend_55 : decode cX9_extend 55 = .ok (.ifCond .ne 7, 3) := by decide +kernel
theorem dX9_extend_58 : decode cX9_extend 58 = .ok (.iconst 2, 1) := by decide +kernel
theorem dX9_extend_59 : decode cX9_extend 59 = .ok (.goto 23, 3) := by decide +kernel
theorem dX9_extend_62 : decode cX9_extend 62 = .ok (.iload 5, 2) := by decide +kernel
theorem dX9_extend_64 : decode cX9_extend 64 = .ok (.iconst (-1), 1) := by decide +kernel
theorem dX9_extend_65 : decode cX9_extend 65 = .ok (.if_icmp .eq 12, 3) := by decide +kernel
theorem dX9_extend_68 : decode cX9_extend 68 = .ok (.aload_n 0, 1) := by decide +kernel
theorem dX9_extend_69 : decode cX9_extend 69 = .ok (.iload 5, 2) := by decide +kernel
theorem dX9_extend_71 : decode cX9_extend 71 = .ok (.invokevirtual 207, 3) := by decide +kernel
theorem dX9_extend_74 : decode cX9_extend 74 = .ok (.ifCond .eq 7, 3) := by decide +kernel
theorem dX9_extend_77 : decode cX9_extend 77 = .ok (.iconst 3, 1) := by decide +kernel
theorem dX9_extend_78 : decode cX9_extend 78 = .ok (.goto 4, 3) := by decide +kernel
theorem dX9_extend_81 : decode cX9_extend 81 = .ok (.iconst 0, 1) := by decide +kernel
theorem dX9_extend_82 : decode cX9_extend 82 = .ok (.invokevirtual 155, 3) := by decide +kernel
theorem dX9_extend_85 : decode cX9_extend 85 = .ok (.ifCond .eq 5, 3) := by decide +kernel
theorem dX9_extend_88 : decode cX9_extend 88 = .ok (.iconst 0, 1) := by decide +kernel
theorem dX9_extend_89 : decode cX9_extend 89 = .ok (.ireturn, 1) := by decide +kernel
theorem dX9_extend_90 : decode cX9_extend 90 = .ok (.iload_n 1, 1) := by decide +kernel
theorem dX9_extend_91 : decode cX9_extend 91 = .ok (.ifCond .ne 50, 3) := by decide +kernel
theorem dX9_extend_94 : decode cX9_extend 94 = .ok (.aload_n 0, 1) := by decide +kernel
theorem dX9_extend_95 : decode cX9_extend 95 = .ok (.iload_n 2, 1) := by decide +kernel
theorem dX9_extend_96 : decode cX9_extend 96 = .ok (.invokevirtual 224, 3) := by decide +kernel
theorem dX9_extend_99 : decode cX9_extend 99 = .ok (.istore 6, 2) := by decide +kernel
theorem dX9_extend_101 : decode cX9_extend 101 = .ok (.aload_n 0, 1) := by decide +kernel
theorem dX9_extend_102 : decode cX9_extend 102 = .ok (.getfield 53, 3) := by decide +kernel
theorem dX9_extend_105 : decode cX9_extend 105 = .ok (.iload_n 2, 1) := by decide +kernel
theorem dX9_extend_106 : decode cX9_extend 106 = .ok (.iload_n 3, 1) := by decide +kernel
theorem dX9_extend_107 : decode cX9_extend 107 = .ok (.aload_n 0, 1) := by decide +kernel
theorem dX9_extend_108 : decode cX9_extend 108 = .ok (.getfield 56, 3) := by decide +kernel
theorem dX9_extend_111 : decode cX9_extend 111 = .ok (.iload_n 2, 1) := by decide +kernel
theorem dX9_extend_112 : decode cX9_extend 112 = .ok (.iaload, 1) := by decide +kernel
theorem dX9_extend_113 : decode cX9_extend 113 = .ok (.iload 6, 2) := by decide +kernel
theorem dX9_extend_115 : decode cX9_extend 115 = .ok (.if_icmp .ne 12, 3) := by decide +kernel
theorem dX9_extend_118 : decode cX9_extend 118 = .ok (.aload_n 0, 1) := by decide +kernel
theorem dX9_extend_119 : decode cX9_extend 119 = .ok (.getfield 53, 3) := by decide +kernel
theorem dX9_extend_122 : decode cX9_extend 122 = .ok (.iload_n 2, 1) := by decide +kernel
theorem dX9_extend_123 : decode cX9_extend 123 = .ok (.iaload, 1) := by decide +kernel
theorem dX9_extend_124 : decode cX9_extend 124 = .ok (.goto 4, 3) := by decide +kernel
theorem dX9_extend_127 : decode cX9_extend 127 = .ok (.iconst 0, 1) := by decide +kernel
theorem dX9_extend_128 : decode cX9_extend 128 = .ok (.iadd, 1) := by decide +kernel
theorem dX9_extend_129 : decode cX9_extend 129 = .ok (.iastore, 1) := by decide +kernel
theorem dX9_extend_130 : decode cX9_extend 130 = .ok (.aload_n 0, 1) := by decide +kernel
theorem dX9_extend_131 : decode cX9_extend 131 = .ok (.getfield 56, 3) := by decide +kernel
theorem dX9_extend_134 : decode cX9_extend 134 = .ok (.iload_n 2, 1) := by decide +kernel
theorem dX9_extend_135 : decode cX9_extend 135 = .ok (.iload 6, 2) := by decide +kernel
theorem dX9_extend_137 : decode cX9_extend 137 = .ok (.iastore, 1) := by decide +kernel
theorem dX9_extend_138 : decode cX9_extend 138 = .ok (.goto 65, 3) := by decide +kernel
theorem dX9_extend_141 : decode cX9_extend 141 = .ok (.iload_n 1, 1) := by decide +kernel
theorem dX9_extend_142 : decode cX9_extend 142 = .ok (.iconst 1, 1) := by decide +kernel
theorem dX9_extend_143 : decode cX9_extend 143 = .ok (.if_icmp .ne 16, 3) := by decide +kernel
theorem dX9_extend_146 : decode cX9_extend 146 = .ok (.aload_n 0, 1) := by decide +kernel
theorem dX9_extend_147 : decode cX9_extend 147 = .ok (.getfield 98, 3) := by decide +kernel
theorem dX9_extend_150 : decode cX9_extend 150 = .ok (.iload_n 2, 1) := by decide +kernel
theorem dX9_extend_151 : decode cX9_extend 151 = .ok (.dup2, 1) := by decide +kernel
theorem dX9_extend_152 : decode cX9_extend 152 = .ok (.iaload, 1) := by decide +kernel
theorem dX9_extend_153 : decode cX9_extend 153 = .ok (.iload_n 3, 1) := by decide +kernel
theorem dX9_extend_154 : decode cX9_extend 154 = .ok (.iadd, 1) := by decide +kernel
theorem dX9_extend_155 : decode cX9_extend 155 = .ok (.iastore, 1) := by decide +kernel
theorem dX9_extend_156 : decode cX9_extend 156 = .ok (.goto 47, 3) := by decide +kernel
theorem dX9_extend_159 : decode cX9_extend 159 = .ok (.aload_n 0, 1) := by decide +kernel
theorem dX9_extend_160 : decode cX9_extend 160 = .ok (.iload_n 2, 1) := by decide +kernel
theorem dX9_extend_161 : decode cX9_extend 161 = .ok (.invokevirtual 230, 3) := by decide +kernel
theorem dX9_extend_164 : decode cX9_extend 164 = .ok (.istore 6, 2) := by decide +kernel
theorem dX9_extend_166 : decode cX9_extend 166 = .ok (.aload_n 0, 1) := by decide +kernel
theorem dX9_extend_167 : decode cX9_extend 167 = .ok (.getfield 59, 3) := by decide +kernel
theorem dX9_extend_170 : decode cX9_extend 170 = .ok (.iload_n 2, 1) := by decide +kernel
theorem dX9_extend_171 : decode cX9_extend 171 = .ok (.iload_n 3, 1) := by decide +kernel
theorem dX9_extend_172 : decode cX9_extend 172 = .ok (.aload_n 0, 1) := by decide +kernel
theorem dX9_extend_173 : decode cX9_extend 173 = .ok (.getfield 62, 3) := by decide +kernel
theorem dX9_extend_176 : decode cX9_extend 176 = .ok (.iload_n 2, 1) := by decide +kernel
theorem dX9_extend_177 : decode cX9_extend 177 = .ok (.iaload, 1) := by decide +kernel
theorem dX9_extend_178 : decode cX9_extend 178 = .ok (.iload 6, 2) := by decide +kernel
theorem dX9_extend_180 : decode cX9_extend 180 = .ok (.if_icmp .ne 12, 3) := by decide +kernel
theorem dX9_extend_183 : decode cX9_extend 183 = .ok (.aload_n 0, 1) := by decide +kernel
theorem dX9_extend_184 : decode cX9_extend 184 = .ok (.getfield 59, 3) := by decide +kernel
theorem dX9_extend_187 : decode cX9_extend 187 = .ok (.iload_n 2, 1) := by decide +kernel
theorem dX9_extend_188 : decode cX9_extend 188 = .ok (.iaload, 1) := by decide +kernel
theorem dX9_extend_189 : decode cX9_extend 189 = .ok (.goto 4, 3) := by decide +kernel
theorem dX9_extend_192 : decode cX9_extend 192 = .ok (.iconst 0, 1) := by decide +kernel
theorem dX9_extend_193 : decode cX9_extend 193 = .ok (.iadd, 1) := by decide +kernel
theorem dX9_extend_194 : decode cX9_extend 194 = .ok (.iastore, 1) := by decide +kernel
theorem dX9_extend_195 : decode cX9_extend 195 = .ok (.aload_n 0, 1) := by decide +kernel
theorem dX9_extend_196 : decode cX9_extend 196 = .ok (.getfield 62, 3) := by decide +kernel
theorem dX9_extend_199 : decode cX9_extend 199 = .ok (.iload_n 2, 1) := by decide +kernel
theorem dX9_extend_200 : decode cX9_extend 200 = .ok (.iload 6, 2) := by decide +kernel
theorem dX9_extend_202 : decode cX9_extend 202 = .ok (.iastore, 1) := by decide +kernel
theorem dX9_extend_203 : decode cX9_extend 203 = .ok (.aload_n 0, 1) := by decide +kernel
theorem dX9_extend_204 : decode cX9_extend 204 = .ok (.iload_n 1, 1) := by decide +kernel
theorem dX9_extend_205 : decode cX9_extend 205 = .ok (.iload_n 2, 1) := by decide +kernel
theorem dX9_extend_206 : decode cX9_extend 206 = .ok (.invokevirtual 275, 3) := by decide +kernel
theorem dX9_extend_209 : decode cX9_extend 209 = .ok (.ireturn, 1) := by decide +kernel
theorem dX9_judgeOf_0 : decode cX9_judgeOf 0 = .ok (.aload_n 0, 1) := by decide +kernel
theorem dX9_judgeOf_1 : decode cX9_judgeOf 1 = .ok (.getfield 20, 3) := by decide +kernel
theorem dX9_judgeOf_4 : decode cX9_judgeOf 4 = .ok (.aload_n 0, 1) := by decide +kernel
theorem dX9_judgeOf_5 : decode cX9_judgeOf 5 = .ok (.getfield 23, 3) := by decide +kernel
theorem dX9_judgeOf_8 : decode cX9_judgeOf 8 = .ok (.iload_n 1, 1) := by decide +kernel
theorem dX9_judgeOf_9 : decode cX9_judgeOf 9 = .ok (.iaload, 1) := by decide +kernel
theorem dX9_judgeOf_10 : decode cX9_judgeOf 10 = .ok (.iconst (-1), 1) := by decide +kernel
theorem dX9_judgeOf_11 : decode cX9_judgeOf 11 = .ok (.if_icmp .ne 7, 3) := by decide +kernel
theorem dX9_judgeOf_14 : decode cX9_judgeOf 14 = .ok (.iload_n 1, 1) := by decide +kernel
theorem dX9_judgeOf_15 : decode cX9_judgeOf 15 = .ok (.goto 9, 3) := by decide +kernel
theorem dX9_judgeOf_18 : decode cX9_judgeOf 18 = .ok (.aload_n 0, 1) := by decide +kernel
theorem dX9_judgeOf_19 : decode cX9_judgeOf 19 = .ok (.getfield 23, 3) := by decide +kernel
theorem dX9_judgeOf_22 : decode cX9_judgeOf 22 = .ok (.iload_n 1, 1) := by decide +kernel
theorem dX9_judgeOf_23 : decode cX9_judgeOf 23 = .ok (.iaload, 1) := by decide +kernel
theorem dX9_judgeOf_24 : decode cX9_judgeOf 24 = .ok (.iaload, 1) := by decide +kernel
theorem dX9_judgeOf_25 : decode cX9_judgeOf 25 = .ok (.ireturn, 1) := by decide +kernel
theorem dX9_meet_0 : decode cX9_meet 0 = .ok (.aload_n 0, 1) := by decide +kernel
theorem dX9_meet_1 : decode cX9_meet 1 = .ok (.iload_n 1, 1) := by decide +kernel
theorem dX9_meet_2 : decode cX9_meet 2 = .ok (.invokevirtual 278, 3) := by decide +kernel
theorem dX9_meet_5 : decode cX9_meet 5 = .ok (.aload_n 0, 1) := by decide +kernel
theorem dX9_meet_6 : decode cX9_meet 6 = .ok (.iload_n 2, 1) := by decide +kernel
theorem dX9_meet_7 : decode cX9_meet 7 = .ok (.invokevirtual 278, 3) := by decide +kernel
theorem dX9_meet_10 : decode cX9_meet 10 = .ok (.if_icmp .ne 7, 3) := by decide +kernel
theorem dX9_meet_13 : decode cX9_meet 13 = .ok (.iconst 1, 1) := by decide +kernel
theorem dX9_meet_14 : decode cX9_meet 14 = .ok (.goto 4, 3) := by decide +kernel
theorem dX9_meet_17 : decode cX9_meet 17 = .ok (.iconst 0, 1) := by decide +kernel
theorem dX9_meet_18 : decode cX9_meet 18 = .ok (.istore_n 3, 1) := by decide +kernel
theorem dX9_meet_19 : decode cX9_meet 19 = .ok (.iconst 0, 1) := by decide +kernel
theorem dX9_meet_20 : decode cX9_meet 20 = .ok (.istore 4, 2) := by decide +kernel
theorem dX9_meet_22 : decode cX9_meet 22 = .ok (.iload 4, 2) := by decide +kernel
theorem dX9_meet_24 : decode cX9_meet 24 = .ok (.bipush 16, 2) := by decide +kernel
theorem dX9_meet_26 : decode cX9_meet 26 = .ok (.if_icmp .ge 39, 3) := by decide +kernel
theorem dX9_meet_29 : decode cX9_meet 29 = .ok (.iload_n 3, 1) := by decide +kernel
theorem dX9_meet_30 : decode cX9_meet 30 = .ok (.ifCond .ne 23, 3) := by decide +kernel
theorem dX9_meet_33 : decode cX9_meet 33 = .ok (.aload_n 0, 1) := by decide +kernel
theorem dX9_meet_34 : decode cX9_meet 34 = .ok (.iload_n 1, 1) := by decide +kernel
theorem dX9_meet_35 : decode cX9_meet 35 = .ok (.iload 4, 2) := by decide +kernel
theorem dX9_meet_37 : decode cX9_meet 37 = .ok (.invokevirtual 187, 3) := by decide +kernel
theorem dX9_meet_40 : decode cX9_meet 40 = .ok (.ifCond .eq 17, 3) := by decide +kernel
theorem dX9_meet_43 : decode cX9_meet 43 = .ok (.aload_n 0, 1) := by decide +kernel
theorem dX9_meet_44 : decode cX9_meet 44 = .ok (.iload_n 2, 1) := by decide +kernel
theorem dX9_meet_45 : decode cX9_meet 45 = .ok (.iload 4, 2) := by decide +kernel
theorem dX9_meet_47 : decode cX9_meet 47 = .ok (.invokevirtual 187, 3) := by decide +kernel
theorem dX9_meet_50 : decode cX9_meet 50 = .ok (.ifCond .eq 7, 3) := by decide +kernel
theorem dX9_meet_53 : decode cX9_meet 53 = .ok (.iconst 1, 1) := by decide +kernel
theorem dX9_meet_54 : decode cX9_meet 54 = .ok (.goto 4, 3) := by decide +kernel
theorem dX9_meet_57 : decode cX9_meet 57 = .ok (.iconst 0, 1) := by decide +kernel
theorem dX9_meet_58 : decode cX9_meet 58 = .ok (.istore_n 3, 1) := by decide +kernel
theorem dX9_meet_59 : decode cX9_meet 59 = .ok (.iinc 4 1, 3) := by decide +kernel
theorem dX9_meet_62 : decode cX9_meet 62 = .ok (.goto (-40), 3) := by decide +kernel
theorem dX9_meet_65 : decode cX9_meet 65 = .ok (.iload_n 3, 1) := by decide +kernel
theorem dX9_meet_66 : decode cX9_meet 66 = .ok (.ireturn, 1) := by decide +kernel
theorem dX9_wouldMeet_0 : decode cX9_wouldMeet 0 = .ok (.iconst 0, 1) := by decide +kernel
theorem dX9_wouldMeet_1 : decode cX9_wouldMeet 1 = .ok (.istore 5, 2) := by decide +kernel
theorem dX9_wouldMeet_3 : decode cX9_wouldMeet 3 = .ok (.iconst 0, 1) := by decide +kernel
theorem dX9_wouldMeet_4 : decode cX9_wouldMeet 4 = .ok (.istore 6, 2) := by decide +kernel
theorem dX9_wouldMeet_6 : decode cX9_wouldMeet 6 = .ok (.iload 6, 2) := by decide +kernel
theorem dX9_wouldMeet_8 : decode cX9_wouldMeet 8 = .ok (.aload_n 0, 1) := by decide +kernel
theorem dX9_wouldMeet_9 : decode cX9_wouldMeet 9 = .ok (.getfield 281, 3) := by decide +kernel
theorem dX9_wouldMeet_12 : decode cX9_wouldMeet 12 = .ok (.if_icmp .ge 65, 3) := by decide +kernel
theorem dX9_wouldMeet_15 : decode cX9_wouldMeet 15 = .ok (.iload 5, 2) := by decide +kernel
theorem dX9_wouldMeet_17 : decode cX9_wouldMeet 17 = .ok (.ifCond .ne 47, 3) := by decide +kernel
theorem dX9_wouldMeet_20 : decode cX9_wouldMeet 20 = .ok (.iload 6, 2) := by decide +kernel
theorem dX9_wouldMeet_22 : decode cX9_wouldMeet 22 = .ok (.iload 4, 2) := by decide +kernel
theorem dX9_wouldMeet_24 : decode cX9_wouldMeet 24 = .ok (.if_icmp .eq 44, 3) := by decide +kernel
theorem dX9_wouldMeet_27 : decode cX9_wouldMeet 27 = .ok (.aload_n 0, 1) := by decide +kernel
theorem dX9_wouldMeet_28 : decode cX9_wouldMeet 28 = .ok (.getfield 120, 3) := by decide +kernel
theorem dX9_wouldMeet_31 : decode cX9_wouldMeet 31 = .ok (.iload 6, 2) := by decide +kernel
theorem dX9_wouldMeet_33 : decode cX9_wouldMeet 33 = .ok (.iaload, 1) := by decide +kernel
theorem dX9_wouldMeet_34 : decode cX9_wouldMeet 34 = .ok (.iload_n 2, 1) := by decide +kernel
theorem dX9_wouldMeet_35 : decode cX9_wouldMeet 35 = .ok (.if_icmp .ne 33, 3) := by decide +kernel
theorem dX9_wouldMeet_38 : decode cX9_wouldMeet 38 = .ok (.aload_n 0, 1) := by decide +kernel
theorem dX9_wouldMeet_39 : decode cX9_wouldMeet 39 = .ok (.getfield 123, 3) := by decide +kernel
theorem dX9_wouldMeet_42 : decode cX9_wouldMeet 42 = .ok (.iload 6, 2) := by decide +kernel
theorem dX9_wouldMeet_44 : decode cX9_wouldMeet 44 = .ok (.iaload, 1) := by decide +kernel
theorem dX9_wouldMeet_45 : decode cX9_wouldMeet 45 = .ok (.iload_n 3, 1) := by decide +kernel
theorem dX9_wouldMeet_46 : decode cX9_wouldMeet 46 = .ok (.if_icmp .ne 22, 3) := by decide +kernel
theorem dX9_wouldMeet_49 : decode cX9_wouldMeet 49 = .ok (.aload_n 0, 1) := by decide +kernel
theorem dX9_wouldMeet_50 : decode cX9_wouldMeet 50 = .ok (.iload_n 1, 1) := by decide +kernel
theorem dX9_wouldMeet_51 : decode cX9_wouldMeet 51 = .ok (.aload_n 0, 1) := by decide +kernel
theorem dX9_wouldMeet_52 : decode cX9_wouldMeet 52 = .ok (.getfield 117, 3) := by decide +kernel
theorem dX9_wouldMeet_55 : decode cX9_wouldMeet 55 = .ok (.iload 6, 2) := by decide +kernel
theorem dX9_wouldMeet_57 : decode cX9_wouldMeet 57 = .ok (.iaload, 1) := by decide +kernel
theorem dX9_wouldMeet_58 : decode cX9_wouldMeet 58 = .ok (.invokevirtual 284, 3) := by decide +kernel
theorem dX9_wouldMeet_61 : decode cX9_wouldMeet 61 = .ok (.ifCond .eq 7, 3) := by decide +kernel
theorem dX9_wouldMeet_64 : decode cX9_wouldMeet 64 = .ok (.iconst 1, 1) := by decide +kernel
theorem dX9_wouldMeet_65 : decode cX9_wouldMeet 65 = .ok (.goto 4, 3) := by decide +kernel
theorem dX9_wouldMeet_68 : decode cX9_wouldMeet 68 = .ok (.iconst 0, 1) := by decide +kernel
theorem dX9_wouldMeet_69 : decode cX9_wouldMeet 69 = .ok (.istore 5, 2) := by decide +kernel
theorem dX9_wouldMeet_71 : decode cX9_wouldMeet 71 = .ok (.iinc 6 1, 3) := by decide +kernel
theorem dX9_wouldMeet_74 : decode cX9_wouldMeet 74 = .ok (.goto (-68), 3) := by decide +kernel
theorem dX9_wouldMeet_77 : decode cX9_wouldMeet 77 = .ok (.iload 5, 2) := by decide +kernel
theorem dX9_wouldMeet_79 : decode cX9_wouldMeet 79 = .ok (.ireturn, 1) := by decide +kernel
theorem dX9_hearing_0 : decode cX9_hearing 0 = .ok (.aload_n 0, 1) := by decide +kernel
theorem dX9_hearing_1 : decode cX9_hearing 1 = .ok (.iload_n 1, 1) := by decide +kernel
theorem dX9_hearing_2 : decode cX9_hearing 2 = .ok (.invokevirtual 181, 3) := by decide +kernel
theorem dX9_hearing_5 : decode cX9_hearing 5 = .ok (.ifCond .eq 16, 3) := by decide +kernel
theorem dX9_hearing_8 : decode cX9_hearing 8 = .ok (.iload_n 3, 1) := by decide +kernel
theorem dX9_hearing_9 : decode cX9_hearing 9 = .ok (.iconst 0, 1) := by decide +kernel
theorem dX9_hearing_10 : decode cX9_hearing 10 = .ok (.iconst 3, 1) := by decide +kernel
theorem dX9_hearing_11 : decode cX9_hearing 11 = .ok (.invokestatic 148, 3) := by decide +kernel
theorem dX9_hearing_14 : decode cX9_hearing 14 = .ok (.ifCond .eq 7, 3) := by decide +kernel
theorem dX9_hearing_17 : decode cX9_hearing 17 = .ok (.iconst 1, 1) := by decide +kernel
theorem dX9_hearing_18 : decode cX9_hearing 18 = .ok (.goto 4, 3) := by decide +kernel
theorem dX9_hearing_21 : decode cX9_hearing 21 = .ok (.iconst 0, 1) := by decide +kernel
theorem dX9_hearing_22 : decode cX9_hearing 22 = .ok (.istore 4, 2) := by decide +kernel
theorem dX9_hearing_24 : decode cX9_hearing 24 = .ok (.iload_n 2, 1) := by decide +kernel
theorem dX9_hearing_25 : decode cX9_hearing 25 = .ok (.aload_n 0, 1) := by decide +kernel
theorem dX9_hearing_26 : decode cX9_hearing 26 = .ok (.getfield 152, 3) := by decide +kernel
theorem dX9_hearing_29 : decode cX9_hearing 29 = .ok (.if_icmp .le 14, 3) := by decide +kernel
theorem dX9_hearing_32 : decode cX9_hearing 32 = .ok (.iload_n 2, 1) := by decide +kernel
theorem dX9_hearing_33 : decode cX9_hearing 33 = .ok (.sipush 990, 3) := by decide +kernel
theorem dX9_hearing_36 : decode cX9_hearing 36 = .ok (.if_icmp .gt 7, 3) := by decide +kernel
theorem dX9_hearing_39 : decode cX9_hearing 39 = .ok (.iconst 1, 1) := by decide +kernel
theorem dX9_hearing_40 : decode cX9_hearing 40 = .ok (.goto 4, 3) := by decide +kernel
theorem dX9_hearing_43 : decode cX9_hearing 43 = .ok (.iconst 0, 1) := by decide +kernel
theorem dX9_hearing_44 : decode cX9_hearing 44 = .ok (.istore 5, 2) := by decide +kernel
theorem dX9_hearing_46 : decode cX9_hearing 46 = .ok (.aload_n 0, 1) := by decide +kernel
theorem dX9_hearing_47 : decode cX9_hearing 47 = .ok (.iload 4, 2) := by decide +kernel
theorem dX9_hearing_49 : decode cX9_hearing 49 = .ok (.ifCond .ne 7, 3) := by decide +kernel
theorem dX9_hearing_52 : decode cX9_hearing 52 = .ok (.iconst 1, 1) := by decide +kernel
theorem dX9_hearing_53 : decode cX9_hearing 53 = .ok (.goto 45, 3) := by decide +kernel
theorem dX9_hearing_56 : decode cX9_hearing 56 = .ok (.iload 5, 2) := by decide +kernel
theorem dX9_hearing_58 : decode cX9_hearing 58 = .ok (.ifCond .ne 7, 3) := by decide +kernel
theorem dX9_hearing_61 : decode cX9_hearing 61 = .ok (.iconst 2, 1) := by decide +kernel
theorem dX9_hearing_62 : decode cX9_hearing 62 = .ok (.goto 36, 3) := by decide +kernel
theorem dX9_hearing_65 : decode cX9_hearing 65 = .ok (.aload_n 0, 1) := by decide +kernel
theorem dX9_hearing_66 : decode cX9_hearing 66 = .ok (.iload_n 2, 1) := by decide +kernel
theorem dX9_hearing_67 : decode cX9_hearing 67 = .ok (.invokevirtual 162, 3) := by decide +kernel
theorem dX9_hearing_70 : decode cX9_hearing 70 = .ok (.ifCond .ne 23, 3) := by decide +kernel
theorem dX9_hearing_73 : decode cX9_hearing 73 = .ok (.aload_n 0, 1) := by decide +kernel
theorem dX9_hearing_74 : decode cX9_hearing 74 = .ok (.getfield 281, 3) := by decide +kernel
theorem dX9_hearing_77 : decode cX9_hearing 77 = .ok (.bipush 40, 2) := by decide +kernel
theorem dX9_hearing_79 : decode cX9_hearing 79 = .ok (.if_icmp .eq 14, 3) := by decide +kernel
theorem dX9_hearing_82 : decode cX9_hearing 82 = .ok (.aload_n 0, 1) := by decide +kernel
theorem dX9_hearing_83 : decode cX9_hearing 83 = .ok (.iload_n 1, 1) := by decide +kernel
theorem dX9_hearing_84 : decode cX9_hearing 84 = .ok (.iload_n 2, 1) := by decide +kernel
theorem dX9_hearing_85 : decode cX9_hearing 85 = .ok (.iload_n 3, 1) := by decide +kernel
theorem dX9_hearing_86 : decode cX9_hearing 86 = .ok (.iconst (-1), 1) := by decide +kernel
theorem dX9_hearing_87 : decode cX9_hearing 87 = .ok (.invokevirtual 287, 3) := by decide +kernel
theorem dX9_hearing_90 : decode cX9_hearing 90 = .ok (.ifCond .eq 7, 3) := by decide +kernel
theorem dX9_hearing_93 : decode cX9_hearing 93 = .ok (.iconst 3, 1) := by decide +kernel
theorem dX9_hearing_94 : decode cX9_hearing 94 = .ok (.goto 4, 3) := by decide +kernel
theorem dX9_hearing_97 : decode cX9_hearing 97 = .ok (.iconst 0, 1) := by decide +kernel
theorem dX9_hearing_98 : decode cX9_hearing 98 = .ok (.invokevirtual 155, 3) := by decide +kernel
theorem dX9_hearing_101 : decode cX9_hearing 101 = .ok (.ifCond .eq 5, 3) := by decide +kernel
theorem dX9_hearing_104 : decode cX9_hearing 104 = .ok (.iconst 0, 1) := by decide +kernel
theorem dX9_hearing_105 : decode cX9_hearing 105 = .ok (.ireturn, 1) := by decide +kernel
theorem dX9_hearing_106 : decode cX9_hearing 106 = .ok (.aload_n 0, 1) := by decide +kernel
theorem dX9_hearing_107 : decode cX9_hearing 107 = .ok (.getfield 117, 3) := by decide +kernel
theorem dX9_hearing_110 : decode cX9_hearing 110 = .ok (.aload_n 0, 1) := by decide +kernel
theorem dX9_hearing_111 : decode cX9_hearing 111 = .ok (.getfield 281, 3) := by decide +kernel
theorem dX9_hearing_114 : decode cX9_hearing 114 = .ok (.iload_n 1, 1) := by decide +kernel
theorem dX9_hearing_115 : decode cX9_hearing 115 = .ok (.iastore, 1) := by decide +kernel
theorem dX9_hearing_116 : decode cX9_hearing 116 = .ok (.aload_n 0, 1) := by decide +kernel
theorem dX9_hearing_117 : decode cX9_hearing 117 = .ok (.getfield 120, 3) := by decide +kernel
theorem dX9_hearing_120 : decode cX9_hearing 120 = .ok (.aload_n 0, 1) := by decide +kernel
theorem dX9_hearing_121 : decode cX9_hearing 121 = .ok (.getfield 281, 3) := by decide +kernel
theorem dX9_hearing_124 : decode cX9_hearing 124 = .ok (.iload_n 2, 1) := by decide +kernel
theorem dX9_hearing_125 : decode cX9_hearing 125 = .ok (.iastore, 1) := by decide +kernel
theorem dX9_hearing_126 : decode cX9_hearing 126 = .ok (.aload_n 0, 1) := by decide +kernel
theorem dX9_hearing_127 : decode cX9_hearing 127 = .ok (.getfield 123, 3) := by decide +kernel
theorem dX9_hearing_130 : decode cX9_hearing 130 = .ok (.aload_n 0, 1) := by decide +kernel
theorem dX9_hearing_131 : decode cX9_hearing 131 = .ok (.getfield 281, 3) := by decide +kernel
theorem dX9_hearing_134 : decode cX9_hearing 134 = .ok (.iload_n 3, 1) := by decide +kernel
theorem dX9_hearing_135 : decode cX9_hearing 135 = .ok (.iastore, 1) := by decide +kernel
theorem dX9_hearing_136 : decode cX9_hearing 136 = .ok (.aload_n 0, 1) := by decide +kernel
theorem dX9_hearing_137 : decode cX9_hearing 137 = .ok (.dup, 1) := by decide +kernel
theorem dX9_hearing_138 : decode cX9_hearing 138 = .ok (.getfield 281, 3) := by decide +kernel
theorem dX9_hearing_141 : decode cX9_hearing 141 = .ok (.iconst 1, 1) := by decide +kernel
theorem dX9_hearing_142 : decode cX9_hearing 142 = .ok (.iadd, 1) := by decide +kernel
theorem dX9_hearing_143 : decode cX9_hearing 143 = .ok (.putfield 281, 3) := by decide +kernel
theorem dX9_hearing_146 : decode cX9_hearing 146 = .ok (.aload_n 0, 1) := by decide +kernel
theorem dX9_hearing_147 : decode cX9_hearing 147 = .ok (.getfield 281, 3) := by decide +kernel
theorem dX9_hearing_150 : decode cX9_hearing 150 = .ok (.iconst 1, 1) := by decide +kernel
theorem dX9_hearing_151 : decode cX9_hearing 151 = .ok (.isub, 1) := by decide +kernel
theorem dX9_hearing_152 : decode cX9_hearing 152 = .ok (.ireturn, 1) := by decide +kernel
theorem dX9_continueHearing_0 : decode cX9_continueHearing 0 = .ok (.iload_n 1, 1) := by decide +kernel
theorem dX9_continueHearing_1 : decode cX9_continueHearing 1 = .ok (.iconst 0, 1) := by decide +kernel
theorem dX9_continueHearing_2 : decode cX9_continueHearing 2 = .ok (.aload_n 0, 1) := by decide +kernel
theorem dX9_continueHearing_3 : decode cX9_continueHearing 3 = .ok (.getfield 281, 3) := by decide +kernel
theorem dX9_continueHearing_6 : decode cX9_continueHearing 6 = .ok (.iconst 1, 1) := by decide +kernel
theorem dX9_continueHearing_7 : decode cX9_continueHearing 7 = .ok (.isub, 1) := by decide +kernel
theorem dX9_continueHearing_8 : decode cX9_continueHearing 8 = .ok (.invokestatic 148, 3) := by decide +kernel
theorem dX9_continueHearing_11 : decode cX9_continueHearing 11 = .ok (.istore_n 2, 1) := by decide +kernel
theorem dX9_continueHearing_12 : decode cX9_continueHearing 12 = .ok (.iconst (-1), 1) := by decide +kernel
theorem dX9_continueHearing_13 : decode cX9_continueHearing 13 = .ok (.istore_n 3, 1) := by decide +kernel
theorem dX9_continueHearing_14 : decode cX9_continueHearing 14 = .ok (.iload_n 2, 1) := by decide +kernel
theorem dX9_continueHearing_15 : decode cX9_continueHearing 15 = .ok (.ifCond .eq 14, 3) := by decide +kernel
theorem dX9_continueHearing_18 : decode cX9_continueHearing 18 = .ok (.aload_n 0, 1) := by decide +kernel
theorem dX9_continueHearing_19 : decode cX9_continueHearing 19 = .ok (.getfield 120, 3) := by decide +kernel
theorem dX9_continueHearing_22 : decode cX9_continueHearing 22 = .ok (.iload_n 1, 1) := by decide +kernel
theorem dX9_continueHearing_23 : decode cX9_continueHearing 23 = .ok (.iaload, 1) := by decide +kernel
theorem dX9_continueHearing_24 : decode cX9_continueHearing 24 = .ok (.iconst 1, 1) := by decide +kernel
theorem dX9_continueHearing_25 : decode cX9_continueHearing 25 = .ok (.iadd, 1) := by decide +kernel
theorem dX9_continueHearing_26 : decode cX9_continueHearing 26 = .ok (.goto 6, 3) := by decide +kernel
theorem dX9_continueHearing_29 : decode cX9_continueHearing 29 = .ok (.sipush 1001, 3) := by decide +kernel
theorem dX9_continueHearing_32 : decode cX9_continueHearing 32 = .ok (.istore 4, 2) := by decide +kernel
theorem dX9_continueHearing_34 : decode cX9_continueHearing 34 = .ok (.iload 4, 2) := by decide +kernel
theorem dX9_continueHearing_36 : decode cX9_continueHearing 36 = .ok (.sipush 1000, 3) := by decide +kernel
theorem dX9_continueHearing_39 : decode cX9_continueHearing 39 = .ok (.if_icmp .gt 74, 3) := by decide +kernel
theorem dX9_continueHearing_42 : decode cX9_continueHearing 42 = .ok (.iload_n 3, 1) := by decide +kernel
theorem dX9_continueHearing_43 : decode cX9_continueHearing 43 = .ok (.iconst (-1), 1) := by decide +kernel
theorem dX9_continueHearing_44 : decode cX9_continueHearing 44 = .ok (.if_icmp .ne 69, 3) := by decide +kernel
theorem dX9_continueHearing_47 : decode cX9_continueHearing 47 = .ok (.iconst 0, 1) := by decide +kernel
theorem dX9_continueHearing_48 : decode cX9_continueHearing 48 = .ok (.istore 5, 2) := by decide +kernel
theorem dX9_continueHearing_50 : decode cX9_continueHearing 50 = .ok (.iload 5, 2) := by decide +kernel
theorem dX9_continueHearing_52 : decode cX9_continueHearing 52 = .ok (.iconst 4, 1) := by decide +kernel
theorem dX9_continueHearing_53 : decode cX9_continueHearing 53 = .ok (.if_icmp .ge 54, 3) := by decide +kernel
theorem dX9_continueHearing_56 : decode cX9_continueHearing 56 = .ok (.iload_n 3, 1) := by decide +kernel
theorem dX9_continueHearing_57 : decode cX9_continueHearing 57 = .ok (.iconst (-1), 1) := by decide +kernel
theorem dX9_continueHearing_58 : decode cX9_continueHearing 58 = .ok (.if_icmp .ne 49, 3) := by decide +kernel
theorem dX9_continueHearing_61 : decode cX9_continueHearing 61 = .ok (.aload_n 0, 1) := by decide +kernel
theorem dX9_continueHearing_62 : decode cX9_continueHearing 62 = .ok (.iload 4, 2) := by decide +kernel
theorem dX9_continueHearing_64 : decode cX9_continueHearing 64 = .ok (.invokevirtual 162, 3) := by decide +kernel
theorem dX9_continueHearing_67 : decode cX9_continueHearing 67 = .ok (.ifCond .ne 32, 3) := by decide +kernel
theorem dX9_continueHearing_70 : decode cX9_continueHearing 70 = .ok (.aload_n 0, 1) := by decide +kernel
theorem dX9_continueHearing_71 : decode cX9_continueHearing 71 = .ok (.aload_n 0, 1) := by decide +kernel
theorem dX9_continueHearing_72 : decode cX9_continueHearing 72 = .ok (.getfield 117, 3) := by decide +kernel
theorem dX9_continueHearing_75 : decode cX9_continueHearing 75 = .ok (.iload_n 1, 1) := by decide +kernel
theorem dX9_continueHearing_76 : decode cX9_continueHearing 76 = .ok (.iaload, 1) := by decide +kernel
theorem dX9_continueHearing_77 : decode cX9_continueHearing 77 = .ok (.iload 4, 2) := by decide +kernel
theorem dX9_continueHearing_79 : decode cX9_continueHearing 79 = .ok (.iload 5, 2) := by decide +kernel
theorem dX9_continueHearing_81 : decode cX9_continueHearing 81 = .ok (.iload_n 1, 1) := by decide +kernel
theorem dX9_continueHearing_82 : decode cX9_continueHearing 82 = .ok (.invokevirtual 287, 3) := by decide +kernel
theorem dX9_continueHearing_85 : decode cX9_continueHearing 85 = .ok (.ifCond .ne 14, 3) := by decide +kernel
theorem dX9_continueHearing_88 : decode cX9_continueHearing 88 = .ok (.bipush 10, 2) := by decide +kernel
theorem dX9_continueHearing_90 : decode cX9_continueHearing 90 = .ok (.iload 4, 2) := by decide +kernel
theorem dX9_continueHearing_92 : decode cX9_continueHearing 92 = .ok (.imul, 1) := by decide +kernel
theorem dX9_continueHearing_93 : decode cX9_continueHearing 93 = .ok (.iload 5, 2) := by decide +kernel
theorem dX9_continueHearing_95 : decode cX9_continueHearing 95 = .ok (.iadd, 1) := by decide +kernel
theorem dX9_continueHearing_96 : decode cX9_continueHearing 96 = .ok (.goto 4, 3) := by decide +kernel
theorem dX9_continueHearing_99 : decode cX9_continueHearing 99 = .ok (.iconst (-1), 1) := by decide +kernel
theorem dX9_continueHearing_100 : decode cX9_continueHearing 100 = .ok (.istore_n 3, 1) := by decide +kernel
theorem dX9_continueHearing_101 : decode cX9_continueHearing 101 = .ok (.iinc 5 1, 3) := by decide +kernel
theorem dX9_continueHearing_104 : decode cX9_continueHearing 104 = .ok (.goto (-54), 3) := by decide +kernel
theorem dX9_continueHearing_107 : decode cX9_continueHearing 107 = .ok (.iinc 4 1, 3) := by decide +kernel
theorem dX9_continueHearing_110 : decode cX9_continueHearing 110 = .ok (.goto (-76), 3) := by decide +kernel
theorem dX9_continueHearing_113 : decode cX9_continueHearing 113 = .ok (.aload_n 0, 1) := by decide +kernel
theorem dX9_continueHearing_114 : decode cX9_continueHearing 114 = .ok (.iload_n 2, 1) := by decide +kernel
theorem dX9_continueHearing_115 : decode cX9_continueHearing 115 = .ok (.ifCond .ne 7, 3) := by decide +kernel
theorem dX9_continueHearing_118 : decode cX9_continueHearing 118 = .ok (.iconst 1, 1) := by decide +kernel
theorem dX9_continueHearing_119 : decode cX9_continueHearing 119 = .ok (.goto 26, 3) := by decide +kernel
theorem dX9_continueHearing_122 : decode cX9_continueHearing 122 = .ok (.aload_n 0, 1) := by decide +kernel
theorem dX9_continueHearing_123 : decode cX9_continueHearing 123 = .ok (.getfield 120, 3) := by decide +kernel
theorem dX9_continueHearing_126 : decode cX9_continueHearing 126 = .ok (.iload_n 1, 1) := by decide +kernel
theorem dX9_continueHearing_127 : decode cX9_continueHearing 127 = .ok (.iaload, 1) := by decide +kernel
theorem dX9_continueHearing_128 : decode cX9_continueHearing 128 = .ok (.aload_n 0, 1) := by decide +kernel
theorem dX9_continueHearing_129 : decode cX9_continueHearing 129 = .ok (.getfield 152, 3) := by decide +kernel
theorem dX9_continueHearing_132 : decode cX9_continueHearing 132 = .ok (.if_icmp .le 8, 3) := by decide +kernel
theorem dX9_continueHearing_135 : decode cX9_continueHearing 135 = .ok (.iload_n 3, 1) := by decide +kernel
theorem dX9_continueHearing_136 : decode cX9_continueHearing 136 = .ok (.iconst (-1), 1) := by decide +kernel
theorem dX9_continueHearing_137 : decode cX9_continueHearing 137 = .ok (.if_icmp .ne 7, 3) := by decide +kernel
theorem dX9_continueHearing_140 : decode cX9_continueHearing 140 = .ok (.iconst 2, 1) := by decide +kernel
theorem dX9_continueHearing_141 : decode cX9_continueHearing 141 = .ok (.goto 4, 3) := by decide +kernel
theorem dX9_continueHearing_144 : decode cX9_continueHearing 144 = .ok (.iconst 0, 1) := by decide +kernel
theorem dX9_continueHearing_145 : decode cX9_continueHearing 145 = .ok (.invokevirtual 155, 3) := by decide +kernel
theorem dX9_continueHearing_148 : decode cX9_continueHearing 148 = .ok (.ifCond .eq 5, 3) := by decide +kernel
theorem dX9_continueHearing_151 : decode cX9_continueHearing 151 = .ok (.iconst 0, 1) := by decide +kernel
theorem dX9_continueHearing_152 : decode cX9_continueHearing 152 = .ok (.ireturn, 1) := by decide +kernel
theorem dX9_continueHearing_153 : decode cX9_continueHearing 153 = .ok (.aload_n 0, 1) := by decide +kernel
theorem dX9_continueHearing_154 : decode cX9_continueHearing 154 = .ok (.getfield 120, 3) := by decide +kernel
theorem dX9_continueHearing_157 : decode cX9_continueHearing 157 = .ok (.iload_n 1, 1) := by decide +kernel
theorem dX9_continueHearing_158 : decode cX9_continueHearing 158 = .ok (.iload_n 3, 1) := by decide +kernel
theorem dX9_continueHearing_159 : decode cX9_continueHearing 159 = .ok (.bipush 10, 2) := by decide +kernel
theorem dX9_continueHearing_161 : decode cX9_continueHearing 161 = .ok (.idiv, 1) := by decide +kernel
theorem dX9_continueHearing_162 : decode cX9_continueHearing 162 = .ok (.iastore, 1) := by decide +kernel
theorem dX9_continueHearing_163 : decode cX9_continueHearing 163 = .ok (.aload_n 0, 1) := by decide +kernel
theorem dX9_continueHearing_164 : decode cX9_continueHearing 164 = .ok (.getfield 123, 3) := by decide +kernel
theorem dX9_continueHearing_167 : decode cX9_continueHearing 167 = .ok (.iload_n 1, 1) := by decide +kernel
theorem dX9_continueHearing_168 : decode cX9_continueHearing 168 = .ok (.iload_n 3, 1) := by decide +kernel
theorem dX9_continueHearing_169 : decode cX9_continueHearing 169 = .ok (.bipush 10, 2) := by decide +kernel
theorem dX9_continueHearing_171 : decode cX9_continueHearing 171 = .ok (.irem, 1) := by decide +kernel
theorem dX9_continueHearing_172 : decode cX9_continueHearing 172 = .ok (.iastore, 1) := by decide +kernel
theorem dX9_continueHearing_173 : decode cX9_continueHearing 173 = .ok (.iload_n 3, 1) := by decide +kernel
theorem dX9_continueHearing_174 : decode cX9_continueHearing 174 = .ok (.ireturn, 1) := by decide +kernel
theorem dX9_hearingAt_0 : decode cX9_hearingAt 0 = .ok (.aload_n 0, 1) := by decide +kernel
theorem dX9_hearingAt_1 : decode cX9_hearingAt 1 = .ok (.iload_n 1, 1) := by decide +kernel
theorem dX9_hearingAt_2 : decode cX9_hearingAt 2 = .ok (.iconst 0, 1) := by decide +kernel
theorem dX9_hearingAt_3 : decode cX9_hearingAt 3 = .ok (.aload_n 0, 1) := by decide +kernel
theorem dX9_hearingAt_4 : decode cX9_hearingAt 4 = .ok (.getfield 281, 3) := by decide +kernel
theorem dX9_hearingAt_7 : decode cX9_hearingAt 7 = .ok (.iconst 1, 1) := by decide +kernel
theorem dX9_hearingAt_8 : decode cX9_hearingAt 8 = .ok (.isub, 1) := by decide +kernel
theorem dX9_hearingAt_9 : decode cX9_hearingAt 9 = .ok (.invokestatic 148, 3) := by decide +kernel
theorem dX9_hearingAt_12 : decode cX9_hearingAt 12 = .ok (.ifCond .eq 7, 3) := by decide +kernel
theorem dX9_hearingAt_15 : decode cX9_hearingAt 15 = .ok (.iconst 0, 1) := by decide +kernel
theorem dX9_hearingAt_16 : decode cX9_hearingAt 16 = .ok (.goto 4, 3) := by decide +kernel
theorem dX9_hearingAt_19 : decode cX9_hearingAt 19 = .ok (.iconst 1, 1) := by decide +kernel
theorem dX9_hearingAt_20 : decode cX9_hearingAt 20 = .ok (.invokevirtual 155, 3) := by decide +kernel
theorem dX9_hearingAt_23 : decode cX9_hearingAt 23 = .ok (.ifCond .eq 7, 3) := by decide +kernel
theorem dX9_hearingAt_26 : decode cX9_hearingAt 26 = .ok (.iconst 0, 1) := by decide +kernel
theorem dX9_hearingAt_27 : decode cX9_hearingAt 27 = .ok (.goto 19, 3) := by decide +kernel
theorem dX9_hearingAt_30 : decode cX9_hearingAt 30 = .ok (.bipush 10, 2) := by decide +kernel
theorem dX9_hearingAt_32 : decode cX9_hearingAt 32 = .ok (.aload_n 0, 1) := by decide +kernel
theorem dX9_hearingAt_33 : decode cX9_hearingAt 33 = .ok (.getfield 120, 3) := by decide +kernel
theorem dX9_hearingAt_36 : decode cX9_hearingAt 36 = .ok (.iload_n 1, 1) := by decide +kernel
theorem dX9_hearingAt_37 : decode cX9_hearingAt 37 = .ok (.iaload, 1) := by decide +kernel
theorem dX9_hearingAt_38 : decode cX9_hearingAt 38 = .ok (.imul, 1) := by decide +kernel
theorem dX9_hearingAt_39 : decode cX9_hearingAt 39 = .ok (.aload_n 0, 1) := by decide +kernel
theorem dX9_hearingAt_40 : decode cX9_hearingAt 40 = .ok (.getfield 123, 3) := by decide +kernel
theorem dX9_hearingAt_43 : decode cX9_hearingAt 43 = .ok (.iload_n 1, 1) := by decide +kernel
theorem dX9_hearingAt_44 : decode cX9_hearingAt 44 = .ok (.iaload, 1) := by decide +kernel
theorem dX9_hearingAt_45 : decode cX9_hearingAt 45 = .ok (.iadd, 1) := by decide +kernel
theorem dX9_hearingAt_46 : decode cX9_hearingAt 46 = .ok (.ireturn, 1) := by decide +kernel
theorem dX9_strike_0 : decode cX9_strike 0 = .ok (.aload_n 0, 1) := by decide +kernel
theorem dX9_strike_1 : decode cX9_strike 1 = .ok (.iload_n 1, 1) := by decide +kernel
theorem dX9_strike_2 : decode cX9_strike 2 = .ok (.invokevirtual 181, 3) := by decide +kernel
theorem dX9_strike_5 : decode cX9_strike 5 = .ok (.ifCond .eq 26, 3) := by decide +kernel
theorem dX9_strike_8 : decode cX9_strike 8 = .ok (.iload_n 2, 1) := by decide +kernel
theorem dX9_strike_9 : decode cX9_strike 9 = .ok (.iconst 0, 1) := by decide +kernel
theorem dX9_strike_10 : decode cX9_strike 10 = .ok (.iconst 1, 1) := by decide +kernel
theorem dX9_strike_11 : decode cX9_strike 11 = .ok (.invokestatic 148, 3) := by decide +kernel
theorem dX9_strike_14 : decode cX9_strike 14 = .ok (.ifCond .eq 17, 3) := by decide +kernel
theorem dX9_strike_17 : decode cX9_strike 17 = .ok (.iload_n 3, 1) := by decide +kernel
theorem dX9_strike_18 : decode cX9_strike 18 = .ok (.iconst 0, 1) := by decide +kernel
theorem dX9_strike_19 : decode cX9_strike 19 = .ok (.bipush 13, 2) := by decide +kernel
theorem dX9_strike_21 : decode cX9_strike 21 = .ok (.invokestatic 148, 3) := by decide +kernel
theorem dX9_strike_24 : decode cX9_strike 24 = .ok (.ifCond .eq 7, 3) := by decide +kernel
theorem dX9_strike_27 : decode cX9_strike 27 = .ok (.iconst 1, 1) := by decide +kernel
theorem dX9_strike_28 : decode cX9_strike 28 = .ok (.goto 4, 3) := by decide +kernel
theorem dX9_strike_31 : decode cX9_strike 31 = .ok (.iconst 0, 1) := by decide +kernel
theorem dX9_strike_32 : decode cX9_strike 32 = .ok (.istore 4, 2) := by decide +kernel
theorem dX9_strike_34 : decode cX9_strike 34 = .ok (.aload_n 0, 1) := by decide +kernel
theorem dX9_strike_35 : decode cX9_strike 35 = .ok (.iload 4, 2) := by decide +kernel
theorem dX9_strike_37 : decode cX9_strike 37 = .ok (.ifCond .ne 7, 3) := by decide +kernel
theorem dX9_strike_40 : decode cX9_strike 40 = .ok (.iconst 1, 1) := by decide +kernel
theorem dX9_strike_41 : decode cX9_strike 41 = .ok (.goto 45, 3) := by decide +kernel
theorem dX9_strike_44 : decode cX9_strike 44 = .ok (.aload_n 0, 1) := by decide +kernel
theorem dX9_strike_45 : decode cX9_strike 45 = .ok (.getfield 126, 3) := by decide +kernel
theorem dX9_strike_48 : decode cX9_strike 48 = .ok (.iload_n 1, 1) := by decide +kernel
theorem dX9_strike_49 : decode cX9_strike 49 = .ok (.iaload, 1) := by decide +kernel
theorem dX9_strike_50 : decode cX9_strike 50 = .ok (.bipush 6, 2) := by decide +kernel
theorem dX9_strike_52 : decode cX9_strike 52 = .ok (.if_icmp .eq 29, 3) := by decide +kernel
theorem dX9_strike_55 : decode cX9_strike 55 = .ok (.aload_n 0, 1) := by decide +kernel
theorem dX9_strike_56 : decode cX9_strike 56 = .ok (.getfield 126, 3) := by decide +kernel
theorem dX9_strike_59 : decode cX9_strike 59 = .ok (.iload_n 1, 1) := by decide +kernel
theorem dX9_strike_60 : decode cX9_strike 60 = .ok (.iaload, 1) := by decide +kernel
theorem dX9_strike_61 : decode cX9_strike 61 = .ok (.iconst 2, 1) := by decide +kernel
theorem dX9_strike_62 : decode cX9_strike 62 = .ok (.irem, 1) := by decide +kernel
theorem dX9_strike_63 : decode cX9_strike 63 = .ok (.iload_n 2, 1) := by decide +kernel
theorem dX9_strike_64 : decode cX9_strike 64 = .ok (.if_icmp .ne 17, 3) := by decide +kernel
theorem dX9_strike_67 : decode cX9_strike 67 = .ok (.aload_n 0, 1) := by decide +kernel
theorem dX9_strike_68 : decode cX9_strike 68 = .ok (.getfield 129, 3) := by decide +kernel
theorem dX9_strike_71 : decode cX9_strike 71 = .ok (.bipush 14, 2) := by decide +kernel
theorem dX9_strike_73 : decode cX9_strike 73 = .ok (.iload_n 1, 1) := by decide +kernel
theorem dX9_strike_74 : decode cX9_strike 74 = .ok (.imul, 1) := by decide +kernel
theorem dX9_strike_75 : decode cX9_strike 75 = .ok (.iload_n 3, 1) := by decide +kernel
theorem dX9_strike_76 : decode cX9_strike 76 = .ok (.iadd, 1) := by decide +kernel
theorem dX9_strike_77 : decode cX9_strike 77 = .ok (.baload, 1) := by decide +kernel
theorem dX9_strike_78 : decode cX9_strike 78 = .ok (.ifCond .eq 7, 3) := by decide +kernel
theorem dX9_strike_81 : decode cX9_strike 81 = .ok (.iconst 2, 1) := by decide +kernel
theorem dX9_strike_82 : decode cX9_strike 82 = .ok (.goto 4, 3) := by decide +kernel
theorem dX9_strike_85 : decode cX9_strike 85 = .ok (.iconst 0, 1) := by decide +kernel
theorem dX9_strike_86 : decode cX9_strike 86 = .ok (.invokevirtual 155, 3) := by decide +kernel
theorem dX9_strike_89 : decode cX9_strike 89 = .ok (.ifCond .eq 5, 3) := by decide +kernel
theorem dX9_strike_92 : decode cX9_strike 92 = .ok (.iconst 0, 1) := by decide +kernel
theorem dX9_strike_93 : decode cX9_strike 93 = .ok (.ireturn, 1) := by decide +kernel
theorem dX9_strike_94 : decode cX9_strike 94 = .ok (.aload_n 0, 1) := by decide +kernel
theorem dX9_strike_95 : decode cX9_strike 95 = .ok (.getfield 129, 3) := by decide +kernel
theorem dX9_strike_98 : decode cX9_strike 98 = .ok (.bipush 14, 2) := by decide +kernel
theorem dX9_strike_100 : decode cX9_strike 100 = .ok (.iload_n 1, 1) := by decide +kernel
theorem dX9_strike_101 : decode cX9_strike 101 = .ok (.imul, 1) := by decide +kernel
theorem dX9_strike_102 : decode cX9_strike 102 = .ok (.iload_n 3, 1) := by decide +kernel
theorem dX9_strike_103 : decode cX9_strike 103 = .ok (.iadd, 1) := by decide +kernel
theorem dX9_strike_104 : decode cX9_strike 104 = .ok (.iconst 1, 1) := by decide +kernel
theorem dX9_strike_105 : decode cX9_strike 105 = .ok (.bastore, 1) := by decide +kernel
theorem dX9_strike_106 : decode cX9_strike 106 = .ok (.aload_n 0, 1) := by decide +kernel
theorem dX9_strike_107 : decode cX9_strike 107 = .ok (.getfield 126, 3) := by decide +kernel
theorem dX9_strike_110 : decode cX9_strike 110 = .ok (.iload_n 1, 1) := by decide +kernel
theorem dX9_strike_111 : decode cX9_strike 111 = .ok (.dup2, 1) := by decide +kernel
theorem dX9_strike_112 : decode cX9_strike 112 = .ok (.iaload, 1) := by decide +kernel
theorem dX9_strike_113 : decode cX9_strike 113 = .ok (.iconst 1, 1) := by decide +kernel
theorem dX9_strike_114 : decode cX9_strike 114 = .ok (.iadd, 1) := by decide +kernel
theorem dX9_strike_115 : decode cX9_strike 115 = .ok (.iastore, 1) := by decide +kernel
theorem dX9_strike_116 : decode cX9_strike 116 = .ok (.aload_n 0, 1) := by decide +kernel
theorem dX9_strike_117 : decode cX9_strike 117 = .ok (.getfield 126, 3) := by decide +kernel
theorem dX9_strike_120 : decode cX9_strike 120 = .ok (.iload_n 1, 1) := by decide +kernel
theorem dX9_strike_121 : decode cX9_strike 121 = .ok (.iaload, 1) := by decide +kernel
theorem dX9_strike_122 : decode cX9_strike 122 = .ok (.bipush 6, 2) := by decide +kernel
theorem dX9_strike_124 : decode cX9_strike 124 = .ok (.if_icmp .ne 54, 3) := by decide +kernel
theorem dX9_strike_127 : decode cX9_strike 127 = .ok (.iconst 0, 1) := by decide +kernel
theorem dX9_strike_128 : decode cX9_strike 128 = .ok (.istore 5, 2) := by decide +kernel
theorem dX9_strike_130 : decode cX9_strike 130 = .ok (.iconst 0, 1) := by decide +kernel
theorem dX9_strike_131 : decode cX9_strike 131 = .ok (.istore 6, 2) := by decide +kernel
theorem dX9_strike_133 : decode cX9_strike 133 = .ok (.iload 6, 2) := by decide +kernel
theorem dX9_strike_135 : decode cX9_strike 135 = .ok (.bipush 14, 2) := by decide +kernel
theorem dX9_strike_137 : decode cX9_strike 137 = .ok (.if_icmp .ge 41, 3) := by decide +kernel
theorem dX9_strike_140 : decode cX9_strike 140 = .ok (.aload_n 0, 1) := by decide +kernel
theorem dX9_strike_141 : decode cX9_strike 141 = .ok (.getfield 129, 3) := by decide +kernel
theorem dX9_strike_144 : decode cX9_strike 144 = .ok (.bipush 14, 2) := by decide +kernel
theorem dX9_strike_146 : decode cX9_strike 146 = .ok (.iload_n 1, 1) := by decide +kernel
theorem dX9_strike_147 : decode cX9_strike 147 = .ok (.imul, 1) := by decide +kernel
theorem dX9_strike_148 : decode cX9_strike 148 = .ok (.iload 6, 2) := by decide +kernel
theorem dX9_strike_150 : decode cX9_strike 150 = .ok (.iadd, 1) := by decide +kernel
theorem dX9_strike_151 : decode cX9_strike 151 = .ok (.baload, 1) := by decide +kernel
theorem dX9_strike_152 : decode cX9_strike 152 = .ok (.ifCond .ne 20, 3) := by decide +kernel
theorem dX9_strike_155 : decode cX9_strike 155 = .ok (.aload_n 0, 1) := by decide +kernel
theorem dX9_strike_156 : decode cX9_strike 156 = .ok (.getfield 132, 3) := by decide +kernel
theorem dX9_strike_159 : decode cX9_strike 159 = .ok (.bipush 8, 2) := by decide +kernel
theorem dX9_strike_161 : decode cX9_strike 161 = .ok (.iload_n 1, 1) := by decide +kernel
theorem dX9_strike_162 : decode cX9_strike 162 = .ok (.imul, 1) := by decide +kernel
theorem dX9_strike_163 : decode cX9_strike 163 = .ok (.iload 5, 2) := by decide +kernel
theorem dX9_strike_165 : decode cX9_strike 165 = .ok (.iadd, 1) := by decide +kernel
theorem dX9_strike_166 : decode cX9_strike 166 = .ok (.iload 6, 2) := by decide +kernel
theorem dX9_strike_168 : decode cX9_strike 168 = .ok (.iastore, 1) := by decide +kernel
theorem dX9_strike_169 : decode cX9_strike 169 = .ok (.iinc 5 1, 3) := by decide +kernel
theorem dX9_strike_172 : decode cX9_strike 172 = .ok (.iinc 6 1, 3) := by decide +kernel
theorem dX9_strike_175 : decode cX9_strike 175 = .ok (.goto (-42), 3) := by decide +kernel
theorem dX9_strike_178 : decode cX9_strike 178 = .ok (.aload_n 0, 1) := by decide +kernel
theorem dX9_strike_179 : decode cX9_strike 179 = .ok (.getfield 126, 3) := by decide +kernel
theorem dX9_strike_182 : decode cX9_strike 182 = .ok (.iload_n 1, 1) := by decide +kernel
theorem dX9_strike_183 : decode cX9_strike 183 = .ok (.iaload, 1) := by decide +kernel
theorem dX9_strike_184 : decode cX9_strike 184 = .ok (.ireturn, 1) := by decide +kernel
theorem dX9_alternate_0 : decode cX9_alternate 0 = .ok (.aload_n 0, 1) := by decide +kernel
theorem dX9_alternate_1 : decode cX9_alternate 1 = .ok (.getfield 132, 3) := by decide +kernel
theorem dX9_alternate_4 : decode cX9_alternate 4 = .ok (.bipush 8, 2) := by decide +kernel
theorem dX9_alternate_6 : decode cX9_alternate 6 = .ok (.iload_n 1, 1) := by decide +kernel
theorem dX9_alternate_7 : decode cX9_alternate 7 = .ok (.imul, 1) := by decide +kernel
theorem dX9_alternate_8 : decode cX9_alternate 8 = .ok (.bipush 6, 2) := by decide +kernel
theorem dX9_alternate_10 : decode cX9_alternate 10 = .ok (.iadd, 1) := by decide +kernel
theorem dX9_alternate_11 : decode cX9_alternate 11 = .ok (.iaload, 1) := by decide +kernel
theorem dX9_alternate_12 : decode cX9_alternate 12 = .ok (.iconst (-1), 1) := by decide +kernel
theorem dX9_alternate_13 : decode cX9_alternate 13 = .ok (.if_icmp .eq 8, 3) := by decide +kernel
theorem dX9_alternate_16 : decode cX9_alternate 16 = .ok (.bipush 6, 2) := by decide +kernel
theorem dX9_alternate_18 : decode cX9_alternate 18 = .ok (.goto 25, 3) := by decide +kernel
theorem dX9_alternate_21 : decode cX9_alternate 21 = .ok (.aload_n 0, 1) := by decide +kernel
theorem dX9_alternate_22 : decode cX9_alternate 22 = .ok (.getfield 132, 3) := by decide +kernel
theorem dX9_alternate_25 : decode cX9_alternate 25 = .ok (.bipush 8, 2) := by decide +kernel
theorem dX9_alternate_27 : decode cX9_alternate 27 = .ok (.iload_n 1, 1) := by decide +kernel
theorem dX9_alternate_28 : decode cX9_alternate 28 = .ok (.imul, 1) := by decide +kernel
theorem dX9_alternate_29 : decode cX9_alternate 29 = .ok (.bipush 7, 2) := by decide +kernel
theorem dX9_alternate_31 : decode cX9_alternate 31 = .ok (.iadd, 1) := by decide +kernel
theorem dX9_alternate_32 : decode cX9_alternate 32 = .ok (.iaload, 1) := by decide +kernel
theorem dX9_alternate_33 : decode cX9_alternate 33 = .ok (.iconst (-1), 1) := by decide +kernel
theorem dX9_alternate_34 : decode cX9_alternate 34 = .ok (.if_icmp .eq 8, 3) := by decide +kernel
theorem dX9_alternate_37 : decode cX9_alternate 37 = .ok (.bipush 7, 2) := by decide +kernel
theorem dX9_alternate_39 : decode cX9_alternate 39 = .ok (.goto 4, 3) := by decide +kernel
theorem dX9_alternate_42 : decode cX9_alternate 42 = .ok (.iconst (-1), 1) := by decide +kernel
theorem dX9_alternate_43 : decode cX9_alternate 43 = .ok (.ireturn, 1) := by decide +kernel
theorem dX9_dismiss_0 : decode cX9_dismiss 0 = .ok (.aload_n 0, 1) := by decide +kernel
theorem dX9_dismiss_1 : decode cX9_dismiss 1 = .ok (.iload_n 1, 1) := by decide +kernel
theorem dX9_dismiss_2 : decode cX9_dismiss 2 = .ok (.invokevirtual 181, 3) := by decide +kernel
theorem dX9_dismiss_5 : decode cX9_dismiss 5 = .ok (.ifCond .eq 17, 3) := by decide +kernel
theorem dX9_dismiss_8 : decode cX9_dismiss 8 = .ok (.iload_n 2, 1) := by decide +kernel
theorem dX9_dismiss_9 : decode cX9_dismiss 9 = .ok (.iconst 0, 1) := by decide +kernel
theorem dX9_dismiss_10 : decode cX9_dismiss 10 = .ok (.bipush 13, 2) := by decide +kernel
theorem dX9_dismiss_12 : decode cX9_dismiss 12 = .ok (.invokestatic 148, 3) := by decide +kernel
theorem dX9_dismiss_15 : decode cX9_dismiss 15 = .ok (.ifCond .eq 7, 3) := by decide +kernel
theorem dX9_dismiss_18 : decode cX9_dismiss 18 = .ok (.iconst 1, 1) := by decide +kernel
theorem dX9_dismiss_19 : decode cX9_dismiss 19 = .ok (.goto 4, 3) := by decide +kernel
theorem dX9_dismiss_22 : decode cX9_dismiss 22 = .ok (.iconst 0, 1) := by decide +kernel
theorem dX9_dismiss_23 : decode cX9_dismiss 23 = .ok (.istore_n 3, 1) := by decide +kernel
theorem dX9_dismiss_24 : decode cX9_dismiss 24 = .ok (.iconst (-1), 1) := by decide +kernel
theorem dX9_dismiss_25 : decode cX9_dismiss 25 = .ok (.istore 4, 2) := by decide +kernel
theorem dX9_dismiss_27 : decode cX9_dismiss 27 = .ok (.iconst 0, 1) := by decide +kernel
theorem dX9_dismiss_28 : decode cX9_dismiss 28 = .ok (.istore 5, 2) := by decide +kernel
theorem dX9_dismiss_30 : decode cX9_dismiss 30 = .ok (.iload 5, 2) := by decide +kernel
theorem dX9_dismiss_32 : decode cX9_dismiss 32 = .ok (.bipush 6, 2) := by decide +kernel
theorem dX9_dismiss_34 : decode cX9_dismiss 34 = .ok (.if_icmp .ge 38, 3) := by decide +kernel
theorem dX9_dismiss_37 : decode cX9_dismiss 37 = .ok (.iload_n 3, 1) := by decide +kernel
theorem dX9_dismiss_38 : decode cX9_dismiss 38 = .ok (.ifCond .eq 34, 3) := by decide +kernel
theorem dX9_dismiss_41 : decode cX9_dismiss 41 = .ok (.aload_n 0, 1) := by decide +kernel
theorem dX9_dismiss_42 : decode cX9_dismiss 42 = .ok (.getfield 132, 3) := by decide +kernel
theorem dX9_dismiss_45 : decode cX9_dismiss 45 = .ok (.bipush 8, 2) := by decide +kernel
theorem dX9_dismiss_47 : decode cX9_dismiss 47 = .ok (.iload_n 1, 1) := by decide +kernel
theorem dX9_dismiss_48 : decode cX9_dismiss 48 = .ok (.imul, 1) := by decide +kernel
theorem dX9_dismiss_49 : decode cX9_dismiss 49 = .ok (.iload 5, 2) := by decide +kernel
theorem dX9_dismiss_51 : decode cX9_dismiss 51 = .ok (.iadd, 1) := by decide +kernel
theorem dX9_dismiss_52 : decode cX9_dismiss 52 = .ok (.iaload, 1) := by decide +kernel
theorem dX9_dismiss_53 : decode cX9_dismiss 53 = .ok (.iload_n 2, 1) := by decide +kernel
theorem dX9_dismiss_54 : decode cX9_dismiss 54 = .ok (.if_icmp .ne 8, 3) := by decide +kernel
theorem dX9_dismiss_57 : decode cX9_dismiss 57 = .ok (.iload 5, 2) := by decide +kernel
theorem dX9_dismiss_59 : decode cX9_dismiss 59 = .ok (.goto 5, 3) := by decide +kernel
theorem dX9_dismiss_62 : decode cX9_dismiss 62 = .ok (.iload 4, 2) := by decide +kernel
theorem dX9_dismiss_64 : decode cX9_dismiss 64 = .ok (.istore 4, 2) := by decide +kernel
theorem dX9_dismiss_66 : decode cX9_dismiss 66 = .ok (.iinc 5 1, 3) := by decide +kernel
theorem dX9_dismiss_69 : decode cX9_dismiss 69 = .ok (.goto (-39), 3) := by decide +kernel
theorem dX9_dismiss_72 : decode cX9_dismiss 72 = .ok (.iload_n 3, 1) := by decide +kernel
theorem dX9_dismiss_73 : decode cX9_dismiss 73 = .ok (.ifCond .eq 11, 3) := by decide +kernel
theorem dX9_dismiss_76 : decode cX9_dismiss 76 = .ok (.aload_n 0, 1) := by decide +kernel
theorem dX9_dismiss_77 : decode cX9_dismiss 77 = .ok (.iload_n 1, 1) := by decide +kernel
theorem dX9_dismiss_78 : decode cX9_dismiss 78 = .ok (.invokevirtual 291, 3) := by decide +kernel
theorem dX9_dismiss_81 : decode cX9_dismiss 81 = .ok (.goto 4, 3) := by decide +kernel
theorem dX9_dismiss_84 : decode cX9_dismiss 84 = .ok (.iconst (-1), 1) := by decide +kernel
theorem dX9_dismiss_85 : decode cX9_dismiss 85 = .ok (.istore 5, 2) := by decide +kernel
theorem dX9_dismiss_87 : decode cX9_dismiss 87 = .ok (.aload_n 0, 1) := by decide +kernel
theorem dX9_dismiss_88 : decode cX9_dismiss 88 = .ok (.iload_n 3, 1) := by decide +kernel
theorem dX9_dismiss_89 : decode cX9_dismiss 89 = .ok (.ifCond .ne 7, 3) := by decide +kernel
theorem dX9_dismiss_92 : decode cX9_dismiss 92 = .ok (.iconst 1, 1) := by decide +kernel
theorem dX9_dismiss_93 : decode cX9_dismiss 93 = .ok (.goto 20, 3) := by decide +kernel
theorem dX9_dismiss_96 : decode cX9_dismiss 96 = .ok (.iload 4, 2) := by decide +kernel
theorem dX9_dismiss_98 : decode cX9_dismiss 98 = .ok (.iconst (-1), 1) := by decide +kernel
theorem dX9_dismiss_99 : decode cX9_dismiss 99 = .ok (.if_icmp .eq 9, 3) := by decide +kernel
theorem dX9_dismiss_102 : decode cX9_dismiss 102 = .ok (.iload 5, 2) := by decide +kernel
theorem dX9_dismiss_104 : decode cX9_dismiss 104 = .ok (.iconst (-1), 1) := by decide +kernel
theorem dX9_dismiss_105 : decode cX9_dismiss 105 = .ok (.if_icmp .ne 7, 3) := by decide +kernel
theorem dX9_dismiss_108 : decode cX9_dismiss 108 = .ok (.iconst 2, 1) := by decide +kernel
theorem dX9_dismiss_109 : decode cX9_dismiss 109 = .ok (.goto 4, 3) := by decide +kernel
theorem dX9_dismiss_112 : decode cX9_dismiss 112 = .ok (.iconst 0, 1) := by decide +kernel
theorem dX9_dismiss_113 : decode cX9_dismiss 113 = .ok (.invokevirtual 155, 3) := by decide +kernel
theorem dX9_dismiss_116 : decode cX9_dismiss 116 = .ok (.ifCond .eq 5, 3) := by decide +kernel
theorem dX9_dismiss_119 : decode cX9_dismiss 119 = .ok (.iconst 0, 1) := by decide +kernel
theorem dX9_dismiss_120 : decode cX9_dismiss 120 = .ok (.ireturn, 1) := by decide +kernel
theorem dX9_dismiss_121 : decode cX9_dismiss 121 = .ok (.aload_n 0, 1) := by decide +kernel
theorem dX9_dismiss_122 : decode cX9_dismiss 122 = .ok (.getfield 132, 3) := by decide +kernel
theorem dX9_dismiss_125 : decode cX9_dismiss 125 = .ok (.bipush 8, 2) := by decide +kernel
theorem dX9_dismiss_127 : decode cX9_dismiss 127 = .ok (.iload_n 1, 1) := by decide +kernel
theorem dX9_dismiss_128 : decode cX9_dismiss 128 = .ok (.imul, 1) := by decide +kernel
theorem dX9_dismiss_129 : decode cX9_dismiss 129 = .ok (.iload 4, 2) := by decide +kernel
theorem dX9_dismiss_131 : decode cX9_dismiss 131 = .ok (.iadd, 1) := by decide +kernel
theorem dX9_dismiss_132 : decode cX9_dismiss 132 = .ok (.aload_n 0, 1) := by decide +kernel
theorem dX9_dismiss_133 : decode cX9_dismiss 133 = .ok (.getfield 132, 3) := by decide +kernel
theorem dX9_dismiss_136 : decode cX9_dismiss 136 = .ok (.bipush 8, 2) := by decide +kernel
theorem dX9_dismiss_138 : decode cX9_dismiss 138 = .ok (.iload_n 1, 1) := by decide +kernel
theorem dX9_dismiss_139 : decode cX9_dismiss 139 = .ok (.imul, 1) := by decide +kernel
theorem dX9_dismiss_140 : decode cX9_dismiss 140 = .ok (.iload 5, 2) := by decide +kernel
theorem dX9_dismiss_142 : decode cX9_dismiss 142 = .ok (.iadd, 1) := by decide +kernel
theorem dX9_dismiss_143 : decode cX9_dismiss 143 = .ok (.iaload, 1) := by decide +kernel
theorem dX9_dismiss_144 : decode cX9_dismiss 144 = .ok (.iastore, 1) := by decide +kernel
theorem dX9_dismiss_145 : decode cX9_dismiss 145 = .ok (.aload_n 0, 1) := by decide +kernel
theorem dX9_dismiss_146 : decode cX9_dismiss 146 = .ok (.getfield 132, 3) := by decide +kernel
theorem dX9_dismiss_149 : decode cX9_dismiss 149 = .ok (.bipush 8, 2) := by decide +kernel
theorem dX9_dismiss_151 : decode cX9_dismiss 151 = .ok (.iload_n 1, 1) := by decide +kernel
theorem dX9_dismiss_152 : decode cX9_dismiss 152 = .ok (.imul, 1) := by decide +kernel
theorem dX9_dismiss_153 : decode cX9_dismiss 153 = .ok (.iload 5, 2) := by decide +kernel
theorem dX9_dismiss_155 : decode cX9_dismiss 155 = .ok (.iadd, 1) := by decide +kernel
theorem dX9_dismiss_156 : decode cX9_dismiss 156 = .ok (.iconst (-1), 1) := by decide +kernel
theorem dX9_dismiss_157 : decode cX9_dismiss 157 = .ok (.iastore, 1) := by decide +kernel
theorem dX9_dismiss_158 : decode cX9_dismiss 158 = .ok (.aload_n 0, 1) := by decide +kernel
theorem dX9_dismiss_159 : decode cX9_dismiss 159 = .ok (.getfield 132, 3) := by decide +kernel
theorem dX9_dismiss_162 : decode cX9_dismiss 162 = .ok (.bipush 8, 2) := by decide +kernel
theorem dX9_dismiss_164 : decode cX9_dismiss 164 = .ok (.iload_n 1, 1) := by decide +kernel
theorem dX9_dismiss_165 : decode cX9_dismiss 165 = .ok (.imul, 1) := by decide +kernel
theorem dX9_dismiss_166 : decode cX9_dismiss 166 = .ok (.iload 4, 2) := by decide +kernel
theorem dX9_dismiss_168 : decode cX9_dismiss 168 = .ok (.iadd, 1) := by decide +kernel
theorem dX9_dismiss_169 : decode cX9_dismiss 169 = .ok (.iaload, 1) := by decide +kernel
theorem dX9_dismiss_170 : decode cX9_dismiss 170 = .ok (.ireturn, 1) := by decide +kernel
theorem dX9_seat_0 : decode cX9_seat 0 = .ok (.aload_n 0, 1) := by decide +kernel
theorem dX9_seat_1 : decode cX9_seat 1 = .ok (.aload_n 0, 1) := by decide +kernel
theorem dX9_seat_2 : decode cX9_seat 2 = .ok (.iload_n 1, 1) := by decide +kernel
theorem dX9_seat_3 : decode cX9_seat 3 = .ok (.invokevirtual 181, 3) := by decide +kernel
theorem dX9_seat_6 : decode cX9_seat 6 = .ok (.ifCond .eq 17, 3) := by decide +kernel
theorem dX9_seat_9 : decode cX9_seat 9 = .ok (.iload_n 2, 1) := by decide +kernel
theorem dX9_seat_10 : decode cX9_seat 10 = .ok (.iconst 0, 1) := by decide +kernel
theorem dX9_seat_11 : decode cX9_seat 11 = .ok (.bipush 6, 2) := by decide +kernel
theorem dX9_seat_13 : decode cX9_seat 13 = .ok (.invokestatic 148, 3) := by decide +kernel
theorem dX9_seat_16 : decode cX9_seat 16 = .ok (.ifCond .eq 7, 3) := by decide +kernel
theorem dX9_seat_19 : decode cX9_seat 19 = .ok (.iconst 0, 1) := by decide +kernel
theorem dX9_seat_20 : decode cX9_seat 20 = .ok (.goto 4, 3) := by decide +kernel
theorem dX9_seat_23 : decode cX9_seat 23 = .ok (.iconst 1, 1) := by decide +kernel
theorem dX9_seat_24 : decode cX9_seat 24 = .ok (.invokevirtual 155, 3) := by decide +kernel
theorem dX9_seat_27 : decode cX9_seat 27 = .ok (.ifCond .eq 5, 3) := by decide +kernel
theorem dX9_seat_30 : decode cX9_seat 30 = .ok (.iconst 0, 1) := by decide +kernel
theorem dX9_seat_31 : decode cX9_seat 31 = .ok (.ireturn, 1) := by decide +kernel
theorem dX9_seat_32 : decode cX9_seat 32 = .ok (.iload_n 2, 1) := by decide +kernel
theorem dX9_seat_33 : decode cX9_seat 33 = .ok (.bipush 6, 2) := by decide +kernel
theorem dX9_seat_35 : decode cX9_seat 35 = .ok (.if_icmp .ge 7, 3) := by decide +kernel
theorem dX9_seat_38 : decode cX9_seat 38 = .ok (.iload_n 2, 1) := by decide +kernel
theorem dX9_seat_39 : decode cX9_seat 39 = .ok (.goto 8, 3) := by decide +kernel
theorem dX9_seat_42 : decode cX9_seat 42 = .ok (.aload_n 0, 1) := by decide +kernel
theorem dX9_seat_43 : decode cX9_seat 43 = .ok (.iload_n 1, 1) := by decide +kernel
theorem dX9_seat_44 : decode cX9_seat 44 = .ok (.invokevirtual 291, 3) := by decide +kernel
theorem dX9_seat_47 : decode cX9_seat 47 = .ok (.istore_n 3, 1) := by decide +kernel
theorem dX9_seat_48 : decode cX9_seat 48 = .ok (.iload_n 3, 1) := by decide +kernel
theorem dX9_seat_49 : decode cX9_seat 49 = .ok (.iconst (-1), 1) := by decide +kernel
theorem dX9_seat_50 : decode cX9_seat 50 = .ok (.if_icmp .ne 7, 3) := by decide +kernel
theorem dX9_seat_53 : decode cX9_seat 53 = .ok (.iconst (-1), 1) := by decide +kernel
theorem dX9_seat_54 : decode cX9_seat 54 = .ok (.goto 14, 3) := by decide +kernel
theorem dX9_seat_57 : decode cX9_seat 57 = .ok (.aload_n 0, 1) := by decide +kernel
theorem dX9_seat_58 : decode cX9_seat 58 = .ok (.getfield 132, 3) := by decide +kernel
theorem dX9_seat_61 : decode cX9_seat 61 = .ok (.bipush 8, 2) := by decide +kernel
theorem dX9_seat_63 : decode cX9_seat 63 = .ok (.iload_n 1, 1) := by decide +kernel
theorem dX9_seat_64 : decode cX9_seat 64 = .ok (.imul, 1) := by decide +kernel
theorem dX9_seat_65 : decode cX9_seat 65 = .ok (.iload_n 3, 1) := by decide +kernel
theorem dX9_seat_66 : decode cX9_seat 66 = .ok (.iadd, 1) := by decide +kernel
theorem dX9_seat_67 : decode cX9_seat 67 = .ok (.iaload, 1) := by decide +kernel
theorem dX9_seat_68 : decode cX9_seat 68 = .ok (.ireturn, 1) := by decide +kernel
theorem dX9_isExhibit_0 : decode cX9_isExhibit 0 = .ok (.iload_n 1, 1) := by decide +kernel
theorem dX9_isExhibit_1 : decode cX9_isExhibit 1 = .ok (.iconst 0, 1) := by decide +kernel
theorem dX9_isExhibit_2 : decode cX9_isExhibit 2 = .ok (.aload_n 0, 1) := by decide +kernel
theorem dX9_isExhibit_3 : decode cX9_isExhibit 3 = .ok (.getfield 294, 3) := by decide +kernel
theorem dX9_isExhibit_6 : decode cX9_isExhibit 6 = .ok (.iconst 1, 1) := by decide +kernel
theorem dX9_isExhibit_7 : decode cX9_isExhibit 7 = .ok (.isub, 1) := by decide +kernel
theorem dX9_isExhibit_8 : decode cX9_isExhibit 8 = .ok (.invokestatic 148, 3) := by decide +kernel
theorem dX9_isExhibit_11 : decode cX9_isExhibit 11 = .ok (.ireturn, 1) := by decide +kernel
theorem dX9_exhibit_0 : decode cX9_exhibit 0 = .ok (.aload_n 0, 1) := by decide +kernel
theorem dX9_exhibit_1 : decode cX9_exhibit 1 = .ok (.aload_n 0, 1) := by decide +kernel
theorem dX9_exhibit_2 : decode cX9_exhibit 2 = .ok (.iload_n 1, 1) := by decide +kernel
theorem dX9_exhibit_3 : decode cX9_exhibit 3 = .ok (.invokevirtual 181, 3) := by decide +kernel
theorem dX9_exhibit_6 : decode cX9_exhibit 6 = .ok (.ifCond .eq 10, 3) := by decide +kernel
theorem dX9_exhibit_9 : decode cX9_exhibit 9 = .ok (.iload_n 2, 1) := by decide +kernel
theorem dX9_exhibit_10 : decode cX9_exhibit 10 = .ok (.invokestatic 184, 3) := by decide +kernel
theorem dX9_exhibit_13 : decode cX9_exhibit 13 = .ok (.ifCond .ne 7, 3) := by decide +kernel
theorem dX9_exhibit_16 : decode cX9_exhibit 16 = .ok (.iconst 1, 1) := by decide +kernel
theorem dX9_exhibit_17 : decode cX9_exhibit 17 = .ok (.goto 17, 3) := by decide +kernel
theorem dX9_exhibit_20 : decode cX9_exhibit 20 = .ok (.aload_n 0, 1) := by decide +kernel
theorem dX9_exhibit_21 : decode cX9_exhibit 21 = .ok (.getfield 294, 3) := by decide +kernel
theorem dX9_exhibit_24 : decode cX9_exhibit 24 = .ok (.bipush 12, 2) := by decide +kernel
theorem dX9_exhibit_26 : decode cX9_exhibit 26 = .ok (.if_icmp .ne 7, 3) := by decide +kernel
theorem dX9_exhibit_29 : decode cX9_exhibit 29 = .ok (.iconst 2, 1) := by decide +kernel
theorem dX9_exhibit_30 : decode cX9_exhibit 30 = .ok (.goto 4, 3) := by decide +kernel
theorem dX9_exhibit_33 : decode cX9_exhibit 33 = .ok (.iconst 0, 1) := by decide +kernel
theorem dX9_exhibit_34 : decode cX9_exhibit 34 = .ok (.invokevirtual 155, 3) := by decide +kernel
theorem dX9_exhibit_37 : decode cX9_exhibit 37 = .ok (.ifCond .eq 5, 3) := by decide +kernel
theorem dX9_exhibit_40 : decode cX9_exhibit 40 = .ok (.iconst 0, 1) := by decide +kernel
theorem dX9_exhibit_41 : decode cX9_exhibit 41 = .ok (.ireturn, 1) := by decide +kernel
theorem dX9_exhibit_42 : decode cX9_exhibit 42 = .ok (.aload_n 0, 1) := by decide +kernel
theorem dX9_exhibit_43 : decode cX9_exhibit 43 = .ok (.getfield 135, 3) := by decide +kernel
theorem dX9_exhibit_46 : decode cX9_exhibit 46 = .ok (.aload_n 0, 1) := by decide +kernel
theorem dX9_exhibit_47 : decode cX9_exhibit 47 = .ok (.getfield 294, 3) := by decide +kernel
theorem dX9_exhibit_50 : decode cX9_exhibit 50 = .ok (.iload_n 2, 1) := by decide +kernel
theorem dX9_exhibit_51 : decode cX9_exhibit 51 = .ok (.iastore, 1) := by decide +kernel
theorem dX9_exhibit_52 : decode cX9_exhibit 52 = .ok (.aload_n 0, 1) := by decide +kernel
theorem dX9_exhibit_53 : decode cX9_exhibit 53 = .ok (.dup, 1) := by decide +kernel
theorem dX9_exhibit_54 : decode cX9_exhibit 54 = .ok (.getfield 294, 3) := by decide +kernel
theorem dX9_exhibit_57 : decode cX9_exhibit 57 = .ok (.iconst 1, 1) := by decide +kernel
theorem dX9_exhibit_58 : decode cX9_exhibit 58 = .ok (.iadd, 1) := by decide +kernel
theorem dX9_exhibit_59 : decode cX9_exhibit 59 = .ok (.putfield 294, 3) := by decide +kernel
theorem dX9_exhibit_62 : decode cX9_exhibit 62 = .ok (.aload_n 0, 1) := by decide +kernel
theorem dX9_exhibit_63 : decode cX9_exhibit 63 = .ok (.getfield 294, 3) := by decide +kernel
theorem dX9_exhibit_66 : decode cX9_exhibit 66 = .ok (.iconst 1, 1) := by decide +kernel
theorem dX9_exhibit_67 : decode cX9_exhibit 67 = .ok (.isub, 1) := by decide +kernel
theorem dX9_exhibit_68 : decode cX9_exhibit 68 = .ok (.ireturn, 1) := by decide +kernel
theorem dX9_hand_0 : decode cX9_hand 0 = .ok (.aload_n 0, 1) := by decide +kernel
theorem dX9_hand_1 : decode cX9_hand 1 = .ok (.aload_n 0, 1) := by decide +kernel
theorem dX9_hand_2 : decode cX9_hand 2 = .ok (.iload_n 1, 1) := by decide +kernel
theorem dX9_hand_3 : decode cX9_hand 3 = .ok (.invokevirtual 297, 3) := by decide +kernel
theorem dX9_hand_6 : decode cX9_hand 6 = .ok (.ifCond .eq 21, 3) := by decide +kernel
theorem dX9_hand_9 : decode cX9_hand 9 = .ok (.iload_n 2, 1) := by decide +kernel
theorem dX9_hand_10 : decode cX9_hand 10 = .ok (.invokestatic 184, 3) := by decide +kernel
theorem dX9_hand_13 : decode cX9_hand 13 = .ok (.ifCond .eq 14, 3) := by decide +kernel
theorem dX9_hand_16 : decode cX9_hand 16 = .ok (.iload_n 3, 1) := by decide +kernel
theorem dX9_hand_17 : decode cX9_hand 17 = .ok (.invokestatic 184, 3) := by decide +kernel
theorem dX9_hand_20 : decode cX9_hand 20 = .ok (.ifCond .eq 7, 3) := by decide +kernel
theorem dX9_hand_23 : decode cX9_hand 23 = .ok (.iconst 0, 1) := by decide +kernel
theorem dX9_hand_24 : decode cX9_hand 24 = .ok (.goto 4, 3) := by decide +kernel
theorem dX9_hand_27 : decode cX9_hand 27 = .ok (.iconst 1, 1) := by decide +kernel
theorem dX9_hand_28 : decode cX9_hand 28 = .ok (.invokevirtual 155, 3) := by decide +kernel
theorem dX9_hand_31 : decode cX9_hand 31 = .ok (.ifCond .eq 5, 3) := by decide +kernel
theorem dX9_hand_34 : decode cX9_hand 34 = .ok (.iconst 0, 1) := by decide +kernel
theorem dX9_hand_35 : decode cX9_hand 35 = .ok (.ireturn, 1) := by decide +kernel
theorem dX9_hand_36 : decode cX9_hand 36 = .ok (.aload_n 0, 1) := by decide +kernel
theorem dX9_hand_37 : decode cX9_hand 37 = .ok (.getfield 138, 3) := by decide +kernel
theorem dX9_hand_40 : decode cX9_hand 40 = .ok (.iload_n 1, 1) := by decide +kernel
theorem dX9_hand_41 : decode cX9_hand 41 = .ok (.aload_n 0, 1) := by decide +kernel
theorem dX9_hand_42 : decode cX9_hand 42 = .ok (.getfield 138, 3) := by decide +kernel
theorem dX9_hand_45 : decode cX9_hand 45 = .ok (.iload_n 1, 1) := by decide +kernel
theorem dX9_hand_46 : decode cX9_hand 46 = .ok (.baload, 1) := by decide +kernel
theorem dX9_hand_47 : decode cX9_hand 47 = .ok (.ifCond .ne 13, 3) := by decide +kernel
theorem dX9_hand_50 : decode cX9_hand 50 = .ok (.aload_n 0, 1) := by decide +kernel
theorem dX9_hand_51 : decode cX9_hand 51 = .ok (.getfield 135, 3) := by decide +kernel
theorem dX9_hand_54 : decode cX9_hand 54 = .ok (.iload_n 1, 1) := by decide +kernel
theorem dX9_hand_55 : decode cX9_hand 55 = .ok (.iaload, 1) := by decide +kernel
theorem dX9_hand_56 : decode cX9_hand 56 = .ok (.iload_n 2, 1) := by decide +kernel
theorem dX9_hand_57 : decode cX9_hand 57 = .ok (.if_icmp .eq 7, 3) := by decide +kernel
theorem dX9_hand_60 : decode cX9_hand 60 = .ok (.iconst 1, 1) := by decide +kernel
theorem dX9_hand_61 : decode cX9_hand 61 = .ok (.goto 4, 3) := by decide +kernel
theorem dX9_hand_64 : decode cX9_hand 64 = .ok (.iconst 0, 1) := by decide +kernel
theorem dX9_hand_65 : decode cX9_hand 65 = .ok (.bastore, 1) := by decide +kernel
theorem dX9_hand_66 : decode cX9_hand 66 = .ok (.aload_n 0, 1) := by decide +kernel
theorem dX9_hand_67 : decode cX9_hand 67 = .ok (.getfield 135, 3) := by decide +kernel
theorem dX9_hand_70 : decode cX9_hand 70 = .ok (.iload_n 1, 1) := by decide +kernel
theorem dX9_hand_71 : decode cX9_hand 71 = .ok (.iload_n 3, 1) := by decide +kernel
theorem dX9_hand_72 : decode cX9_hand 72 = .ok (.iastore, 1) := by decide +kernel
theorem dX9_hand_73 : decode cX9_hand 73 = .ok (.aload_n 0, 1) := by decide +kernel
theorem dX9_hand_74 : decode cX9_hand 74 = .ok (.getfield 138, 3) := by decide +kernel
theorem dX9_hand_77 : decode cX9_hand 77 = .ok (.iload_n 1, 1) := by decide +kernel
theorem dX9_hand_78 : decode cX9_hand 78 = .ok (.baload, 1) := by decide +kernel
theorem dX9_hand_79 : decode cX9_hand 79 = .ok (.ifCond .ne 7, 3) := by decide +kernel
theorem dX9_hand_82 : decode cX9_hand 82 = .ok (.iconst 1, 1) := by decide +kernel
theorem dX9_hand_83 : decode cX9_hand 83 = .ok (.goto 4, 3) := by decide +kernel
theorem dX9_hand_86 : decode cX9_hand 86 = .ok (.iconst 0, 1) := by decide +kernel
theorem dX9_hand_87 : decode cX9_hand 87 = .ok (.ireturn, 1) := by decide +kernel
theorem dX9_object_0 : decode cX9_object 0 = .ok (.aload_n 0, 1) := by decide +kernel
theorem dX9_object_1 : decode cX9_object 1 = .ok (.iload_n 1, 1) := by decide +kernel
theorem dX9_object_2 : decode cX9_object 2 = .ok (.invokevirtual 297, 3) := by decide +kernel
theorem dX9_object_5 : decode cX9_object 5 = .ok (.ifCond .eq 16, 3) := by decide +kernel
theorem dX9_object_8 : decode cX9_object 8 = .ok (.iload_n 2, 1) := by decide +kernel
theorem dX9_object_9 : decode cX9_object 9 = .ok (.iconst 0, 1) := by decide +kernel
theorem dX9_object_10 : decode cX9_object 10 = .ok (.iconst 1, 1) := by decide +kernel
theorem dX9_object_11 : decode cX9_object 11 = .ok (.invokestatic 148, 3) := by decide +kernel
theorem dX9_object_14 : decode cX9_object 14 = .ok (.ifCond .eq 7, 3) := by decide +kernel
theorem dX9_object_17 : decode cX9_object 17 = .ok (.iconst 1, 1) := by decide +kernel
theorem dX9_object_18 : decode cX9_object 18 = .ok (.goto 4, 3) := by decide +kernel
theorem dX9_object_21 : decode cX9_object 21 = .ok (.iconst 0, 1) := by decide +kernel
theorem dX9_object_22 : decode cX9_object 22 = .ok (.istore_n 3, 1) := by decide +kernel
theorem dX9_object_23 : decode cX9_object 23 = .ok (.aload_n 0, 1) := by decide +kernel
theorem dX9_object_24 : decode cX9_object 24 = .ok (.iload_n 3, 1) := by decide +kernel
theorem dX9_object_25 : decode cX9_object 25 = .ok (.ifCond .ne 7, 3) := by decide +kernel
theorem dX9_object_28 : decode cX9_object 28 = .ok (.iconst 1, 1) := by decide +kernel
theorem dX9_object_29 : decode cX9_object 29 = .ok (.goto 21, 3) := by decide +kernel
theorem dX9_object_32 : decode cX9_object 32 = .ok (.aload_n 0, 1) := by decide +kernel
theorem dX9_object_33 : decode cX9_object 33 = .ok (.getfield 141, 3) := by decide +kernel
theorem dX9_object_36 : decode cX9_object 36 = .ok (.iconst 2, 1) := by decide +kernel
theorem dX9_object_37 : decode cX9_object 37 = .ok (.iload_n 1, 1) := by decide +kernel
theorem dX9_object_38 : decode cX9_object 38 = .ok (.imul, 1) := by decide +kernel
theorem dX9_object_39 : decode cX9_object 39 = .ok (.iload_n 2, 1) := by decide +kernel
theorem dX9_object_40 : decode cX9_object 40 = .ok (.iadd, 1) := by decide +kernel
theorem dX9_object_41 : decode cX9_object 41 = .ok (.iaload, 1) := by decide +kernel
theorem dX9_object_42 : decode cX9_object 42 = .ok (.ifCond .eq 7, 3) := by decide +kernel
theorem dX9_object_45 : decode cX9_object 45 = .ok (.iconst 2, 1) := by decide +kernel
theorem dX9_object_46 : decode cX9_object 46 = .ok (.goto 4, 3) := by decide +kernel
theorem dX9_object_49 : decode cX9_object 49 = .ok (.iconst 0, 1) := by decide +kernel
theorem dX9_object_50 : decode cX9_object 50 = .ok (.invokevirtual 155, 3) := by decide +kernel
theorem dX9_object_53 : decode cX9_object 53 = .ok (.ifCond .ne 14, 3) := by decide +kernel
theorem dX9_object_56 : decode cX9_object 56 = .ok (.aload_n 0, 1) := by decide +kernel
theorem dX9_object_57 : decode cX9_object 57 = .ok (.getfield 141, 3) := by decide +kernel
theorem dX9_object_60 : decode cX9_object 60 = .ok (.iconst 2, 1) := by decide +kernel
theorem dX9_object_61 : decode cX9_object 61 = .ok (.iload_n 1, 1) := by decide +kernel
theorem dX9_object_62 : decode cX9_object 62 = .ok (.imul, 1) := by decide +kernel
theorem dX9_object_63 : decode cX9_object 63 = .ok (.iload_n 2, 1) := by decide +kernel
theorem dX9_object_64 : decode cX9_object 64 = .ok (.iadd, 1) := by decide +kernel
theorem dX9_object_65 : decode cX9_object 65 = .ok (.iconst 1, 1) := by decide +kernel
theorem dX9_object_66 : decode cX9_object 66 = .ok (.iastore, 1) := by decide +kernel
theorem dX9_object_67 : decode cX9_object 67 = .ok (.return_, 1) := by decide +kernel
theorem dX9_sustain_0 : decode cX9_sustain 0 = .ok (.aload_n 0, 1) := by decide +kernel
theorem dX9_sustain_1 : decode cX9_sustain 1 = .ok (.iload_n 1, 1) := by decide +kernel
theorem dX9_sustain_2 : decode cX9_sustain 2 = .ok (.invokevirtual 297, 3) := by decide +kernel
theorem dX9_sustain_5 : decode cX9_sustain 5 = .ok (.ifCond .eq 16, 3) := by decide +kernel
theorem dX9_sustain_8 : decode cX9_sustain 8 = .ok (.iload_n 2, 1) := by decide +kernel
theorem dX9_sustain_9 : decode cX9_sustain 9 = .ok (.iconst 0, 1) := by decide +kernel
theorem dX9_sustain_10 : decode cX9_sustain 10 = .ok (.iconst 1, 1) := by decide +kernel
theorem dX9_sustain_11 : decode cX9_sustain 11 = .ok (.invokestatic 148, 3) := by decide +kernel
theorem dX9_sustain_14 : decode cX9_sustain 14 = .ok (.ifCond .eq 7, 3) := by decide +kernel
theorem dX9_sustain_17 : decode cX9_sustain 17 = .ok (.iconst 1, 1) := by decide +kernel
theorem dX9_sustain_18 : decode cX9_sustain 18 = .ok (.goto 4, 3) := by decide +kernel
theorem dX9_sustain_21 : decode cX9_sustain 21 = .ok (.iconst 0, 1) := by decide +kernel
theorem dX9_sustain_22 : decode cX9_sustain 22 = .ok (.istore 4, 2) := by decide +kernel
theorem dX9_sustain_24 : decode cX9_sustain 24 = .ok (.aload_n 0, 1) := by decide +kernel
theorem dX9_sustain_25 : decode cX9_sustain 25 = .ok (.iload 4, 2) := by decide +kernel
theorem dX9_sustain_27 : decode cX9_sustain 27 = .ok (.ifCond .ne 7, 3) := by decide +kernel
theorem dX9_sustain_30 : decode cX9_sustain 30 = .ok (.iconst 1, 1) := by decide +kernel
theorem dX9_sustain_31 : decode cX9_sustain 31 = .ok (.goto 22, 3) := by decide +kernel
theorem dX9_sustain_34 : decode cX9_sustain 34 = .ok (.aload_n 0, 1) := by decide +kernel
theorem dX9_sustain_35 : decode cX9_sustain 35 = .ok (.getfield 141, 3) := by decide +kernel
theorem dX9_sustain_38 : decode cX9_sustain 38 = .ok (.iconst 2, 1) := by decide +kernel
theorem dX9_sustain_39 : decode cX9_sustain 39 = .ok (.iload_n 1, 1) := by decide +kernel
theorem dX9_sustain_40 : decode cX9_sustain 40 = .ok (.imul, 1) := by decide +kernel
theorem dX9_sustain_41 : decode cX9_sustain 41 = .ok (.iload_n 2, 1) := by decide +kernel
theorem dX9_sustain_42 : decode cX9_sustain 42 = .ok (.iadd, 1) := by decide +kernel
theorem dX9_sustain_43 : decode cX9_sustain 43 = .ok (.iaload, 1) := by decide +kernel
theorem dX9_sustain_44 : decode cX9_sustain 44 = .ok (.iconst 1, 1) := by decide +kernel
theorem dX9_sustain_45 : decode cX9_sustain 45 = .ok (.if_icmp .eq 7, 3) := by decide +kernel
theorem dX9_sustain_48 : decode cX9_sustain 48 = .ok (.iconst 2, 1) := by decide +kernel
theorem dX9_sustain_49 : decode cX9_sustain 49 = .ok (.goto 4, 3) := by decide +kernel
theorem dX9_sustain_52 : decode cX9_sustain 52 = .ok (.iconst 0, 1) := by decide +kernel
theorem dX9_sustain_53 : decode cX9_sustain 53 = .ok (.invokevirtual 155, 3) := by decide +kernel
theorem dX9_sustain_56 : decode cX9_sustain 56 = .ok (.ifCond .ne 22, 3) := by decide +kernel
theorem dX9_sustain_59 : decode cX9_sustain 59 = .ok (.aload_n 0, 1) := by decide +kernel
theorem dX9_sustain_60 : decode cX9_sustain 60 = .ok (.getfield 141, 3) := by decide +kernel
theorem dX9_sustain_63 : decode cX9_sustain 63 = .ok (.iconst 2, 1) := by decide +kernel
theorem dX9_sustain_64 : decode cX9_sustain 64 = .ok (.iload_n 1, 1) := by decide +kernel
theorem dX9_sustain_65 : decode cX9_sustain 65 = .ok (.imul, 1) := by decide +kernel
theorem dX9_sustain_66 : decode cX9_sustain 66 = .ok (.iload_n 2, 1) := by decide +kernel
theorem dX9_sustain_67 : decode cX9_sustain 67 = .ok (.iadd, 1) := by decide +kernel
theorem dX9_sustain_68 : decode cX9_sustain 68 = .ok (.iload_n 3, 1) := by decide +kernel
theorem dX9_sustain_69 : decode cX9_sustain 69 = .ok (.ifCond .eq 7, 3) := by decide +kernel
theorem dX9_sustain_72 : decode cX9_sustain 72 = .ok (.iconst 2, 1) := by decide +kernel
theorem dX9_sustain_73 : decode cX9_sustain 73 = .ok (.goto 4, 3) := by decide +kernel
theorem dX9_sustain_76 : decode cX9_sustain 76 = .ok (.iconst 3, 1) := by decide +kernel
theorem dX9_sustain_77 : decode cX9_sustain 77 = .ok (.iastore, 1) := by decide +kernel
theorem dX9_sustain_78 : decode cX9_sustain 78 = .ok (.return_, 1) := by decide +kernel
theorem dX9_isAdmitted_0 : decode cX9_isAdmitted 0 = .ok (.aload_n 0, 1) := by decide +kernel
theorem dX9_isAdmitted_1 : decode cX9_isAdmitted 1 = .ok (.aload_n 0, 1) := by decide +kernel
theorem dX9_isAdmitted_2 : decode cX9_isAdmitted 2 = .ok (.iload_n 1, 1) := by decide +kernel
theorem dX9_isAdmitted_3 : decode cX9_isAdmitted 3 = .ok (.invokevirtual 297, 3) := by decide +kernel
theorem dX9_isAdmitted_6 : decode cX9_isAdmitted 6 = .ok (.ifCond .eq 7, 3) := by decide +kernel
theorem dX9_isAdmitted_9 : decode cX9_isAdmitted 9 = .ok (.iconst 0, 1) := by decide +kernel
theorem dX9_isAdmitted_10 : decode cX9_isAdmitted 10 = .ok (.goto 4, 3) := by decide +kernel
theorem dX9_isAdmitted_13 : decode cX9_isAdmitted 13 = .ok (.iconst 1, 1) := by decide +kernel
theorem dX9_isAdmitted_14 : decode cX9_isAdmitted 14 = .ok (.invokevirtual 155, 3) := by decide +kernel
theorem dX9_isAdmitted_17 : decode cX9_isAdmitted 17 = .ok (.ifCond .eq 5, 3) := by decide +kernel
theorem dX9_isAdmitted_20 : decode cX9_isAdmitted 20 = .ok (.iconst 0, 1) := by decide +kernel
theorem dX9_isAdmitted_21 : decode cX9_isAdmitted 21 = .ok (.ireturn, 1) := by decide +kernel
theorem dX9_isAdmitted_22 : decode cX9_isAdmitted 22 = .ok (.aload_n 0, 1) := by decide +kernel
theorem dX9_isAdmitted_23 : decode cX9_isAdmitted 23 = .ok (.getfield 138, 3) := by decide +kernel
theorem dX9_isAdmitted_26 : decode cX9_isAdmitted 26 = .ok (.iload_n 1, 1) := by decide +kernel
theorem dX9_isAdmitted_27 : decode cX9_isAdmitted 27 = .ok (.baload, 1) := by decide +kernel
theorem dX9_isAdmitted_28 : decode cX9_isAdmitted 28 = .ok (.ifCond .ne 7, 3) := by decide +kernel
theorem dX9_isAdmitted_31 : decode cX9_isAdmitted 31 = .ok (.iconst 1, 1) := by decide +kernel
theorem dX9_isAdmitted_32 : decode cX9_isAdmitted 32 = .ok (.goto 4, 3) := by decide +kernel
theorem dX9_isAdmitted_35 : decode cX9_isAdmitted 35 = .ok (.iconst 0, 1) := by decide +kernel
theorem dX9_isAdmitted_36 : decode cX9_isAdmitted 36 = .ok (.istore_n 2, 1) := by decide +kernel
theorem dX9_isAdmitted_37 : decode cX9_isAdmitted 37 = .ok (.iconst 0, 1) := by decide +kernel
theorem dX9_isAdmitted_38 : decode cX9_isAdmitted 38 = .ok (.istore_n 3, 1) := by decide +kernel
theorem dX9_isAdmitted_39 : decode cX9_isAdmitted 39 = .ok (.iload_n 3, 1) := by decide +kernel
theorem dX9_isAdmitted_40 : decode cX9_isAdmitted 40 = .ok (.iconst 2, 1) := by decide +kernel
theorem dX9_isAdmitted_41 : decode cX9_isAdmitted 41 = .ok (.if_icmp .ge 34, 3) := by decide +kernel
theorem dX9_isAdmitted_44 : decode cX9_isAdmitted 44 = .ok (.iload_n 2, 1) := by decide +kernel
theorem dX9_isAdmitted_45 : decode cX9_isAdmitted 45 = .ok (.ifCond .eq 22, 3) := by decide +kernel
theorem dX9_isAdmitted_48 : decode cX9_isAdmitted 48 = .ok (.aload_n 0, 1) := by decide +kernel
theorem dX9_isAdmitted_49 : decode cX9_isAdmitted 49 = .ok (.getfield 141, 3) := by decide +kernel
theorem dX9_isAdmitted_52 : decode cX9_isAdmitted 52 = .ok (.iconst 2, 1) := by decide +kernel
theorem dX9_isAdmitted_53 : decode cX9_isAdmitted 53 = .ok (.iload_n 1, 1) := by decide +kernel
theorem dX9_isAdmitted_54 : decode cX9_isAdmitted 54 = .ok (.imul, 1) := by decide +kernel
theorem dX9_isAdmitted_55 : decode cX9_isAdmitted 55 = .ok (.iload_n 3, 1) := by decide +kernel
theorem dX9_isAdmitted_56 : decode cX9_isAdmitted 56 = .ok (.iadd, 1) := by decide +kernel
theorem dX9_isAdmitted_57 : decode cX9_isAdmitted 57 = .ok (.iaload, 1) := by decide +kernel
theorem dX9_isAdmitted_58 : decode cX9_isAdmitted 58 = .ok (.iconst 3, 1) := by decide +kernel
theorem dX9_isAdmitted_59 : decode cX9_isAdmitted 59 = .ok (.irem, 1) := by decide +kernel
theorem dX9_isAdmitted_60 : decode cX9_isAdmitted 60 = .ok (.ifCond .ne 7, 3) := by decide +kernel
theorem dX9_isAdmitted_63 : decode cX9_isAdmitted 63 = .ok (.iconst 1, 1) := by decide +kernel
theorem dX9_isAdmitted_64 : decode cX9_isAdmitted 64 = .ok (.goto 4, 3) := by decide +kernel
theorem dX9_isAdmitted_67 : decode cX9_isAdmitted 67 = .ok (.iconst 0, 1) := by decide +kernel
theorem dX9_isAdmitted_68 : decode cX9_isAdmitted 68 = .ok (.istore_n 2, 1) := by decide +kernel
theorem dX9_isAdmitted_69 : decode cX9_isAdmitted 69 = .ok (.iinc 3 1, 3) := by decide +kernel
theorem dX9_isAdmitted_72 : decode cX9_isAdmitted 72 = .ok (.goto (-33), 3) := by decide +kernel
theorem dX9_isAdmitted_75 : decode cX9_isAdmitted 75 = .ok (.iload_n 2, 1) := by decide +kernel
theorem dX9_isAdmitted_76 : decode cX9_isAdmitted 76 = .ok (.ireturn, 1) := by decide +kernel
theorem dX9_seal_0 : decode cX9_seal 0 = .ok (.aload_n 0, 1) := by decide +kernel
theorem dX9_seal_1 : decode cX9_seal 1 = .ok (.aload_n 0, 1) := by decide +kernel
theorem dX9_seal_2 : decode cX9_seal 2 = .ok (.iload_n 1, 1) := by decide +kernel
theorem dX9_seal_3 : decode cX9_seal 3 = .ok (.invokevirtual 174, 3) := by decide +kernel
theorem dX9_seal_6 : decode cX9_seal 6 = .ok (.ifCond .eq 7, 3) := by decide +kernel
theorem dX9_seal_9 : decode cX9_seal 9 = .ok (.iconst 0, 1) := by decide +kernel
theorem dX9_seal_10 : decode cX9_seal 10 = .ok (.goto 4, 3) := by decide +kernel
theorem dX9_seal_13 : decode cX9_seal 13 = .ok (.iconst 1, 1) := by decide +kernel
theorem dX9_seal_14 : decode cX9_seal 14 = .ok (.invokevirtual 155, 3) := by decide +kernel
theorem dX9_seal_17 : decode cX9_seal 17 = .ok (.ifCond .eq 5, 3) := by decide +kernel
theorem dX9_seal_20 : decode cX9_seal 20 = .ok (.iconst 0, 1) := by decide +kernel
theorem dX9_seal_21 : decode cX9_seal 21 = .ok (.ireturn, 1) := by decide +kernel
theorem dX9_seal_22 : decode cX9_seal 22 = .ok (.aload_n 0, 1) := by decide +kernel
theorem dX9_seal_23 : decode cX9_seal 23 = .ok (.getfield 114, 3) := by decide +kernel
theorem dX9_seal_26 : decode cX9_seal 26 = .ok (.sipush 901, 3) := by decide +kernel
theorem dX9_seal_29 : decode cX9_seal 29 = .ok (.iload_n 1, 1) := by decide +kernel
theorem dX9_seal_30 : decode cX9_seal 30 = .ok (.imul, 1) := by decide +kernel
theorem dX9_seal_31 : decode cX9_seal 31 = .ok (.aload_n 0, 1) := by decide +kernel
theorem dX9_seal_32 : decode cX9_seal 32 = .ok (.getfield 152, 3) := by decide +kernel
theorem dX9_seal_35 : decode cX9_seal 35 = .ok (.iadd, 1) := by decide +kernel
theorem dX9_seal_36 : decode cX9_seal 36 = .ok (.baload, 1) := by decide +kernel
theorem dX9_seal_37 : decode cX9_seal 37 = .ok (.istore_n 3, 1) := by decide +kernel
theorem dX9_seal_38 : decode cX9_seal 38 = .ok (.aload_n 0, 1) := by decide +kernel
theorem dX9_seal_39 : decode cX9_seal 39 = .ok (.getfield 152, 3) := by decide +kernel
theorem dX9_seal_42 : decode cX9_seal 42 = .ok (.istore 4, 2) := by decide +kernel
theorem dX9_seal_44 : decode cX9_seal 44 = .ok (.iload 4, 2) := by decide +kernel
theorem dX9_seal_46 : decode cX9_seal 46 = .ok (.sipush 900, 3) := by decide +kernel
theorem dX9_seal_49 : decode cX9_seal 49 = .ok (.if_icmp .gt 23, 3) := by decide +kernel
theorem dX9_seal_52 : decode cX9_seal 52 = .ok (.aload_n 0, 1) := by decide +kernel
theorem dX9_seal_53 : decode cX9_seal 53 = .ok (.getfield 114, 3) := by decide +kernel
theorem dX9_seal_56 : decode cX9_seal 56 = .ok (.sipush 901, 3) := by decide +kernel
theorem dX9_seal_59 : decode cX9_seal 59 = .ok (.iload_n 1, 1) := by decide +kernel
theorem dX9_seal_60 : decode cX9_seal 60 = .ok (.imul, 1) := by decide +kernel
theorem dX9_seal_61 : decode cX9_seal 61 = .ok (.iload 4, 2) := by decide +kernel
theorem dX9_seal_63 : decode cX9_seal 63 = .ok (.iadd, 1) := by decide +kernel
theorem dX9_seal_64 : decode cX9_seal 64 = .ok (.iload_n 2, 1) := by decide +kernel
theorem dX9_seal_65 : decode cX9_seal 65 = .ok (.bastore, 1) := by decide +kernel
theorem dX9_seal_66 : decode cX9_seal 66 = .ok (.iinc 4 1, 3) := by decide +kernel
theorem dX9_seal_69 : decode cX9_seal 69 = .ok (.goto (-25), 3) := by decide +kernel
theorem dX9_seal_72 : decode cX9_seal 72 = .ok (.iload_n 3, 1) := by decide +kernel
theorem dX9_seal_73 : decode cX9_seal 73 = .ok (.iload_n 2, 1) := by decide +kernel
theorem dX9_seal_74 : decode cX9_seal 74 = .ok (.if_icmp .eq 7, 3) := by decide +kernel
theorem dX9_seal_77 : decode cX9_seal 77 = .ok (.iconst 1, 1) := by decide +kernel
theorem dX9_seal_78 : decode cX9_seal 78 = .ok (.goto 4, 3) := by decide +kernel
theorem dX9_seal_81 : decode cX9_seal 81 = .ok (.iconst 0, 1) := by decide +kernel
theorem dX9_seal_82 : decode cX9_seal 82 = .ok (.ireturn, 1) := by decide +kernel
theorem dX9_maySee_0 : decode cX9_maySee 0 = .ok (.aload_n 0, 1) := by decide +kernel
theorem dX9_maySee_1 : decode cX9_maySee 1 = .ok (.iload_n 1, 1) := by decide +kernel
theorem dX9_maySee_2 : decode cX9_maySee 2 = .ok (.invokevirtual 174, 3) := by decide +kernel
theorem dX9_maySee_5 : decode cX9_maySee 5 = .ok (.ifCond .eq 14, 3) := by decide +kernel
theorem dX9_maySee_8 : decode cX9_maySee 8 = .ok (.iload_n 2, 1) := by decide +kernel
theorem dX9_maySee_9 : decode cX9_maySee 9 = .ok (.invokestatic 184, 3) := by decide +kernel
theorem dX9_maySee_12 : decode cX9_maySee 12 = .ok (.ifCond .eq 7, 3) := by decide +kernel
theorem dX9_maySee_15 : decode cX9_maySee 15 = .ok (.iconst 1, 1) := by decide +kernel
theorem dX9_maySee_16 : decode cX9_maySee 16 = .ok (.goto 4, 3) := by decide +kernel
theorem dX9_maySee_19 : decode cX9_maySee 19 = .ok (.iconst 0, 1) := by decide +kernel
theorem dX9_maySee_20 : decode cX9_maySee 20 = .ok (.istore 4, 2) := by decide +kernel
theorem dX9_maySee_22 : decode cX9_maySee 22 = .ok (.aload_n 0, 1) := by decide +kernel
theorem dX9_maySee_23 : decode cX9_maySee 23 = .ok (.iload 4, 2) := by decide +kernel
theorem dX9_maySee_25 : decode cX9_maySee 25 = .ok (.ifCond .ne 7, 3) := by decide +kernel
theorem dX9_maySee_28 : decode cX9_maySee 28 = .ok (.iconst 1, 1) := by decide +kernel
theorem dX9_maySee_29 : decode cX9_maySee 29 = .ok (.goto 20, 3) := by decide +kernel
theorem dX9_maySee_32 : decode cX9_maySee 32 = .ok (.iload_n 3, 1) := by decide +kernel
theorem dX9_maySee_33 : decode cX9_maySee 33 = .ok (.iconst 0, 1) := by decide +kernel
theorem dX9_maySee_34 : decode cX9_maySee 34 = .ok (.aload_n 0, 1) := by decide +kernel
theorem dX9_maySee_35 : decode cX9_maySee 35 = .ok (.getfield 152, 3) := by decide +kernel
theorem dX9_maySee_38 : decode cX9_maySee 38 = .ok (.invokestatic 148, 3) := by decide +kernel
theorem dX9_maySee_41 : decode cX9_maySee 41 = .ok (.ifCond .ne 7, 3) := by decide +kernel
theorem dX9_maySee_44 : decode cX9_maySee 44 = .ok (.iconst 2, 1) := by decide +kernel
theorem dX9_maySee_45 : decode cX9_maySee 45 = .ok (.goto 4, 3) := by decide +kernel
theorem dX9_maySee_48 : decode cX9_maySee 48 = .ok (.iconst 0, 1) := by decide +kernel
theorem dX9_maySee_49 : decode cX9_maySee 49 = .ok (.invokevirtual 155, 3) := by decide +kernel
theorem dX9_maySee_52 : decode cX9_maySee 52 = .ok (.ifCond .eq 5, 3) := by decide +kernel
theorem dX9_maySee_55 : decode cX9_maySee 55 = .ok (.iconst 0, 1) := by decide +kernel
theorem dX9_maySee_56 : decode cX9_maySee 56 = .ok (.ireturn, 1) := by decide +kernel
theorem dX9_maySee_57 : decode cX9_maySee 57 = .ok (.aload_n 0, 1) := by decide +kernel
theorem dX9_maySee_58 : decode cX9_maySee 58 = .ok (.getfield 114, 3) := by decide +kernel
theorem dX9_maySee_61 : decode cX9_maySee 61 = .ok (.sipush 901, 3) := by decide +kernel
theorem dX9_maySee_64 : decode cX9_maySee 64 = .ok (.iload_n 1, 1) := by decide +kernel
theorem dX9_maySee_65 : decode cX9_maySee 65 = .ok (.imul, 1) := by decide +kernel
theorem dX9_maySee_66 : decode cX9_maySee 66 = .ok (.iload_n 3, 1) := by decide +kernel
theorem dX9_maySee_67 : decode cX9_maySee 67 = .ok (.iadd, 1) := by decide +kernel
theorem dX9_maySee_68 : decode cX9_maySee 68 = .ok (.baload, 1) := by decide +kernel
theorem dX9_maySee_69 : decode cX9_maySee 69 = .ok (.ifCond .ne 19, 3) := by decide +kernel
theorem dX9_maySee_72 : decode cX9_maySee 72 = .ok (.iload_n 3, 1) := by decide +kernel
theorem dX9_maySee_73 : decode cX9_maySee 73 = .ok (.aload_n 0, 1) := by decide +kernel
theorem dX9_maySee_74 : decode cX9_maySee 74 = .ok (.getfield 68, 3) := by decide +kernel
theorem dX9_maySee_77 : decode cX9_maySee 77 = .ok (.iload_n 1, 1) := by decide +kernel
theorem dX9_maySee_78 : decode cX9_maySee 78 = .ok (.iaload, 1) := by decide +kernel
theorem dX9_maySee_79 : decode cX9_maySee 79 = .ok (.if_icmp .lt 7, 3) := by decide +kernel
theorem dX9_maySee_82 : decode cX9_maySee 82 = .ok (.iconst 1, 1) := by decide +kernel
theorem dX9_maySee_83 : decode cX9_maySee 83 = .ok (.goto 4, 3) := by decide +kernel
theorem dX9_maySee_86 : decode cX9_maySee 86 = .ok (.iconst 0, 1) := by decide +kernel
theorem dX9_maySee_87 : decode cX9_maySee 87 = .ok (.ireturn, 1) := by decide +kernel
theorem dX9_maySee_88 : decode cX9_maySee 88 = .ok (.aload_n 0, 1) := by decide +kernel
theorem dX9_maySee_89 : decode cX9_maySee 89 = .ok (.getfield 65, 3) := by decide +kernel
theorem dX9_maySee_92 : decode cX9_maySee 92 = .ok (.iload_n 1, 1) := by decide +kernel
theorem dX9_maySee_93 : decode cX9_maySee 93 = .ok (.iaload, 1) := by decide +kernel
theorem dX9_maySee_94 : decode cX9_maySee 94 = .ok (.bipush 11, 2) := by decide +kernel
theorem dX9_maySee_96 : decode cX9_maySee 96 = .ok (.if_icmp .lt 12, 3) := by decide +kernel
theorem dX9_maySee_99 : decode cX9_maySee 99 = .ok (.aload_n 0, 1) := by decide +kernel
theorem dX9_maySee_100 : decode cX9_maySee 100 = .ok (.getfield 71, 3) := by decide +kernel
theorem dX9_maySee_103 : decode cX9_maySee 103 = .ok (.iload_n 1, 1) := by decide +kernel
theorem dX9_maySee_104 : decode cX9_maySee 104 = .ok (.iaload, 1) := by decide +kernel
theorem dX9_maySee_105 : decode cX9_maySee 105 = .ok (.goto 14, 3) := by decide +kernel
theorem dX9_maySee_108 : decode cX9_maySee 108 = .ok (.aload_n 0, 1) := by decide +kernel
theorem dX9_maySee_109 : decode cX9_maySee 109 = .ok (.getfield 32, 3) := by decide +kernel
theorem dX9_maySee_112 : decode cX9_maySee 112 = .ok (.aload_n 0, 1) := by decide +kernel
theorem dX9_maySee_113 : decode cX9_maySee 113 = .ok (.getfield 71, 3) := by decide +kernel
theorem dX9_maySee_116 : decode cX9_maySee 116 = .ok (.iload_n 1, 1) := by decide +kernel
theorem dX9_maySee_117 : decode cX9_maySee 117 = .ok (.iaload, 1) := by decide +kernel
theorem dX9_maySee_118 : decode cX9_maySee 118 = .ok (.iaload, 1) := by decide +kernel
theorem dX9_maySee_119 : decode cX9_maySee 119 = .ok (.istore 5, 2) := by decide +kernel
theorem dX9_maySee_121 : decode cX9_maySee 121 = .ok (.aload_n 0, 1) := by decide +kernel
theorem dX9_maySee_122 : decode cX9_maySee 122 = .ok (.iload 5, 2) := by decide +kernel
theorem dX9_maySee_124 : decode cX9_maySee 124 = .ok (.iload_n 2, 1) := by decide +kernel
theorem dX9_maySee_125 : decode cX9_maySee 125 = .ok (.invokevirtual 187, 3) := by decide +kernel
theorem dX9_maySee_128 : decode cX9_maySee 128 = .ok (.ifCond .eq 23, 3) := by decide +kernel
theorem dX9_maySee_131 : decode cX9_maySee 131 = .ok (.aload_n 0, 1) := by decide +kernel
theorem dX9_maySee_132 : decode cX9_maySee 132 = .ok (.getfield 29, 3) := by decide +kernel
theorem dX9_maySee_135 : decode cX9_maySee 135 = .ok (.bipush 16, 2) := by decide +kernel
theorem dX9_maySee_137 : decode cX9_maySee 137 = .ok (.iload 5, 2) := by decide +kernel
theorem dX9_maySee_139 : decode cX9_maySee 139 = .ok (.imul, 1) := by decide +kernel
theorem dX9_maySee_140 : decode cX9_maySee 140 = .ok (.iload_n 2, 1) := by decide +kernel
theorem dX9_maySee_141 : decode cX9_maySee 141 = .ok (.iadd, 1) := by decide +kernel
theorem dX9_maySee_142 : decode cX9_maySee 142 = .ok (.iaload, 1) := by decide +kernel
theorem dX9_maySee_143 : decode cX9_maySee 143 = .ok (.iload_n 3, 1) := by decide +kernel
theorem dX9_maySee_144 : decode cX9_maySee 144 = .ok (.if_icmp .gt 7, 3) := by decide +kernel
theorem dX9_maySee_147 : decode cX9_maySee 147 = .ok (.iconst 1, 1) := by decide +kernel
theorem dX9_maySee_148 : decode cX9_maySee 148 = .ok (.goto 4, 3) := by decide +kernel
theorem dX9_maySee_151 : decode cX9_maySee 151 = .ok (.iconst 0, 1) := by decide +kernel
theorem dX9_maySee_152 : decode cX9_maySee 152 = .ok (.ireturn, 1) := by decide +kernel
theorem dX9_certify_0 : decode cX9_certify 0 = .ok (.aload_n 0, 1) := by decide +kernel
theorem dX9_certify_1 : decode cX9_certify 1 = .ok (.iload_n 1, 1) := by decide +kernel
theorem dX9_certify_2 : decode cX9_certify 2 = .ok (.invokevirtual 195, 3) := by decide +kernel
theorem dX9_certify_5 : decode cX9_certify 5 = .ok (.istore_n 2, 1) := by decide +kernel
theorem dX9_certify_6 : decode cX9_certify 6 = .ok (.aload_n 0, 1) := by decide +kernel
theorem dX9_certify_7 : decode cX9_certify 7 = .ok (.iload_n 2, 1) := by decide +kernel
theorem dX9_certify_8 : decode cX9_certify 8 = .ok (.ifCond .ne 7, 3) := by decide +kernel
theorem dX9_certify_11 : decode cX9_certify 11 = .ok (.iconst 1, 1) := by decide +kernel
theorem dX9_certify_12 : decode cX9_certify 12 = .ok (.goto 26, 3) := by decide +kernel
theorem dX9_certify_15 : decode cX9_certify 15 = .ok (.aload_n 0, 1) := by decide +kernel
theorem dX9_certify_16 : decode cX9_certify 16 = .ok (.getfield 50, 3) := by decide +kernel
theorem dX9_certify_19 : decode cX9_certify 19 = .ok (.iload_n 1, 1) := by decide +kernel
theorem dX9_certify_20 : decode cX9_certify 20 = .ok (.iaload, 1) := by decide +kernel
theorem dX9_certify_21 : decode cX9_certify 21 = .ok (.ifCond .ne 12, 3) := by decide +kernel
theorem dX9_certify_24 : decode cX9_certify 24 = .ok (.aload_n 0, 1) := by decide +kernel
theorem dX9_certify_25 : decode cX9_certify 25 = .ok (.getfield 41, 3) := by decide +kernel
theorem dX9_certify_28 : decode cX9_certify 28 = .ok (.iload_n 1, 1) := by decide +kernel
theorem dX9_certify_29 : decode cX9_certify 29 = .ok (.iaload, 1) := by decide +kernel
theorem dX9_certify_30 : decode cX9_certify 30 = .ok (.ifCond .eq 7, 3) := by decide +kernel
theorem dX9_certify_33 : decode cX9_certify 33 = .ok (.iconst 2, 1) := by decide +kernel
theorem dX9_certify_34 : decode cX9_certify 34 = .ok (.goto 4, 3) := by decide +kernel
theorem dX9_certify_37 : decode cX9_certify 37 = .ok (.iconst 0, 1) := by decide +kernel
theorem dX9_certify_38 : decode cX9_certify 38 = .ok (.invokevirtual 155, 3) := by decide +kernel
theorem dX9_certify_41 : decode cX9_certify 41 = .ok (.ifCond .ne 17, 3) := by decide +kernel
theorem dX9_certify_44 : decode cX9_certify 44 = .ok (.aload_n 0, 1) := by decide +kernel
theorem dX9_certify_45 : decode cX9_certify 45 = .ok (.getfield 50, 3) := by decide +kernel
theorem dX9_certify_48 : decode cX9_certify 48 = .ok (.iload_n 1, 1) := by decide +kernel
theorem dX9_certify_49 : decode cX9_certify 49 = .ok (.iconst 1, 1) := by decide +kernel
theorem dX9_certify_50 : decode cX9_certify 50 = .ok (.aload_n 0, 1) := by decide +kernel
theorem dX9_certify_51 : decode cX9_certify 51 = .ok (.getfield 35, 3) := by decide +kernel
theorem dX9_certify_54 : decode cX9_certify 54 = .ok (.iload_n 1, 1) := by decide +kernel
theorem dX9_certify_55 : decode cX9_certify 55 = .ok (.iaload, 1) := by decide +kernel
theorem dX9_certify_56 : decode cX9_certify 56 = .ok (.ishl, 1) := by decide +kernel
theorem dX9_certify_57 : decode cX9_certify 57 = .ok (.iastore, 1) := by decide +kernel
theorem dX9_certify_58 : decode cX9_certify 58 = .ok (.return_, 1) := by decide +kernel
theorem dX9_countOf_0 : decode cX9_countOf 0 = .ok (.iconst 0, 1) := by decide +kernel
theorem dX9_countOf_1 : decode cX9_countOf 1 = .ok (.istore_n 2, 1) := by decide +kernel
theorem dX9_countOf_2 : decode cX9_countOf 2 = .ok (.iconst 0, 1) := by decide +kernel
theorem dX9_countOf_3 : decode cX9_countOf 3 = .ok (.istore_n 3, 1) := by decide +kernel
theorem dX9_countOf_4 : decode cX9_countOf 4 = .ok (.iload_n 3, 1) := by decide +kernel
theorem dX9_countOf_5 : decode cX9_countOf 5 = .ok (.bipush 16, 2) := by decide +kernel
theorem dX9_countOf_7 : decode cX9_countOf 7 = .ok (.if_icmp .ge 22, 3) := by decide +kernel
theorem dX9_countOf_10 : decode cX9_countOf 10 = .ok (.iload_n 2, 1) := by decide +kernel
theorem dX9_countOf_11 : decode cX9_countOf 11 = .ok (.aload_n 0, 1) := by decide +kernel
theorem dX9_countOf_12 : decode cX9_countOf 12 = .ok (.getfield 50, 3) := by decide +kernel
theorem dX9_countOf_15 : decode cX9_countOf 15 = .ok (.iload_n 1, 1) := by decide +kernel
theorem dX9_countOf_16 : decode cX9_countOf 16 = .ok (.iaload, 1) := by decide +kernel
theorem dX9_countOf_17 : decode cX9_countOf 17 = .ok (.iload_n 3, 1) := by decide +kernel
theorem dX9_countOf_18 : decode cX9_countOf 18 = .ok (.ishr, 1) := by decide +kernel
theorem dX9_countOf_19 : decode cX9_countOf 19 = .ok (.iconst 1, 1) := by decide +kernel
theorem dX9_countOf_20 : decode cX9_countOf 20 = .ok (.iand, 1) := by decide +kernel
theorem dX9_countOf_21 : decode cX9_countOf 21 = .ok (.iadd, 1) := by decide +kernel
theorem dX9_countOf_22 : decode cX9_countOf 22 = .ok (.istore_n 2, 1) := by decide +kernel
theorem dX9_countOf_23 : decode cX9_countOf 23 = .ok (.iinc 3 1, 3) := by decide +kernel
theorem dX9_countOf_26 : decode cX9_countOf 26 = .ok (.goto (-22), 3) := by decide +kernel
theorem dX9_countOf_29 : decode cX9_countOf 29 = .ok (.iload_n 2, 1) := by decide +kernel
theorem dX9_countOf_30 : decode cX9_countOf 30 = .ok (.ireturn, 1) := by decide +kernel
theorem dX9_member_0 : decode cX9_member 0 = .ok (.aload_n 0, 1) := by decide +kernel
theorem dX9_member_1 : decode cX9_member 1 = .ok (.iload_n 1, 1) := by decide +kernel
theorem dX9_member_2 : decode cX9_member 2 = .ok (.invokevirtual 195, 3) := by decide +kernel
theorem dX9_member_5 : decode cX9_member 5 = .ok (.ifCond .eq 14, 3) := by decide +kernel
theorem dX9_member_8 : decode cX9_member 8 = .ok (.iload_n 2, 1) := by decide +kernel
theorem dX9_member_9 : decode cX9_member 9 = .ok (.invokestatic 184, 3) := by decide +kernel
theorem dX9_member_12 : decode cX9_member 12 = .ok (.ifCond .eq 7, 3) := by decide +kernel
theorem dX9_member_15 : decode cX9_member 15 = .ok (.iconst 1, 1) := by decide +kernel
theorem dX9_member_16 : decode cX9_member 16 = .ok (.goto 4, 3) := by decide +kernel
theorem dX9_member_19 : decode cX9_member 19 = .ok (.iconst 0, 1) := by decide +kernel
theorem dX9_member_20 : decode cX9_member 20 = .ok (.istore 4, 2) := by decide +kernel
theorem dX9_member_22 : decode cX9_member 22 = .ok (.iload 4, 2) := by decide +kernel
theorem dX9_member_24 : decode cX9_member 24 = .ok (.ifCond .eq 39, 3) := by decide +kernel
theorem dX9_member_27 : decode cX9_member 27 = .ok (.aload_n 0, 1) := by decide +kernel
theorem dX9_member_28 : decode cX9_member 28 = .ok (.getfield 50, 3) := by decide +kernel
theorem dX9_member_31 : decode cX9_member 31 = .ok (.iload_n 1, 1) := by decide +kernel
theorem dX9_member_32 : decode cX9_member 32 = .ok (.iaload, 1) := by decide +kernel
theorem dX9_member_33 : decode cX9_member 33 = .ok (.ifCond .eq 30, 3) := by decide +kernel
theorem dX9_member_36 : decode cX9_member 36 = .ok (.aload_n 0, 1) := by decide +kernel
theorem dX9_member_37 : decode cX9_member 37 = .ok (.getfield 41, 3) := by decide +kernel
theorem dX9_member_40 : decode cX9_member 40 = .ok (.iload_n 1, 1) := by decide +kernel
theorem dX9_member_41 : decode cX9_member 41 = .ok (.iaload, 1) := by decide +kernel
theorem dX9_member_42 : decode cX9_member 42 = .ok (.ifCond .ne 21, 3) := by decide +kernel
theorem dX9_member_45 : decode cX9_member 45 = .ok (.iload_n 3, 1) := by decide +kernel
theorem dX9_member_46 : decode cX9_member 46 = .ok (.ifCond .ne 13, 3) := by decide +kernel
theorem dX9_member_49 : decode cX9_member 49 = .ok (.aload_n 0, 1) := by decide +kernel
theorem dX9_member_50 : decode cX9_member 50 = .ok (.getfield 35, 3) := by decide +kernel
theorem dX9_member_53 : decode cX9_member 53 = .ok (.iload_n 1, 1) := by decide +kernel
theorem dX9_member_54 : decode cX9_member 54 = .ok (.iaload, 1) := by decide +kernel
theorem dX9_member_55 : decode cX9_member 55 = .ok (.iload_n 2, 1) := by decide +kernel
theorem dX9_member_56 : decode cX9_member 56 = .ok (.if_icmp .eq 7, 3) := by decide +kernel
theorem dX9_member_59 : decode cX9_member 59 = .ok (.iconst 1, 1) := by decide +kernel
theorem dX9_member_60 : decode cX9_member 60 = .ok (.goto 4, 3) := by decide +kernel
theorem dX9_member_63 : decode cX9_member 63 = .ok (.iconst 0, 1) := by decide +kernel
theorem dX9_member_64 : decode cX9_member 64 = .ok (.istore 5, 2) := by decide +kernel
theorem dX9_member_66 : decode cX9_member 66 = .ok (.aload_n 0, 1) := by decide +kernel
theorem dX9_member_67 : decode cX9_member 67 = .ok (.iload 4, 2) := by decide +kernel
theorem dX9_member_69 : decode cX9_member 69 = .ok (.ifCond .ne 7, 3) := by decide +kernel
theorem dX9_member_72 : decode cX9_member 72 = .ok (.iconst 1, 1) := by decide +kernel
theorem dX9_member_73 : decode cX9_member 73 = .ok (.goto 13, 3) := by decide +kernel
theorem dX9_member_76 : decode cX9_member 76 = .ok (.iload 5, 2) := by decide +kernel
theorem dX9_member_78 : decode cX9_member 78 = .ok (.ifCond .ne 7, 3) := by decide +kernel
theorem dX9_member_81 : decode cX9_member 81 = .ok (.iconst 2, 1) := by decide +kernel
theorem dX9_member_82 : decode cX9_member 82 = .ok (.goto 4, 3) := by decide +kernel
theorem dX9_member_85 : decode cX9_member 85 = .ok (.iconst 0, 1) := by decide +kernel
theorem dX9_member_86 : decode cX9_member 86 = .ok (.invokevirtual 155, 3) := by decide +kernel
theorem dX9_member_89 : decode cX9_member 89 = .ok (.ifCond .eq 5, 3) := by decide +kernel
theorem dX9_member_92 : decode cX9_member 92 = .ok (.iconst 0, 1) := by decide +kernel
theorem dX9_member_93 : decode cX9_member 93 = .ok (.ireturn, 1) := by decide +kernel
theorem dX9_member_94 : decode cX9_member 94 = .ok (.aload_n 0, 1) := by decide +kernel
theorem dX9_member_95 : decode cX9_member 95 = .ok (.getfield 50, 3) := by decide +kernel
theorem dX9_member_98 : decode cX9_member 98 = .ok (.iload_n 1, 1) := by decide +kernel
theorem dX9_member_99 : decode cX9_member 99 = .ok (.iload_n 3, 1) := by decide +kernel
theorem dX9_member_100 : decode cX9_member 100 = .ok (.ifCond .eq 16, 3) := by decide +kernel
theorem dX9_member_103 : decode cX9_member 103 = .ok (.aload_n 0, 1) := by decide +kernel
theorem dX9_member_104 : decode cX9_member 104 = .ok (.getfield 50, 3) := by decide +kernel
theorem dX9_member_107 : decode cX9_member 107 = .ok (.iload_n 1, 1) := by decide +kernel
theorem dX9_member_108 : decode cX9_member 108 = .ok (.iaload, 1) := by decide +kernel
theorem dX9_member_109 : decode cX9_member 109 = .ok (.iconst 1, 1) := by decide +kernel
theorem dX9_member_110 : decode cX9_member 110 = .ok (.iload_n 2, 1) := by decide +kernel
theorem dX9_member_111 : decode cX9_member 111 = .ok (.ishl, 1) := by decide +kernel
theorem dX9_member_112 : decode cX9_member 112 = .ok (.ior, 1) := by decide +kernel
theorem dX9_member_113 : decode cX9_member 113 = .ok (.goto 15, 3) := by decide +kernel
theorem dX9_member_116 : decode cX9_member 116 = .ok (.aload_n 0, 1) := by decide +kernel
theorem dX9_member_117 : decode cX9_member 117 = .ok (.getfield 50, 3) := by decide +kernel
theorem dX9_member_120 : decode cX9_member 120 = .ok (.iload_n 1, 1) := by decide +kernel
theorem dX9_member_121 : decode cX9_member 121 = .ok (.iaload, 1) := by decide +kernel
theorem dX9_member_122 : decode cX9_member 122 = .ok (.iconst 1, 1) := by decide +kernel
theorem dX9_member_123 : decode cX9_member 123 = .ok (.iload_n 2, 1) := by decide +kernel
theorem dX9_member_124 : decode cX9_member 124 = .ok (.ishl, 1) := by decide +kernel
theorem dX9_member_125 : decode cX9_member 125 = .ok (.iconst (-1), 1) := by decide +kernel
theorem dX9_member_126 : decode cX9_member 126 = .ok (.ixor, 1) := by decide +kernel
theorem dX9_member_127 : decode cX9_member 127 = .ok (.iand, 1) := by decide +kernel
theorem dX9_member_128 : decode cX9_member 128 = .ok (.iastore, 1) := by decide +kernel
theorem dX9_member_129 : decode cX9_member 129 = .ok (.aload_n 0, 1) := by decide +kernel
theorem dX9_member_130 : decode cX9_member 130 = .ok (.iload_n 1, 1) := by decide +kernel
theorem dX9_member_131 : decode cX9_member 131 = .ok (.invokevirtual 300, 3) := by decide +kernel
theorem dX9_member_134 : decode cX9_member 134 = .ok (.ireturn, 1) := by decide +kernel
theorem dX9_share_0 : decode cX9_share 0 = .ok (.aload_n 0, 1) := by decide +kernel
theorem dX9_share_1 : decode cX9_share 1 = .ok (.iload_n 1, 1) := by decide +kernel
theorem dX9_share_2 : decode cX9_share 2 = .ok (.invokevirtual 195, 3) := by decide +kernel
theorem dX9_share_5 : decode cX9_share 5 = .ok (.ifCond .eq 14, 3) := by decide +kernel
theorem dX9_share_8 : decode cX9_share 8 = .ok (.iload_n 2, 1) := by decide +kernel
theorem dX9_share_9 : decode cX9_share 9 = .ok (.invokestatic 184, 3) := by decide +kernel
theorem dX9_share_12 : decode cX9_share 12 = .ok (.ifCond .eq 7, 3) := by decide +kernel
theorem dX9_share_15 : decode cX9_share 15 = .ok (.iconst 1, 1) := by decide +kernel
theorem dX9_share_16 : decode cX9_share 16 = .ok (.goto 4, 3) := by decide +kernel
theorem dX9_share_19 : decode cX9_share 19 = .ok (.iconst 0, 1) := by decide +kernel
theorem dX9_share_20 : decode cX9_share 20 = .ok (.istore_n 3, 1) := by decide +kernel
theorem dX9_share_21 : decode cX9_share 21 = .ok (.aload_n 0, 1) := by decide +kernel
theorem dX9_share_22 : decode cX9_share 22 = .ok (.iload_n 3, 1) := by decide +kernel
theorem dX9_share_23 : decode cX9_share 23 = .ok (.ifCond .eq 7, 3) := by decide +kernel
theorem dX9_share_26 : decode cX9_share 26 = .ok (.iconst 0, 1) := by decide +kernel
theorem dX9_share_27 : decode cX9_share 27 = .ok (.goto 4, 3) := by decide +kernel
theorem dX9_share_30 : decode cX9_share 30 = .ok (.iconst 1, 1) := by decide +kernel
theorem dX9_share_31 : decode cX9_share 31 = .ok (.invokevirtual 155, 3) := by decide +kernel
theorem dX9_share_34 : decode cX9_share 34 = .ok (.ifCond .eq 5, 3) := by decide +kernel
theorem dX9_share_37 : decode cX9_share 37 = .ok (.iconst 0, 1) := by decide +kernel
theorem dX9_share_38 : decode cX9_share 38 = .ok (.ireturn, 1) := by decide +kernel
theorem dX9_share_39 : decode cX9_share 39 = .ok (.aload_n 0, 1) := by decide +kernel
theorem dX9_share_40 : decode cX9_share 40 = .ok (.getfield 50, 3) := by decide +kernel
theorem dX9_share_43 : decode cX9_share 43 = .ok (.iload_n 1, 1) := by decide +kernel
theorem dX9_share_44 : decode cX9_share 44 = .ok (.iaload, 1) := by decide +kernel
theorem dX9_share_45 : decode cX9_share 45 = .ok (.iload_n 2, 1) := by decide +kernel
theorem dX9_share_46 : decode cX9_share 46 = .ok (.ishr, 1) := by decide +kernel
theorem dX9_share_47 : decode cX9_share 47 = .ok (.iconst 1, 1) := by decide +kernel
theorem dX9_share_48 : decode cX9_share 48 = .ok (.iand, 1) := by decide +kernel
theorem dX9_share_49 : decode cX9_share 49 = .ok (.iconst 1, 1) := by decide +kernel
theorem dX9_share_50 : decode cX9_share 50 = .ok (.if_icmp .ne 17, 3) := by decide +kernel
theorem dX9_share_53 : decode cX9_share 53 = .ok (.aload_n 0, 1) := by decide +kernel
theorem dX9_share_54 : decode cX9_share 54 = .ok (.iload_n 1, 1) := by decide +kernel
theorem dX9_share_55 : decode cX9_share 55 = .ok (.invokevirtual 262, 3) := by decide +kernel
theorem dX9_share_58 : decode cX9_share 58 = .ok (.aload_n 0, 1) := by decide +kernel
theorem dX9_share_59 : decode cX9_share 59 = .ok (.iload_n 1, 1) := by decide +kernel
theorem dX9_share_60 : decode cX9_share 60 = .ok (.invokevirtual 300, 3) := by decide +kernel
theorem dX9_share_63 : decode cX9_share 63 = .ok (.idiv, 1) := by decide +kernel
theorem dX9_share_64 : decode cX9_share 64 = .ok (.goto 4, 3) := by decide +kernel
theorem dX9_share_67 : decode cX9_share 67 = .ok (.iconst 0, 1) := by decide +kernel
theorem dX9_share_68 : decode cX9_share 68 = .ok (.ireturn, 1) := by decide +kernel
theorem dX9_today_0 : decode cX9_today 0 = .ok (.aload_n 0, 1) := by decide +kernel
theorem dX9_today_1 : decode cX9_today 1 = .ok (.iconst 0, 1) := by decide +kernel
theorem dX9_today_2 : decode cX9_today 2 = .ok (.putfield 144, 3) := by decide +kernel
theorem dX9_today_5 : decode cX9_today 5 = .ok (.aload_n 0, 1) := by decide +kernel
theorem dX9_today_6 : decode cX9_today 6 = .ok (.getfield 152, 3) := by decide +kernel
theorem dX9_today_9 : decode cX9_today 9 = .ok (.ireturn, 1) := by decide +kernel
theorem dX9_entries_0 : decode cX9_entries 0 = .ok (.aload_n 0, 1) := by decide +kernel
theorem dX9_entries_1 : decode cX9_entries 1 = .ok (.iconst 0, 1) := by decide +kernel
theorem dX9_entries_2 : decode cX9_entries 2 = .ok (.putfield 144, 3) := by decide +kernel
theorem dX9_entries_5 : decode cX9_entries 5 = .ok (.aload_n 0, 1) := by decide +kernel
theorem dX9_entries_6 : decode cX9_entries 6 = .ok (.getfield 171, 3) := by decide +kernel
theorem dX9_entries_9 : decode cX9_entries 9 = .ok (.ireturn, 1) := by decide +kernel
theorem dX9_entryAt_0 : decode cX9_entryAt 0 = .ok (.aload_n 0, 1) := by decide +kernel
theorem dX9_entryAt_1 : decode cX9_entryAt 1 = .ok (.aload_n 0, 1) := by decide +kernel
theorem dX9_entryAt_2 : decode cX9_entryAt 2 = .ok (.iload_n 1, 1) := by decide +kernel
theorem dX9_entryAt_3 : decode cX9_entryAt 3 = .ok (.invokevirtual 174, 3) := by decide +kernel
theorem dX9_entryAt_6 : decode cX9_entryAt 6 = .ok (.ifCond .eq 16, 3) := by decide +kernel
theorem dX9_entryAt_9 : decode cX9_entryAt 9 = .ok (.iload_n 2, 1) := by decide +kernel
theorem dX9_entryAt_10 : decode cX9_entryAt 10 = .ok (.iconst 0, 1) := by decide +kernel
theorem dX9_entryAt_11 : decode cX9_entryAt 11 = .ok (.iconst 4, 1) := by decide +kernel
theorem dX9_entryAt_12 : decode cX9_entryAt 12 = .ok (.invokestatic 148, 3) := by decide +kernel
theorem dX9_entryAt_15 : decode cX9_entryAt 15 = .ok (.ifCond .eq 7, 3) := by decide +kernel
theorem dX9_entryAt_18 : decode cX9_entryAt 18 = .ok (.iconst 0, 1) := by decide +kernel
theorem dX9_entryAt_19 : decode cX9_entryAt 19 = .ok (.goto 4, 3) := by decide +kernel
theorem dX9_entryAt_22 : decode cX9_entryAt 22 = .ok (.iconst 1, 1) := by decide +kernel
theorem dX9_entryAt_23 : decode cX9_entryAt 23 = .ok (.invokevirtual 155, 3) := by decide +kernel
theorem dX9_entryAt_26 : decode cX9_entryAt 26 = .ok (.ifCond .eq 5, 3) := by decide +kernel
theorem dX9_entryAt_29 : decode cX9_entryAt 29 = .ok (.iconst 0, 1) := by decide +kernel
theorem dX9_entryAt_30 : decode cX9_entryAt 30 = .ok (.ireturn, 1) := by decide +kernel
theorem dX9_entryAt_31 : decode cX9_entryAt 31 = .ok (.iload_n 2, 1) := by decide +kernel
theorem dX9_entryAt_32 : decode cX9_entryAt 32 = .ok (.ifCond .ne 12, 3) := by decide +kernel
theorem dX9_entryAt_35 : decode cX9_entryAt 35 = .ok (.aload_n 0, 1) := by decide +kernel
theorem dX9_entryAt_36 : decode cX9_entryAt 36 = .ok (.getfield 65, 3) := by decide +kernel
theorem dX9_entryAt_39 : decode cX9_entryAt 39 = .ok (.iload_n 1, 1) := by decide +kernel
theorem dX9_entryAt_40 : decode cX9_entryAt 40 = .ok (.iaload, 1) := by decide +kernel
theorem dX9_entryAt_41 : decode cX9_entryAt 41 = .ok (.goto 51, 3) := by decide +kernel
theorem dX9_entryAt_44 : decode cX9_entryAt 44 = .ok (.iload_n 2, 1) := by decide +kernel
theorem dX9_entryAt_45 : decode cX9_entryAt 45 = .ok (.iconst 1, 1) := by decide +kernel
theorem dX9_entryAt_46 : decode cX9_entryAt 46 = .ok (.if_icmp .ne 12, 3) := by decide +kernel
theorem dX9_entryAt_49 : decode cX9_entryAt 49 = .ok (.aload_n 0, 1) := by decide +kernel
theorem dX9_entryAt_50 : decode cX9_entryAt 50 = .ok (.getfield 68, 3) := by decide +kernel
theorem dX9_entryAt_53 : decode cX9_entryAt 53 = .ok (.iload_n 1, 1) := by decide +kernel
theorem dX9_entryAt_54 : decode cX9_entryAt 54 = .ok (.iaload, 1) := by decide +kernel
theorem dX9_entryAt_55 : decode cX9_entryAt 55 = .ok (.goto 37, 3) := by decide +kernel
theorem dX9_entryAt_58 : decode cX9_entryAt 58 = .ok (.iload_n 2, 1) := by decide +kernel
theorem dX9_entryAt_59 : decode cX9_entryAt 59 = .ok (.iconst 2, 1) := by decide +kernel
theorem dX9_entryAt_60 : decode cX9_entryAt 60 = .ok (.if_icmp .ne 12, 3) := by decide +kernel
theorem dX9_entryAt_63 : decode cX9_entryAt 63 = .ok (.aload_n 0, 1) := by decide +kernel
theorem dX9_entryAt_64 : decode cX9_entryAt 64 = .ok (.getfield 71, 3) := by decide +kernel
theorem dX9_entryAt_67 : decode cX9_entryAt 67 = .ok (.iload_n 1, 1) := by decide +kernel
theorem dX9_entryAt_68 : decode cX9_entryAt 68 = .ok (.iaload, 1) := by decide +kernel
theorem dX9_entryAt_69 : decode cX9_entryAt 69 = .ok (.goto 23, 3) := by decide +kernel
theorem dX9_entryAt_72 : decode cX9_entryAt 72 = .ok (.iload_n 2, 1) := by decide +kernel
theorem dX9_entryAt_73 : decode cX9_entryAt 73 = .ok (.iconst 3, 1) := by decide +kernel
theorem dX9_entryAt_74 : decode cX9_entryAt 74 = .ok (.if_icmp .ne 12, 3) := by decide +kernel
theorem dX9_entryAt_77 : decode cX9_entryAt 77 = .ok (.aload_n 0, 1) := by decide +kernel
theorem dX9_entryAt_78 : decode cX9_entryAt 78 = .ok (.getfield 74, 3) := by decide +kernel
theorem dX9_entryAt_81 : decode cX9_entryAt 81 = .ok (.iload_n 1, 1) := by decide +kernel
theorem dX9_entryAt_82 : decode cX9_entryAt 82 = .ok (.iaload, 1) := by decide +kernel
theorem dX9_entryAt_83 : decode cX9_entryAt 83 = .ok (.goto 9, 3) := by decide +kernel
theorem dX9_entryAt_86 : decode cX9_entryAt 86 = .ok (.aload_n 0, 1) := by decide +kernel
theorem dX9_entryAt_87 : decode cX9_entryAt 87 = .ok (.getfield 77, 3) := by decide +kernel
theorem dX9_entryAt_90 : decode cX9_entryAt 90 = .ok (.iload_n 1, 1) := by decide +kernel
theorem dX9_entryAt_91 : decode cX9_entryAt 91 = .ok (.iaload, 1) := by decide +kernel
theorem dX9_entryAt_92 : decode cX9_entryAt 92 = .ok (.ireturn, 1) := by decide +kernel
theorem dX9_counts_0 : decode cX9_counts 0 = .ok (.aload_n 0, 1) := by decide +kernel
theorem dX9_counts_1 : decode cX9_counts 1 = .ok (.aload_n 0, 1) := by decide +kernel
theorem dX9_counts_2 : decode cX9_counts 2 = .ok (.iload_n 1, 1) := by decide +kernel
theorem dX9_counts_3 : decode cX9_counts 3 = .ok (.invokevirtual 174, 3) := by decide +kernel
theorem dX9_counts_6 : decode cX9_counts 6 = .ok (.ifCond .eq 7, 3) := by decide +kernel
theorem dX9_counts_9 : decode cX9_counts 9 = .ok (.iconst 0, 1) := by decide +kernel
theorem dX9_counts_10 : decode cX9_counts 10 = .ok (.goto 4, 3) := by decide +kernel
theorem dX9_counts_13 : decode cX9_counts 13 = .ok (.iconst 1, 1) := by decide +kernel
theorem dX9_counts_14 : decode cX9_counts 14 = .ok (.invokevirtual 155, 3) := by decide +kernel
theorem dX9_counts_17 : decode cX9_counts 17 = .ok (.ifCond .ne 15, 3) := by decide +kernel
theorem dX9_counts_20 : decode cX9_counts 20 = .ok (.aload_n 0, 1) := by decide +kernel
theorem dX9_counts_21 : decode cX9_counts 21 = .ok (.iload_n 1, 1) := by decide +kernel
theorem dX9_counts_22 : decode cX9_counts 22 = .ok (.invokevirtual 214, 3) := by decide +kernel
theorem dX9_counts_25 : decode cX9_counts 25 = .ok (.ifCond .eq 7, 3) := by decide +kernel
theorem dX9_counts_28 : decode cX9_counts 28 = .ok (.iconst 1, 1) := by decide +kernel
theorem dX9_counts_29 : decode cX9_counts 29 = .ok (.goto 4, 3) := by decide +kernel
theorem dX9_counts_32 : decode cX9_counts 32 = .ok (.iconst 0, 1) := by decide +kernel
theorem dX9_counts_33 : decode cX9_counts 33 = .ok (.ireturn, 1) := by decide +kernel
theorem dX9_stateOf_0 : decode cX9_stateOf 0 = .ok (.aload_n 0, 1) := by decide +kernel
theorem dX9_stateOf_1 : decode cX9_stateOf 1 = .ok (.aload_n 0, 1) := by decide +kernel
theorem dX9_stateOf_2 : decode cX9_stateOf 2 = .ok (.iload_n 1, 1) := by decide +kernel
theorem dX9_stateOf_3 : decode cX9_stateOf 3 = .ok (.invokevirtual 195, 3) := by decide +kernel
theorem dX9_stateOf_6 : decode cX9_stateOf 6 = .ok (.ifCond .eq 7, 3) := by decide +kernel
theorem dX9_stateOf_9 : decode cX9_stateOf 9 = .ok (.iconst 0, 1) := by decide +kernel
theorem dX9_stateOf_10 : decode cX9_stateOf 10 = .ok (.goto 4, 3) := by decide +kernel
theorem dX9_stateOf_13 : decode cX9_stateOf 13 = .ok (.iconst 1, 1) := by decide +kernel
theorem dX9_stateOf_14 : decode cX9_stateOf 14 = .ok (.invokevirtual 155, 3) := by decide +kernel
theorem dX9_stateOf_17 : decode cX9_stateOf 17 = .ok (.ifCond .eq 7, 3) := by decide +kernel
theorem dX9_stateOf_20 : decode cX9_stateOf 20 = .ok (.iconst 0, 1) := by decide +kernel
theorem dX9_stateOf_21 : decode cX9_stateOf 21 = .ok (.goto 9, 3) := by decide +kernel
theorem dX9_stateOf_24 : decode cX9_stateOf 24 = .ok (.aload_n 0, 1) := by decide +kernel
theorem dX9_stateOf_25 : decode cX9_stateOf 25 = .ok (.getfield 41, 3) := by decide +kernel
theorem dX9_stateOf_28 : decode cX9_stateOf 28 = .ok (.iload_n 1, 1) := by decide +kernel
theorem dX9_stateOf_29 : decode cX9_stateOf 29 = .ok (.iaload, 1) := by decide +kernel
theorem dX9_stateOf_30 : decode cX9_stateOf 30 = .ok (.ireturn, 1) := by decide +kernel
theorem dX9_stateByDocket_0 : decode cX9_stateByDocket 0 = .ok (.aload_n 0, 1) := by decide +kernel
theorem dX9_stateByDocket_1 : decode cX9_stateByDocket 1 = .ok (.iload_n 1, 1) := by decide +kernel
theorem dX9_stateByDocket_2 : decode cX9_stateByDocket 2 = .ok (.invokevirtual 303, 3) := by decide +kernel
theorem dX9_stateByDocket_5 : decode cX9_stateByDocket 5 = .ok (.ireturn, 1) := by decide +kernel
theorem dX9_amountOf_0 : decode cX9_amountOf 0 = .ok (.aload_n 0, 1) := by decide +kernel
theorem dX9_amountOf_1 : decode cX9_amountOf 1 = .ok (.aload_n 0, 1) := by decide +kernel
theorem dX9_amountOf_2 : decode cX9_amountOf 2 = .ok (.iload_n 1, 1) := by decide +kernel
theorem dX9_amountOf_3 : decode cX9_amountOf 3 = .ok (.invokevirtual 195, 3) := by decide +kernel
theorem dX9_amountOf_6 : decode cX9_amountOf 6 = .ok (.ifCond .eq 7, 3) := by decide +kernel
theorem dX9_amountOf_9 : decode cX9_amountOf 9 = .ok (.iconst 0, 1) := by decide +kernel
theorem dX9_amountOf_10 : decode cX9_amountOf 10 = .ok (.goto 4, 3) := by decide +kernel
theorem dX9_amountOf_13 : decode cX9_amountOf 13 = .ok (.iconst 1, 1) := by decide +kernel
theorem dX9_amountOf_14 : decode cX9_amountOf 14 = .ok (.invokevirtual 155, 3) := by decide +kernel
theorem dX9_amountOf_17 : decode cX9_amountOf 17 = .ok (.ifCond .eq 7, 3) := by decide +kernel
theorem dX9_amountOf_20 : decode cX9_amountOf 20 = .ok (.iconst 0, 1) := by decide +kernel
theorem dX9_amountOf_21 : decode cX9_amountOf 21 = .ok (.goto 9, 3) := by decide +kernel
theorem dX9_amountOf_24 : decode cX9_amountOf 24 = .ok (.aload_n 0, 1) := by decide +kernel
theorem dX9_amountOf_25 : decode cX9_amountOf 25 = .ok (.getfield 44, 3) := by decide +kernel
theorem dX9_amountOf_28 : decode cX9_amountOf 28 = .ok (.iload_n 1, 1) := by decide +kernel
theorem dX9_amountOf_29 : decode cX9_amountOf 29 = .ok (.iaload, 1) := by decide +kernel
theorem dX9_amountOf_30 : decode cX9_amountOf 30 = .ok (.ireturn, 1) := by decide +kernel
theorem dX9_balance_0 : decode cX9_balance 0 = .ok (.aload_n 0, 1) := by decide +kernel
theorem dX9_balance_1 : decode cX9_balance 1 = .ok (.aload_n 0, 1) := by decide +kernel
theorem dX9_balance_2 : decode cX9_balance 2 = .ok (.iload_n 1, 1) := by decide +kernel
theorem dX9_balance_3 : decode cX9_balance 3 = .ok (.invokevirtual 195, 3) := by decide +kernel
theorem dX9_balance_6 : decode cX9_balance 6 = .ok (.ifCond .eq 7, 3) := by decide +kernel
theorem dX9_balance_9 : decode cX9_balance 9 = .ok (.iconst 0, 1) := by decide +kernel
theorem dX9_balance_10 : decode cX9_balance 10 = .ok (.goto 4, 3) := by decide +kernel
theorem dX9_balance_13 : decode cX9_balance 13 = .ok (.iconst 1, 1) := by decide +kernel
theorem dX9_balance_14 : decode cX9_balance 14 = .ok (.invokevirtual 155, 3) := by decide +kernel
theorem dX9_balance_17 : decode cX9_balance 17 = .ok (.ifCond .eq 7, 3) := by decide +kernel
theorem dX9_balance_20 : decode cX9_balance 20 = .ok (.iconst 0, 1) := by decide +kernel
theorem dX9_balance_21 : decode cX9_balance 21 = .ok (.goto 8, 3) := by decide +kernel
theorem dX9_balance_24 : decode cX9_balance 24 = .ok (.aload_n 0, 1) := by decide +kernel
theorem dX9_balance_25 : decode cX9_balance 25 = .ok (.iload_n 1, 1) := by decide +kernel
theorem dX9_balance_26 : decode cX9_balance 26 = .ok (.invokevirtual 268, 3) := by decide +kernel
theorem dX9_balance_29 : decode cX9_balance 29 = .ok (.ireturn, 1) := by decide +kernel
theorem dX9_caseOf_0 : decode cX9_caseOf 0 = .ok (.aload_n 0, 1) := by decide +kernel
theorem dX9_caseOf_1 : decode cX9_caseOf 1 = .ok (.aload_n 0, 1) := by decide +kernel
theorem dX9_caseOf_2 : decode cX9_caseOf 2 = .ok (.iload_n 1, 1) := by decide +kernel
theorem dX9_caseOf_3 : decode cX9_caseOf 3 = .ok (.invokevirtual 195, 3) := by decide +kernel
theorem dX9_caseOf_6 : decode cX9_caseOf 6 = .ok (.ifCond .eq 7, 3) := by decide +kernel
theorem dX9_caseOf_9 : decode cX9_caseOf 9 = .ok (.iconst 0, 1) := by decide +kernel
theorem dX9_caseOf_10 : decode cX9_caseOf 10 = .ok (.goto 4, 3) := by decide +kernel
theorem dX9_caseOf_13 : decode cX9_caseOf 13 = .ok (.iconst 1, 1) := by decide +kernel
theorem dX9_caseOf_14 : decode cX9_caseOf 14 = .ok (.invokevirtual 155, 3) := by decide +kernel
theorem dX9_caseOf_17 : decode cX9_caseOf 17 = .ok (.ifCond .eq 7, 3) := by decide +kernel
theorem dX9_caseOf_20 : decode cX9_caseOf 20 = .ok (.iconst 0, 1) := by decide +kernel
theorem dX9_caseOf_21 : decode cX9_caseOf 21 = .ok (.goto 9, 3) := by decide +kernel
theorem dX9_caseOf_24 : decode cX9_caseOf 24 = .ok (.aload_n 0, 1) := by decide +kernel
theorem dX9_caseOf_25 : decode cX9_caseOf 25 = .ok (.getfield 32, 3) := by decide +kernel
theorem dX9_caseOf_28 : decode cX9_caseOf 28 = .ok (.iload_n 1, 1) := by decide +kernel
theorem dX9_caseOf_29 : decode cX9_caseOf 29 = .ok (.iaload, 1) := by decide +kernel
theorem dX9_caseOf_30 : decode cX9_caseOf 30 = .ok (.ireturn, 1) := by decide +kernel
theorem dX9_isAnswered_0 : decode cX9_isAnswered 0 = .ok (.aload_n 0, 1) := by decide +kernel
theorem dX9_isAnswered_1 : decode cX9_isAnswered 1 = .ok (.aload_n 0, 1) := by decide +kernel
theorem dX9_isAnswered_2 : decode cX9_isAnswered 2 = .ok (.iload_n 1, 1) := by decide +kernel
theorem dX9_isAnswered_3 : decode cX9_isAnswered 3 = .ok (.invokevirtual 195, 3) := by decide +kernel
theorem dX9_isAnswered_6 : decode cX9_isAnswered 6 = .ok (.ifCond .eq 7, 3) := by decide +kernel
theorem dX9_isAnswered_9 : decode cX9_isAnswered 9 = .ok (.iconst 0, 1) := by decide +kernel
theorem dX9_isAnswered_10 : decode cX9_isAnswered 10 = .ok (.goto 4, 3) := by decide +kernel
theorem dX9_isAnswered_13 : decode cX9_isAnswered 13 = .ok (.iconst 1, 1) := by decide +kernel
theorem dX9_isAnswered_14 : decode cX9_isAnswered 14 = .ok (.invokevirtual 155, 3) := by decide +kernel
theorem dX9_isAnswered_17 : decode cX9_isAnswered 17 = .ok (.ifCond .ne 15, 3) := by decide +kernel
theorem dX9_isAnswered_20 : decode cX9_isAnswered 20 = .ok (.aload_n 0, 1) := by decide +kernel
theorem dX9_isAnswered_21 : decode cX9_isAnswered 21 = .ok (.iload_n 1, 1) := by decide +kernel
theorem dX9_isAnswered_22 : decode cX9_isAnswered 22 = .ok (.invokevirtual 241, 3) := by decide +kernel
theorem dX9_isAnswered_25 : decode cX9_isAnswered 25 = .ok (.ifCond .eq 7, 3) := by decide +kernel
theorem dX9_isAnswered_28 : decode cX9_isAnswered 28 = .ok (.iconst 1, 1) := by decide +kernel
theorem dX9_isAnswered_29 : decode cX9_isAnswered 29 = .ok (.goto 4, 3) := by decide +kernel
theorem dX9_isAnswered_32 : decode cX9_isAnswered 32 = .ok (.iconst 0, 1) := by decide +kernel
theorem dX9_isAnswered_33 : decode cX9_isAnswered 33 = .ok (.ireturn, 1) := by decide +kernel
theorem dX9_due_0 : decode cX9_due 0 = .ok (.aload_n 0, 1) := by decide +kernel
theorem dX9_due_1 : decode cX9_due 1 = .ok (.aload_n 0, 1) := by decide +kernel
theorem dX9_due_2 : decode cX9_due 2 = .ok (.iload_n 1, 1) := by decide +kernel
theorem dX9_due_3 : decode cX9_due 3 = .ok (.iload_n 2, 1) := by decide +kernel
theorem dX9_due_4 : decode cX9_due 4 = .ok (.invokevirtual 272, 3) := by decide +kernel
theorem dX9_due_7 : decode cX9_due 7 = .ok (.ifCond .eq 7, 3) := by decide +kernel
theorem dX9_due_10 : decode cX9_due 10 = .ok (.iconst 0, 1) := by decide +kernel
theorem dX9_due_11 : decode cX9_due 11 = .ok (.goto 4, 3) := by decide +kernel
theorem dX9_due_14 : decode cX9_due 14 = .ok (.iconst 1, 1) := by decide +kernel
theorem dX9_due_15 : decode cX9_due 15 = .ok (.invokevirtual 155, 3) := by decide +kernel
theorem dX9_due_18 : decode cX9_due 18 = .ok (.ifCond .eq 7, 3) := by decide +kernel
theorem dX9_due_21 : decode cX9_due 21 = .ok (.iconst 0, 1) := by decide +kernel
theorem dX9_due_22 : decode cX9_due 22 = .ok (.goto 9, 3) := by decide +kernel
theorem dX9_due_25 : decode cX9_due 25 = .ok (.aload_n 0, 1) := by decide +kernel
theorem dX9_due_26 : decode cX9_due 26 = .ok (.iload_n 1, 1) := by decide +kernel
theorem dX9_due_27 : decode cX9_due 27 = .ok (.iload_n 2, 1) := by decide +kernel
theorem dX9_due_28 : decode cX9_due 28 = .ok (.invokevirtual 275, 3) := by decide +kernel
theorem dX9_due_31 : decode cX9_due 31 = .ok (.ireturn, 1) := by decide +kernel
theorem dX9_dueByDays_0 : decode cX9_dueByDays 0 = .ok (.aload_n 0, 1) := by decide +kernel
theorem dX9_dueByDays_1 : decode cX9_dueByDays 1 = .ok (.iload_n 1, 1) := by decide +kernel
theorem dX9_dueByDays_2 : decode cX9_dueByDays 2 = .ok (.iload_n 2, 1) := by decide +kernel
theorem dX9_dueByDays_3 : decode cX9_dueByDays 3 = .ok (.invokevirtual 306, 3) := by decide +kernel
theorem dX9_dueByDays_6 : decode cX9_dueByDays 6 = .ok (.ireturn, 1) := by decide +kernel
